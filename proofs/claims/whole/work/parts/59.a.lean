/-! THE LAW, call by call -/
/-- behind a call: the law's loop goes on -/
abbrev lawK (Z : gZ) (B : gB) (n : Nat × Nat) (b t : Nat) (w : gWd) : Prop := ∀ (V' : gMem) (w' : gWd) (z' : Int64), vOk w' → COk V' w' → MOk V' w' → N15 V' → w'.1.1 0 ≤ w.1.1 0 + 200 → gG Z (gOut B z') (n.1 + 12, n.2 + 130) V' 1347 [(0, .ref b), (1, .ref (B.2.1 0 0 0)), (2, .ref (B.2.1 20 0 0)), (3, .ref (B.2.1 28 0 0)), (4, .int (nI (7 * t)))] []

set_option maxRecDepth 20000 in
theorem law_addSignal {Z : gZ} {B : gB} {b L : Nat} {xs : Nat → Int32} (X : gX Z B cL_law RL) (T : gTL Z B) (hR : gRm Z = room_1) (hnL : gnL Z = 9) (SC : gSC Z B b L xs) (h0 : B.2.2.2.2 = 0) {t : Nat} (ht : 7 * t + 7 ≤ L) (hL : L ≤ 3584) {n : Nat × Nat} (hn1 : n.1 + 12 ≤ 601024) (hn2 : n.2 + 130 ≤ 7293034) {V : gMem} {w : gWd} (hv : vOk w) (hQ : COk V w) (hM : MOk V w) (hN : N15 V) (ht20 : w.1.1 0 < 2 ^ 20) (kk : lawK Z B n b t w) : gG Z B n V 140 [(0, .ref b), (1, .ref (B.2.1 0 0 0)), (2, .ref (B.2.1 20 0 0)), (3, .ref (B.2.1 28 0 0)), (4, .int (nI (7 * t)))] [] := by
  have hI := gX_I X
  refine g_aload_n X 1 rfl dL_law_140 ?_
  refine g_aload_n X 0 rfl dL_law_141 ?_
  refine g_iload X 4 rfl dL_law_142 ?_
  refine g_iconst X 1 (by decide) dL_law_144 ?_
  refine g_iadd X dL_law_145 ?_
  refine gG_top (nI ((7 * t) + 1)) (nI_1 _) ?_
  refine g_sld X SC ((7 * t) + 1) rfl (by omega) (by omega) dL_law_146 ?_
  refine g_aload_n X 3 rfl dL_law_147 ?_
  refine g_callH X T hR (k := 3) (As := [.ref (B.2.1 0 0 0), .int (xs ((7 * t) + 1)), .ref (B.2.1 28 0 0)]) (rest := []) qT_yL_addSignal qC_yL_addSignal qN_L (by decide +kernel) (by decide +kernel) qL_L_73 (h_addSignal T.st hI V w (xs (7 * t + 1)) hQ hv.1 hN) rfl rfl (Nat.le_of_ble_eq_true rfl) ⟨Nat.le_of_ble_eq_true rfl, Nat.le_of_ble_eq_true rfl, by show n.1 + 1 ≤ 601024; omega, by show n.2 + 6 ≤ 7293034; omega⟩ dL_law_148 (fun v9 V9 z9 h9 => ?_)
  obtain ⟨e9, hz9, hq9, hn9, hc9⟩ := h9
  subst e9
  refine gG_st [.int (nI (oAdd w (xs (7 * t + 1))).1)] rfl ?_
  have X := gX_out (z := z9) X
  have hI := gX_I X
  have SC := gSC_out (z := z9) SC
  have hMa := hM.cm hc9
  refine gG_n (n.1 + 1, n.2 + 6) rfl ?_
  refine g_istore X dL_law_151 [(5, .int (nI (oAdd w (xs (7 * t + 1))).1)), (0, .ref b), (1, .ref (B.2.1 0 0 0)), (2, .ref (B.2.1 20 0 0)), (3, .ref (B.2.1 28 0 0)), (4, .int (nI (7 * t)))] rfl (gnl_lt hnL (by decide)) ?_
  refine g_aload_n X 3 rfl dL_law_153 ?_
  refine g_aload_n X 1 rfl dL_law_154 ?_
  refine g_iload X 5 rfl dL_law_155 ?_
  refine g_iconst X 1 (by decide) dL_law_157 ?_
  refine g_iadd X dL_law_158 ?_
  refine gG_top (nI ((7 * t) + 1)) (nI_1 _) ?_
  refine g_sld X SC ((7 * t) + 1) rfl (by omega) (by omega) dL_law_159 ?_
  refine g_callV X hR (rest := []) mX8_addSignal lL_78 (k_MaddSignal hI V9 w (xs (7 * t + 1)) hMa hv.1) rfl rfl (Nat.le_of_ble_eq_true rfl) ⟨by decide, by decide⟩ rfl rfl rfl ⟨Nat.le_of_ble_eq_true rfl, Nat.le_of_ble_eq_true rfl, by show n.1 + 1 + 0 ≤ 601024; omega, by show n.2 + 6 + 0 ≤ 7293034; omega⟩ dL_law_160 (fun r1 V2 hz_3 => ?_)
  refine gG_rv hz_3.1 ?_
  obtain ⟨-, hth9, hM9, hmm9⟩ := hz_3
  refine gG_st [.int ((oAdd w (xs (7 * t + 1))).2.1)] rfl ?_
  refine gG_n (n.1 + 1, n.2 + 6) rfl ?_
  refine g_istore X dL_law_163 [(6, .int ((oAdd w (xs (7 * t + 1))).2.1)), (5, .int (nI (oAdd w (xs (7 * t + 1))).1)), (0, .ref b), (1, .ref (B.2.1 0 0 0)), (2, .ref (B.2.1 20 0 0)), (3, .ref (B.2.1 28 0 0)), (4, .int (nI (7 * t)))] rfl (gnl_lt hnL (by decide)) ?_
  refine g_aload_n X 4 rfl dL_law_165 ?_
  refine g_callV X hR (rest := []) mX8_thrown lL_79 (k_thrown hI V2 ) rfl rfl (Nat.le_of_ble_eq_true rfl) ⟨by decide, by decide⟩ rfl rfl rfl ⟨Nat.le_of_ble_eq_true rfl, Nat.le_of_ble_eq_true rfl, by show n.1 + 1 + 0 ≤ 601024; omega, by show n.2 + 6 + 0 ≤ 7293034; omega⟩ dL_law_166 (fun r4 V5 hz_6 => ?_)
  refine gG_ret hz_6.1 hz_6.2 ?_
  refine gG_st [.int (V2 20 0 0 0)] rfl ?_
  refine gG_n (n.1 + 1, n.2 + 6) rfl ?_
  refine gG_top (nI (oAdd w (xs (7 * t + 1))).1) (hth9) ?_
  refine g_iload X 1 rfl dL_law_169 ?_
  refine g_icmp_eq X 176 (by decide) dL_law_171 (fun c7 => ?_) (fun c7 => ?_)
  · refine g_iload X 1 rfl dL_law_176 ?_
    by_cases ho9 : (oAdd w (xs (7 * t + 1))).1 = 0
    · skip
      refine g_if_ne X 193 (by decide) dL_law_178 (fun c8 => ?_) (fun c8 => ?_)
      · first | exact absurd (fun z => z (by rw [ho9]; rfl)) c8 | exact absurd c8 (fun z => z (by rw [ho9]; rfl))
      · refine g_aload_n X 5 rfl dL_law_181 ?_
        refine g_iconst X 0 (by decide) dL_law_182 ?_
        refine g_laldO X rfl dL_law_183 ?_
        refine gG_st [.long z9] rfl ?_
        refine g_iload X 0 rfl dL_law_184 ?_
        refine g_i2l X dL_law_186 ?_
        refine g_lcmp X dL_law_187 ?_
        refine g_if_eq X 193 (by decide) dL_law_188 (fun c9 => ?_) (fun c9 => ?_)
        · refine g_goto X 1347 (by decide) dL_law_193 ?_
          refine gG_L [2, 3, 4, 5, 6] (L' := [(0, .ref b), (1, .ref (B.2.1 0 0 0)), (2, .ref (B.2.1 20 0 0)), (3, .ref (B.2.1 28 0 0)), (4, .int (nI (7 * t)))]) rfl ?_
          refine g_widen (n.1 + 12, n.2 + 130) (by show n.1 + 1 ≤ n.1 + 12; omega) (by show n.2 + 6 ≤ n.2 + 130; omega) ?_
          exact kk _ _ z9 (hv.add (xs (7 * t + 1))) (hq9.mm hmm9) hM9 (hn9.mm hmm9) (oAdd_t w (xs (7 * t + 1)))
        · first | exact absurd ((lg_cmp_eq _ _).mpr (hz9 ho9)) c9 | exact absurd c9 ((lg_cmp_eq _ _).mpr (hz9 ho9))
    · skip
      refine g_if_ne X 193 (by decide) dL_law_178 (fun c10 => ?_) (fun c10 => ?_)
      · refine g_goto X 1347 (by decide) dL_law_193 ?_
        refine gG_L [2, 3, 4, 5, 6] (L' := [(0, .ref b), (1, .ref (B.2.1 0 0 0)), (2, .ref (B.2.1 20 0 0)), (3, .ref (B.2.1 28 0 0)), (4, .int (nI (7 * t)))]) rfl ?_
        refine g_widen (n.1 + 12, n.2 + 130) (by show n.1 + 1 ≤ n.1 + 12; omega) (by show n.2 + 6 ≤ n.2 + 130; omega) ?_
        exact kk _ _ z9 (hv.add (xs (7 * t + 1))) (hq9.mm hmm9) hM9 (hn9.mm hmm9) (oAdd_t w (xs (7 * t + 1)))
      · first | exact absurd (nI_ne0 (Nat.pos_of_ne_zero ho9) (by have := oAdd_2 w (xs (7 * t + 1)); omega)) c10 | exact absurd c10 (nI_ne0 (Nat.pos_of_ne_zero ho9) (by have := oAdd_2 w (xs (7 * t + 1)); omega))
  · first | exact absurd (rfl) c7 | exact absurd c7 (rfl)

set_option maxRecDepth 20000 in
theorem law_read {Z : gZ} {B : gB} {b L : Nat} {xs : Nat → Int32} (X : gX Z B cL_law RL) (T : gTL Z B) (hR : gRm Z = room_1) (hnL : gnL Z = 9) (SC : gSC Z B b L xs) (h0 : B.2.2.2.2 = 0) {t : Nat} (ht : 7 * t + 7 ≤ L) (hL : L ≤ 3584) {n : Nat × Nat} (hn1 : n.1 + 12 ≤ 601024) (hn2 : n.2 + 130 ≤ 7293034) {V : gMem} {w : gWd} (hv : vOk w) (hQ : COk V w) (hM : MOk V w) (hN : N15 V) (ht20 : w.1.1 0 < 2 ^ 20) (kk : lawK Z B n b t w) : gG Z B n V 196 [(0, .ref b), (1, .ref (B.2.1 0 0 0)), (2, .ref (B.2.1 20 0 0)), (3, .ref (B.2.1 28 0 0)), (4, .int (nI (7 * t)))] [] := by
  have hI := gX_I X
  refine g_aload_n X 1 rfl dL_law_196 ?_
  refine g_aload_n X 0 rfl dL_law_197 ?_
  refine g_iload X 4 rfl dL_law_198 ?_
  refine g_iconst X 1 (by decide) dL_law_200 ?_
  refine g_iadd X dL_law_201 ?_
  refine gG_top (nI ((7 * t) + 1)) (nI_1 _) ?_
  refine g_sld X SC ((7 * t) + 1) rfl (by omega) (by omega) dL_law_202 ?_
  refine g_aload_n X 0 rfl dL_law_203 ?_
  refine g_iload X 4 rfl dL_law_204 ?_
  refine g_iconst X 2 (by decide) dL_law_206 ?_
  refine g_iadd X dL_law_207 ?_
  refine gG_top (nI ((7 * t) + 2)) (nI_add (7 * t) 2) ?_
  refine g_sld X SC ((7 * t) + 2) rfl (by omega) (by omega) dL_law_208 ?_
  refine g_aload_n X 3 rfl dL_law_209 ?_
  refine g_callH X T hR (k := 4) (As := [.ref (B.2.1 0 0 0), .int (xs ((7 * t) + 1)), .int (xs ((7 * t) + 2)), .ref (B.2.1 28 0 0)]) (rest := []) qT_yL_read qC_yL_read qN_L (by decide +kernel) (by decide +kernel) qL_L_83 (h_read T.st hI V w (xs (7 * t + 1)) (xs (7 * t + 2)) hQ hv.1 hN) rfl rfl (Nat.le_of_ble_eq_true rfl) ⟨Nat.le_of_ble_eq_true rfl, Nat.le_of_ble_eq_true rfl, by show n.1 + 1 ≤ 601024; omega, by show n.2 + 6 ≤ 7293034; omega⟩ dL_law_210 (fun v9 V9 z9 h9 => ?_)
  obtain ⟨e9, hz9, hq9, hn9, hc9⟩ := h9
  subst e9
  refine gG_st [.int (nI (oRead w (xs (7 * t + 1)) (xs (7 * t + 2))).1)] rfl ?_
  have X := gX_out (z := z9) X
  have hI := gX_I X
  have SC := gSC_out (z := z9) SC
  have hMa := hM.cm hc9
  refine gG_n (n.1 + 1, n.2 + 6) rfl ?_
  refine g_istore X dL_law_213 [(5, .int (nI (oRead w (xs (7 * t + 1)) (xs (7 * t + 2))).1)), (0, .ref b), (1, .ref (B.2.1 0 0 0)), (2, .ref (B.2.1 20 0 0)), (3, .ref (B.2.1 28 0 0)), (4, .int (nI (7 * t)))] rfl (gnl_lt hnL (by decide)) ?_
  refine g_aload_n X 3 rfl dL_law_215 ?_
  refine g_aload_n X 1 rfl dL_law_216 ?_
  refine g_iload X 5 rfl dL_law_217 ?_
  refine g_iconst X 1 (by decide) dL_law_219 ?_
  refine g_iadd X dL_law_220 ?_
  refine gG_top (nI ((7 * t) + 1)) (nI_1 _) ?_
  refine g_sld X SC ((7 * t) + 1) rfl (by omega) (by omega) dL_law_221 ?_
  refine g_aload_n X 1 rfl dL_law_222 ?_
  refine g_iload X 5 rfl dL_law_223 ?_
  refine g_iconst X 2 (by decide) dL_law_225 ?_
  refine g_iadd X dL_law_226 ?_
  refine gG_top (nI ((7 * t) + 2)) (nI_add (7 * t) 2) ?_
  refine g_sld X SC ((7 * t) + 2) rfl (by omega) (by omega) dL_law_227 ?_
  refine g_callV X hR (rest := []) mX8_read lL_86 (k_Mread hI V9 w (xs (7 * t + 1)) (xs (7 * t + 2)) hMa hv.1) rfl rfl (Nat.le_of_ble_eq_true rfl) ⟨by decide, by decide⟩ rfl rfl rfl ⟨Nat.le_of_ble_eq_true rfl, Nat.le_of_ble_eq_true rfl, by show n.1 + 1 + 0 ≤ 601024; omega, by show n.2 + 6 + 0 ≤ 7293034; omega⟩ dL_law_228 (fun r1 V2 hz_3 => ?_)
  refine gG_rv hz_3.1 ?_
  obtain ⟨-, hth9, hM9, hmm9⟩ := hz_3
  refine gG_st [.int ((oRead w (xs (7 * t + 1)) (xs (7 * t + 2))).2.1)] rfl ?_
  refine gG_n (n.1 + 1, n.2 + 6) rfl ?_
  refine g_istore X dL_law_231 [(6, .int ((oRead w (xs (7 * t + 1)) (xs (7 * t + 2))).2.1)), (5, .int (nI (oRead w (xs (7 * t + 1)) (xs (7 * t + 2))).1)), (0, .ref b), (1, .ref (B.2.1 0 0 0)), (2, .ref (B.2.1 20 0 0)), (3, .ref (B.2.1 28 0 0)), (4, .int (nI (7 * t)))] rfl (gnl_lt hnL (by decide)) ?_
  refine g_aload_n X 4 rfl dL_law_233 ?_
  refine g_callV X hR (rest := []) mX8_thrown lL_79 (k_thrown hI V2 ) rfl rfl (Nat.le_of_ble_eq_true rfl) ⟨by decide, by decide⟩ rfl rfl rfl ⟨Nat.le_of_ble_eq_true rfl, Nat.le_of_ble_eq_true rfl, by show n.1 + 1 + 0 ≤ 601024; omega, by show n.2 + 6 + 0 ≤ 7293034; omega⟩ dL_law_234 (fun r4 V5 hz_6 => ?_)
  refine gG_ret hz_6.1 hz_6.2 ?_
  refine gG_st [.int (V2 20 0 0 0)] rfl ?_
  refine gG_n (n.1 + 1, n.2 + 6) rfl ?_
  refine gG_top (nI (oRead w (xs (7 * t + 1)) (xs (7 * t + 2))).1) (hth9) ?_
  refine g_iload X 1 rfl dL_law_237 ?_
  refine g_icmp_eq X 244 (by decide) dL_law_239 (fun c7 => ?_) (fun c7 => ?_)
  · refine g_iload X 1 rfl dL_law_244 ?_
    by_cases ho9 : (oRead w (xs (7 * t + 1)) (xs (7 * t + 2))).1 = 0
    · skip
      refine g_if_ne X 261 (by decide) dL_law_246 (fun c8 => ?_) (fun c8 => ?_)
      · first | exact absurd (fun z => z (by rw [ho9]; rfl)) c8 | exact absurd c8 (fun z => z (by rw [ho9]; rfl))
      · refine g_aload_n X 5 rfl dL_law_249 ?_
        refine g_iconst X 0 (by decide) dL_law_250 ?_
        refine g_laldO X rfl dL_law_251 ?_
        refine gG_st [.long z9] rfl ?_
        refine g_iload X 0 rfl dL_law_252 ?_
        refine g_i2l X dL_law_254 ?_
        refine g_lcmp X dL_law_255 ?_
        refine g_if_eq X 261 (by decide) dL_law_256 (fun c9 => ?_) (fun c9 => ?_)
        · refine g_goto X 1347 (by decide) dL_law_261 ?_
          refine gG_L [2, 3, 4, 5, 6] (L' := [(0, .ref b), (1, .ref (B.2.1 0 0 0)), (2, .ref (B.2.1 20 0 0)), (3, .ref (B.2.1 28 0 0)), (4, .int (nI (7 * t)))]) rfl ?_
          refine g_widen (n.1 + 12, n.2 + 130) (by show n.1 + 1 ≤ n.1 + 12; omega) (by show n.2 + 6 ≤ n.2 + 130; omega) ?_
          exact kk _ _ z9 (hv.read (xs (7 * t + 1)) (xs (7 * t + 2))) (hq9.mm hmm9) hM9 (hn9.mm hmm9) (oRead_t w (xs (7 * t + 1)) (xs (7 * t + 2)))
        · first | exact absurd ((lg_cmp_eq _ _).mpr (hz9 ho9)) c9 | exact absurd c9 ((lg_cmp_eq _ _).mpr (hz9 ho9))
    · skip
      refine g_if_ne X 261 (by decide) dL_law_246 (fun c10 => ?_) (fun c10 => ?_)
      · refine g_goto X 1347 (by decide) dL_law_261 ?_
        refine gG_L [2, 3, 4, 5, 6] (L' := [(0, .ref b), (1, .ref (B.2.1 0 0 0)), (2, .ref (B.2.1 20 0 0)), (3, .ref (B.2.1 28 0 0)), (4, .int (nI (7 * t)))]) rfl ?_
        refine g_widen (n.1 + 12, n.2 + 130) (by show n.1 + 1 ≤ n.1 + 12; omega) (by show n.2 + 6 ≤ n.2 + 130; omega) ?_
        exact kk _ _ z9 (hv.read (xs (7 * t + 1)) (xs (7 * t + 2))) (hq9.mm hmm9) hM9 (hn9.mm hmm9) (oRead_t w (xs (7 * t + 1)) (xs (7 * t + 2)))
      · first | exact absurd (nI_ne0 (Nat.pos_of_ne_zero ho9) (by have := oRead_2 w (xs (7 * t + 1)) (xs (7 * t + 2)); omega)) c10 | exact absurd c10 (nI_ne0 (Nat.pos_of_ne_zero ho9) (by have := oRead_2 w (xs (7 * t + 1)) (xs (7 * t + 2)); omega))
  · first | exact absurd (rfl) c7 | exact absurd c7 (rfl)

set_option maxRecDepth 20000 in
theorem law_heard {Z : gZ} {B : gB} {b L : Nat} {xs : Nat → Int32} (X : gX Z B cL_law RL) (T : gTL Z B) (hR : gRm Z = room_1) (hnL : gnL Z = 9) (SC : gSC Z B b L xs) (h0 : B.2.2.2.2 = 0) {t : Nat} (ht : 7 * t + 7 ≤ L) (hL : L ≤ 3584) {n : Nat × Nat} (hn1 : n.1 + 12 ≤ 601024) (hn2 : n.2 + 130 ≤ 7293034) {V : gMem} {w : gWd} (hv : vOk w) (hQ : COk V w) (hM : MOk V w) (hN : N15 V) (ht20 : w.1.1 0 < 2 ^ 20) (kk : lawK Z B n b t w) : gG Z B n V 264 [(0, .ref b), (1, .ref (B.2.1 0 0 0)), (2, .ref (B.2.1 20 0 0)), (3, .ref (B.2.1 28 0 0)), (4, .int (nI (7 * t)))] [] := by
  have hI := gX_I X
  refine g_aload_n X 1 rfl dL_law_264 ?_
  refine g_aload_n X 0 rfl dL_law_265 ?_
  refine g_iload X 4 rfl dL_law_266 ?_
  refine g_iconst X 1 (by decide) dL_law_268 ?_
  refine g_iadd X dL_law_269 ?_
  refine gG_top (nI ((7 * t) + 1)) (nI_1 _) ?_
  refine g_sld X SC ((7 * t) + 1) rfl (by omega) (by omega) dL_law_270 ?_
  refine g_aload_n X 3 rfl dL_law_271 ?_
  refine g_callH X T hR (k := 3) (As := [.ref (B.2.1 0 0 0), .int (xs ((7 * t) + 1)), .ref (B.2.1 28 0 0)]) (rest := []) qT_yL_heard qC_yL_heard qN_L (by decide +kernel) (by decide +kernel) qL_L_87 (h_heard T.st hI V w (xs (7 * t + 1)) hQ hv.1 hN ht20) rfl rfl (Nat.le_of_ble_eq_true rfl) ⟨Nat.le_of_ble_eq_true rfl, Nat.le_of_ble_eq_true rfl, by show n.1 + 1 ≤ 601024; omega, by show n.2 + 6 ≤ 7293034; omega⟩ dL_law_272 (fun v9 V9 z9 h9 => ?_)
  obtain ⟨e9, hz9, hq9, hn9, hc9⟩ := h9
  subst e9
  refine gG_st [.int (nI (oHeard w (xs (7 * t + 1))).1)] rfl ?_
  have X := gX_out (z := z9) X
  have hI := gX_I X
  have SC := gSC_out (z := z9) SC
  have hMa := hM.cm hc9
  refine gG_n (n.1 + 1, n.2 + 6) rfl ?_
  refine g_istore X dL_law_275 [(5, .int (nI (oHeard w (xs (7 * t + 1))).1)), (0, .ref b), (1, .ref (B.2.1 0 0 0)), (2, .ref (B.2.1 20 0 0)), (3, .ref (B.2.1 28 0 0)), (4, .int (nI (7 * t)))] rfl (gnl_lt hnL (by decide)) ?_
  refine g_aload_n X 3 rfl dL_law_277 ?_
  refine g_aload_n X 1 rfl dL_law_278 ?_
  refine g_iload X 5 rfl dL_law_279 ?_
  refine g_iconst X 1 (by decide) dL_law_281 ?_
  refine g_iadd X dL_law_282 ?_
  refine gG_top (nI ((7 * t) + 1)) (nI_1 _) ?_
  refine g_sld X SC ((7 * t) + 1) rfl (by omega) (by omega) dL_law_283 ?_
  refine g_callV X hR (rest := []) mX8_heard lL_89 (k_Mheard hI V9 w (xs (7 * t + 1)) hMa hv.1 (by omega)) rfl rfl (Nat.le_of_ble_eq_true rfl) ⟨by decide, by decide⟩ rfl rfl rfl ⟨Nat.le_of_ble_eq_true rfl, Nat.le_of_ble_eq_true rfl, by show n.1 + 1 + 0 ≤ 601024; omega, by show n.2 + 6 + 0 ≤ 7293034; omega⟩ dL_law_284 (fun r1 V2 hz_3 => ?_)
  refine gG_rv hz_3.1 ?_
  obtain ⟨-, hth9, hM9, hmm9⟩ := hz_3
  refine gG_st [.int ((oHeard w (xs (7 * t + 1))).2.1)] rfl ?_
  refine gG_n (n.1 + 1, n.2 + 6) rfl ?_
  refine g_istore X dL_law_287 [(6, .int ((oHeard w (xs (7 * t + 1))).2.1)), (5, .int (nI (oHeard w (xs (7 * t + 1))).1)), (0, .ref b), (1, .ref (B.2.1 0 0 0)), (2, .ref (B.2.1 20 0 0)), (3, .ref (B.2.1 28 0 0)), (4, .int (nI (7 * t)))] rfl (gnl_lt hnL (by decide)) ?_
  refine g_aload_n X 4 rfl dL_law_289 ?_
  refine g_callV X hR (rest := []) mX8_thrown lL_79 (k_thrown hI V2 ) rfl rfl (Nat.le_of_ble_eq_true rfl) ⟨by decide, by decide⟩ rfl rfl rfl ⟨Nat.le_of_ble_eq_true rfl, Nat.le_of_ble_eq_true rfl, by show n.1 + 1 + 0 ≤ 601024; omega, by show n.2 + 6 + 0 ≤ 7293034; omega⟩ dL_law_290 (fun r4 V5 hz_6 => ?_)
  refine gG_ret hz_6.1 hz_6.2 ?_
  refine gG_st [.int (V2 20 0 0 0)] rfl ?_
  refine gG_n (n.1 + 1, n.2 + 6) rfl ?_
  refine gG_top (nI (oHeard w (xs (7 * t + 1))).1) (hth9) ?_
  refine g_iload X 1 rfl dL_law_293 ?_
  refine g_icmp_eq X 300 (by decide) dL_law_295 (fun c7 => ?_) (fun c7 => ?_)
  · refine g_iload X 1 rfl dL_law_300 ?_
    by_cases ho9 : (oHeard w (xs (7 * t + 1))).1 = 0
    · skip
      refine g_if_ne X 317 (by decide) dL_law_302 (fun c8 => ?_) (fun c8 => ?_)
      · first | exact absurd (fun z => z (by rw [ho9]; rfl)) c8 | exact absurd c8 (fun z => z (by rw [ho9]; rfl))
      · refine g_aload_n X 5 rfl dL_law_305 ?_
        refine g_iconst X 0 (by decide) dL_law_306 ?_
        refine g_laldO X rfl dL_law_307 ?_
        refine gG_st [.long z9] rfl ?_
        refine g_iload X 0 rfl dL_law_308 ?_
        refine g_i2l X dL_law_310 ?_
        refine g_lcmp X dL_law_311 ?_
        refine g_if_eq X 317 (by decide) dL_law_312 (fun c9 => ?_) (fun c9 => ?_)
        · refine g_goto X 1347 (by decide) dL_law_317 ?_
          refine gG_L [2, 3, 4, 5, 6] (L' := [(0, .ref b), (1, .ref (B.2.1 0 0 0)), (2, .ref (B.2.1 20 0 0)), (3, .ref (B.2.1 28 0 0)), (4, .int (nI (7 * t)))]) rfl ?_
          refine g_widen (n.1 + 12, n.2 + 130) (by show n.1 + 1 ≤ n.1 + 12; omega) (by show n.2 + 6 ≤ n.2 + 130; omega) ?_
          exact kk _ _ z9 (hv.heard (xs (7 * t + 1))) (hq9.mm hmm9) hM9 (hn9.mm hmm9) (oHeard_t w (xs (7 * t + 1)))
        · first | exact absurd ((lg_cmp_eq _ _).mpr (hz9 ho9)) c9 | exact absurd c9 ((lg_cmp_eq _ _).mpr (hz9 ho9))
    · skip
      refine g_if_ne X 317 (by decide) dL_law_302 (fun c10 => ?_) (fun c10 => ?_)
      · refine g_goto X 1347 (by decide) dL_law_317 ?_
        refine gG_L [2, 3, 4, 5, 6] (L' := [(0, .ref b), (1, .ref (B.2.1 0 0 0)), (2, .ref (B.2.1 20 0 0)), (3, .ref (B.2.1 28 0 0)), (4, .int (nI (7 * t)))]) rfl ?_
        refine g_widen (n.1 + 12, n.2 + 130) (by show n.1 + 1 ≤ n.1 + 12; omega) (by show n.2 + 6 ≤ n.2 + 130; omega) ?_
        exact kk _ _ z9 (hv.heard (xs (7 * t + 1))) (hq9.mm hmm9) hM9 (hn9.mm hmm9) (oHeard_t w (xs (7 * t + 1)))
      · first | exact absurd (nI_ne0 (Nat.pos_of_ne_zero ho9) (by have := oHeard_2 w (xs (7 * t + 1)); omega)) c10 | exact absurd c10 (nI_ne0 (Nat.pos_of_ne_zero ho9) (by have := oHeard_2 w (xs (7 * t + 1)); omega))
  · first | exact absurd (rfl) c7 | exact absurd c7 (rfl)

set_option maxRecDepth 20000 in
theorem law_safe {Z : gZ} {B : gB} {b L : Nat} {xs : Nat → Int32} (X : gX Z B cL_law RL) (T : gTL Z B) (hR : gRm Z = room_1) (hnL : gnL Z = 9) (SC : gSC Z B b L xs) (h0 : B.2.2.2.2 = 0) {t : Nat} (ht : 7 * t + 7 ≤ L) (hL : L ≤ 3584) {n : Nat × Nat} (hn1 : n.1 + 12 ≤ 601024) (hn2 : n.2 + 130 ≤ 7293034) {V : gMem} {w : gWd} (hv : vOk w) (hQ : COk V w) (hM : MOk V w) (hN : N15 V) (ht20 : w.1.1 0 < 2 ^ 20) (kk : lawK Z B n b t w) : gG Z B n V 320 [(0, .ref b), (1, .ref (B.2.1 0 0 0)), (2, .ref (B.2.1 20 0 0)), (3, .ref (B.2.1 28 0 0)), (4, .int (nI (7 * t)))] [] := by
  have hI := gX_I X
  refine g_aload_n X 1 rfl dL_law_320 ?_
  refine g_aload_n X 0 rfl dL_law_321 ?_
  refine g_iload X 4 rfl dL_law_322 ?_
  refine g_iconst X 1 (by decide) dL_law_324 ?_
  refine g_iadd X dL_law_325 ?_
  refine gG_top (nI ((7 * t) + 1)) (nI_1 _) ?_
  refine g_sld X SC ((7 * t) + 1) rfl (by omega) (by omega) dL_law_326 ?_
  refine g_aload_n X 3 rfl dL_law_327 ?_
  refine g_callH X T hR (k := 3) (As := [.ref (B.2.1 0 0 0), .int (xs ((7 * t) + 1)), .ref (B.2.1 28 0 0)]) (rest := []) qT_yL_safe qC_yL_safe qN_L (by decide +kernel) (by decide +kernel) qL_L_90 (h_safe T.st hI V w (xs (7 * t + 1)) hQ hv.1 hN) rfl rfl (Nat.le_of_ble_eq_true rfl) ⟨Nat.le_of_ble_eq_true rfl, Nat.le_of_ble_eq_true rfl, by show n.1 + 1 ≤ 601024; omega, by show n.2 + 6 ≤ 7293034; omega⟩ dL_law_328 (fun v9 V9 z9 h9 => ?_)
  obtain ⟨e9, hz9, hq9, hn9, hc9⟩ := h9
  subst e9
  refine gG_st [.int (nI (oSafe w (xs (7 * t + 1))).1)] rfl ?_
  have X := gX_out (z := z9) X
  have hI := gX_I X
  have SC := gSC_out (z := z9) SC
  have hMa := hM.cm hc9
  refine gG_n (n.1 + 1, n.2 + 6) rfl ?_
  refine g_istore X dL_law_331 [(5, .int (nI (oSafe w (xs (7 * t + 1))).1)), (0, .ref b), (1, .ref (B.2.1 0 0 0)), (2, .ref (B.2.1 20 0 0)), (3, .ref (B.2.1 28 0 0)), (4, .int (nI (7 * t)))] rfl (gnl_lt hnL (by decide)) ?_
  refine g_aload_n X 3 rfl dL_law_333 ?_
  refine g_aload_n X 1 rfl dL_law_334 ?_
  refine g_iload X 5 rfl dL_law_335 ?_
  refine g_iconst X 1 (by decide) dL_law_337 ?_
  refine g_iadd X dL_law_338 ?_
  refine gG_top (nI ((7 * t) + 1)) (nI_1 _) ?_
  refine g_sld X SC ((7 * t) + 1) rfl (by omega) (by omega) dL_law_339 ?_
  refine g_callV X hR (rest := []) mX8_safe lL_92 (k_Msafe hI V9 w (xs (7 * t + 1)) hMa hv.1) rfl rfl (Nat.le_of_ble_eq_true rfl) ⟨by decide, by decide⟩ rfl rfl rfl ⟨Nat.le_of_ble_eq_true rfl, Nat.le_of_ble_eq_true rfl, by show n.1 + 1 + 0 ≤ 601024; omega, by show n.2 + 6 + 0 ≤ 7293034; omega⟩ dL_law_340 (fun r1 V2 hz_3 => ?_)
  refine gG_rv hz_3.1 ?_
  obtain ⟨-, hth9, hM9, hmm9⟩ := hz_3
  refine gG_st [.int ((oSafe w (xs (7 * t + 1))).2.1)] rfl ?_
  refine gG_n (n.1 + 1, n.2 + 6) rfl ?_
  refine g_istore X dL_law_343 [(6, .int ((oSafe w (xs (7 * t + 1))).2.1)), (5, .int (nI (oSafe w (xs (7 * t + 1))).1)), (0, .ref b), (1, .ref (B.2.1 0 0 0)), (2, .ref (B.2.1 20 0 0)), (3, .ref (B.2.1 28 0 0)), (4, .int (nI (7 * t)))] rfl (gnl_lt hnL (by decide)) ?_
  refine g_aload_n X 4 rfl dL_law_345 ?_
  refine g_callV X hR (rest := []) mX8_thrown lL_79 (k_thrown hI V2 ) rfl rfl (Nat.le_of_ble_eq_true rfl) ⟨by decide, by decide⟩ rfl rfl rfl ⟨Nat.le_of_ble_eq_true rfl, Nat.le_of_ble_eq_true rfl, by show n.1 + 1 + 0 ≤ 601024; omega, by show n.2 + 6 + 0 ≤ 7293034; omega⟩ dL_law_346 (fun r4 V5 hz_6 => ?_)
  refine gG_ret hz_6.1 hz_6.2 ?_
  refine gG_st [.int (V2 20 0 0 0)] rfl ?_
  refine gG_n (n.1 + 1, n.2 + 6) rfl ?_
  refine gG_top (nI (oSafe w (xs (7 * t + 1))).1) (hth9) ?_
  refine g_iload X 1 rfl dL_law_349 ?_
  refine g_icmp_eq X 356 (by decide) dL_law_351 (fun c7 => ?_) (fun c7 => ?_)
  · refine g_iload X 1 rfl dL_law_356 ?_
    by_cases ho9 : (oSafe w (xs (7 * t + 1))).1 = 0
    · skip
      refine g_if_ne X 373 (by decide) dL_law_358 (fun c8 => ?_) (fun c8 => ?_)
      · first | exact absurd (fun z => z (by rw [ho9]; rfl)) c8 | exact absurd c8 (fun z => z (by rw [ho9]; rfl))
      · refine g_aload_n X 5 rfl dL_law_361 ?_
        refine g_iconst X 0 (by decide) dL_law_362 ?_
        refine g_laldO X rfl dL_law_363 ?_
        refine gG_st [.long z9] rfl ?_
        refine g_iload X 0 rfl dL_law_364 ?_
        refine g_i2l X dL_law_366 ?_
        refine g_lcmp X dL_law_367 ?_
        refine g_if_eq X 373 (by decide) dL_law_368 (fun c9 => ?_) (fun c9 => ?_)
        · refine g_goto X 1347 (by decide) dL_law_373 ?_
          refine gG_L [2, 3, 4, 5, 6] (L' := [(0, .ref b), (1, .ref (B.2.1 0 0 0)), (2, .ref (B.2.1 20 0 0)), (3, .ref (B.2.1 28 0 0)), (4, .int (nI (7 * t)))]) rfl ?_
          refine g_widen (n.1 + 12, n.2 + 130) (by show n.1 + 1 ≤ n.1 + 12; omega) (by show n.2 + 6 ≤ n.2 + 130; omega) ?_
          exact kk _ _ z9 (hv.safe (xs (7 * t + 1))) (hq9.mm hmm9) hM9 (hn9.mm hmm9) (oSafe_t w (xs (7 * t + 1)))
        · first | exact absurd ((lg_cmp_eq _ _).mpr (hz9 ho9)) c9 | exact absurd c9 ((lg_cmp_eq _ _).mpr (hz9 ho9))
    · skip
      refine g_if_ne X 373 (by decide) dL_law_358 (fun c10 => ?_) (fun c10 => ?_)
      · refine g_goto X 1347 (by decide) dL_law_373 ?_
        refine gG_L [2, 3, 4, 5, 6] (L' := [(0, .ref b), (1, .ref (B.2.1 0 0 0)), (2, .ref (B.2.1 20 0 0)), (3, .ref (B.2.1 28 0 0)), (4, .int (nI (7 * t)))]) rfl ?_
        refine g_widen (n.1 + 12, n.2 + 130) (by show n.1 + 1 ≤ n.1 + 12; omega) (by show n.2 + 6 ≤ n.2 + 130; omega) ?_
        exact kk _ _ z9 (hv.safe (xs (7 * t + 1))) (hq9.mm hmm9) hM9 (hn9.mm hmm9) (oSafe_t w (xs (7 * t + 1)))
      · first | exact absurd (nI_ne0 (Nat.pos_of_ne_zero ho9) (by have := oSafe_2 w (xs (7 * t + 1)); omega)) c10 | exact absurd c10 (nI_ne0 (Nat.pos_of_ne_zero ho9) (by have := oSafe_2 w (xs (7 * t + 1)); omega))
  · first | exact absurd (rfl) c7 | exact absurd c7 (rfl)

set_option maxRecDepth 20000 in
theorem law_rows {Z : gZ} {B : gB} {b L : Nat} {xs : Nat → Int32} (X : gX Z B cL_law RL) (T : gTL Z B) (hR : gRm Z = room_1) (hnL : gnL Z = 9) (SC : gSC Z B b L xs) (h0 : B.2.2.2.2 = 0) {t : Nat} (ht : 7 * t + 7 ≤ L) (hL : L ≤ 3584) {n : Nat × Nat} (hn1 : n.1 + 12 ≤ 601024) (hn2 : n.2 + 130 ≤ 7293034) {V : gMem} {w : gWd} (hv : vOk w) (hQ : COk V w) (hM : MOk V w) (hN : N15 V) (ht20 : w.1.1 0 < 2 ^ 20) (kk : lawK Z B n b t w) : gG Z B n V 376 [(0, .ref b), (1, .ref (B.2.1 0 0 0)), (2, .ref (B.2.1 20 0 0)), (3, .ref (B.2.1 28 0 0)), (4, .int (nI (7 * t)))] [] := by
  have hI := gX_I X
  refine g_aload_n X 1 rfl dL_law_376 ?_
  refine g_aload_n X 0 rfl dL_law_377 ?_
  refine g_iload X 4 rfl dL_law_378 ?_
  refine g_iconst X 1 (by decide) dL_law_380 ?_
  refine g_iadd X dL_law_381 ?_
  refine gG_top (nI ((7 * t) + 1)) (nI_1 _) ?_
  refine g_sld X SC ((7 * t) + 1) rfl (by omega) (by omega) dL_law_382 ?_
  refine g_aload_n X 3 rfl dL_law_383 ?_
  refine g_callH X T hR (k := 3) (As := [.ref (B.2.1 0 0 0), .int (xs ((7 * t) + 1)), .ref (B.2.1 28 0 0)]) (rest := []) qT_yL_rows qC_yL_rows qN_L (by decide +kernel) (by decide +kernel) qL_L_93 (h_rows T.st hI V w (xs (7 * t + 1)) hQ hv.1 hN) rfl rfl (Nat.le_of_ble_eq_true rfl) ⟨Nat.le_of_ble_eq_true rfl, Nat.le_of_ble_eq_true rfl, by show n.1 + 1 ≤ 601024; omega, by show n.2 + 6 ≤ 7293034; omega⟩ dL_law_384 (fun v9 V9 z9 h9 => ?_)
  obtain ⟨e9, hz9, hq9, hn9, hc9⟩ := h9
  subst e9
  refine gG_st [.int (nI (oRows w (xs (7 * t + 1))).1)] rfl ?_
  have X := gX_out (z := z9) X
  have hI := gX_I X
  have SC := gSC_out (z := z9) SC
  have hMa := hM.cm hc9
  refine gG_n (n.1 + 1, n.2 + 6) rfl ?_
  refine g_istore X dL_law_387 [(5, .int (nI (oRows w (xs (7 * t + 1))).1)), (0, .ref b), (1, .ref (B.2.1 0 0 0)), (2, .ref (B.2.1 20 0 0)), (3, .ref (B.2.1 28 0 0)), (4, .int (nI (7 * t)))] rfl (gnl_lt hnL (by decide)) ?_
  refine g_aload_n X 3 rfl dL_law_389 ?_
  refine g_aload_n X 1 rfl dL_law_390 ?_
  refine g_iload X 5 rfl dL_law_391 ?_
  refine g_iconst X 1 (by decide) dL_law_393 ?_
  refine g_iadd X dL_law_394 ?_
  refine gG_top (nI ((7 * t) + 1)) (nI_1 _) ?_
  refine g_sld X SC ((7 * t) + 1) rfl (by omega) (by omega) dL_law_395 ?_
  refine g_callV X hR (rest := []) mX8_rows lL_95 (k_Mrows hI V9 w (xs (7 * t + 1)) hMa hv.1 h0) rfl rfl (Nat.le_of_ble_eq_true rfl) ⟨by decide, by decide⟩ rfl rfl rfl ⟨Nat.le_of_ble_eq_true rfl, Nat.le_of_ble_eq_true rfl, by show n.1 + 1 + 1 ≤ 601024; omega, by show n.2 + 6 + 21 ≤ 7293034; omega⟩ dL_law_396 (fun r1 V2 hz_3 => ?_)
  refine gG_rv hz_3.1 ?_
  obtain ⟨-, hth9, hM9, hmm9⟩ := hz_3
  refine gG_st [.int ((oRows w (xs (7 * t + 1))).2.1)] rfl ?_
  refine gG_n (n.1 + 2, n.2 + 27) rfl ?_
  refine gG_n (n.1 + 2, n.2 + 27) rfl ?_
  refine g_istore X dL_law_399 [(6, .int ((oRows w (xs (7 * t + 1))).2.1)), (5, .int (nI (oRows w (xs (7 * t + 1))).1)), (0, .ref b), (1, .ref (B.2.1 0 0 0)), (2, .ref (B.2.1 20 0 0)), (3, .ref (B.2.1 28 0 0)), (4, .int (nI (7 * t)))] rfl (gnl_lt hnL (by decide)) ?_
  refine g_aload_n X 4 rfl dL_law_401 ?_
  refine g_callV X hR (rest := []) mX8_thrown lL_79 (k_thrown hI V2 ) rfl rfl (Nat.le_of_ble_eq_true rfl) ⟨by decide, by decide⟩ rfl rfl rfl ⟨Nat.le_of_ble_eq_true rfl, Nat.le_of_ble_eq_true rfl, by show n.1 + 2 + 0 ≤ 601024; omega, by show n.2 + 27 + 0 ≤ 7293034; omega⟩ dL_law_402 (fun r4 V5 hz_6 => ?_)
  refine gG_ret hz_6.1 hz_6.2 ?_
  refine gG_st [.int (V2 20 0 0 0)] rfl ?_
  refine gG_n (n.1 + 2, n.2 + 27) rfl ?_
  refine gG_top (nI (oRows w (xs (7 * t + 1))).1) (hth9) ?_
  refine g_iload X 1 rfl dL_law_405 ?_
  refine g_icmp_eq X 412 (by decide) dL_law_407 (fun c7 => ?_) (fun c7 => ?_)
  · refine g_iload X 1 rfl dL_law_412 ?_
    by_cases ho9 : (oRows w (xs (7 * t + 1))).1 = 0
    · skip
      refine g_if_ne X 429 (by decide) dL_law_414 (fun c8 => ?_) (fun c8 => ?_)
      · first | exact absurd (fun z => z (by rw [ho9]; rfl)) c8 | exact absurd c8 (fun z => z (by rw [ho9]; rfl))
      · refine g_aload_n X 5 rfl dL_law_417 ?_
        refine g_iconst X 0 (by decide) dL_law_418 ?_
        refine g_laldO X rfl dL_law_419 ?_
        refine gG_st [.long z9] rfl ?_
        refine g_iload X 0 rfl dL_law_420 ?_
        refine g_i2l X dL_law_422 ?_
        refine g_lcmp X dL_law_423 ?_
        refine g_if_eq X 429 (by decide) dL_law_424 (fun c9 => ?_) (fun c9 => ?_)
        · refine g_goto X 1347 (by decide) dL_law_429 ?_
          refine gG_L [2, 3, 4, 5, 6] (L' := [(0, .ref b), (1, .ref (B.2.1 0 0 0)), (2, .ref (B.2.1 20 0 0)), (3, .ref (B.2.1 28 0 0)), (4, .int (nI (7 * t)))]) rfl ?_
          refine g_widen (n.1 + 12, n.2 + 130) (by show n.1 + 2 ≤ n.1 + 12; omega) (by show n.2 + 27 ≤ n.2 + 130; omega) ?_
          exact kk _ _ z9 (hv.rows (xs (7 * t + 1))) (hq9.mm hmm9) hM9 (hn9.mm hmm9) (oRows_t w (xs (7 * t + 1)))
        · first | exact absurd ((lg_cmp_eq _ _).mpr (hz9 ho9)) c9 | exact absurd c9 ((lg_cmp_eq _ _).mpr (hz9 ho9))
    · skip
      refine g_if_ne X 429 (by decide) dL_law_414 (fun c10 => ?_) (fun c10 => ?_)
      · refine g_goto X 1347 (by decide) dL_law_429 ?_
        refine gG_L [2, 3, 4, 5, 6] (L' := [(0, .ref b), (1, .ref (B.2.1 0 0 0)), (2, .ref (B.2.1 20 0 0)), (3, .ref (B.2.1 28 0 0)), (4, .int (nI (7 * t)))]) rfl ?_
        refine g_widen (n.1 + 12, n.2 + 130) (by show n.1 + 2 ≤ n.1 + 12; omega) (by show n.2 + 27 ≤ n.2 + 130; omega) ?_
        exact kk _ _ z9 (hv.rows (xs (7 * t + 1))) (hq9.mm hmm9) hM9 (hn9.mm hmm9) (oRows_t w (xs (7 * t + 1)))
      · first | exact absurd (nI_ne0 (Nat.pos_of_ne_zero ho9) (by have := oRows_2 w (xs (7 * t + 1)); omega)) c10 | exact absurd c10 (nI_ne0 (Nat.pos_of_ne_zero ho9) (by have := oRows_2 w (xs (7 * t + 1)); omega))
  · first | exact absurd (rfl) c7 | exact absurd c7 (rfl)

set_option maxRecDepth 20000 in
theorem law_setFog {Z : gZ} {B : gB} {b L : Nat} {xs : Nat → Int32} (X : gX Z B cL_law RL) (T : gTL Z B) (hR : gRm Z = room_1) (hnL : gnL Z = 9) (SC : gSC Z B b L xs) (h0 : B.2.2.2.2 = 0) {t : Nat} (ht : 7 * t + 7 ≤ L) (hL : L ≤ 3584) {n : Nat × Nat} (hn1 : n.1 + 12 ≤ 601024) (hn2 : n.2 + 130 ≤ 7293034) {V : gMem} {w : gWd} (hv : vOk w) (hQ : COk V w) (hM : MOk V w) (hN : N15 V) (ht20 : w.1.1 0 < 2 ^ 20) (kk : lawK Z B n b t w) : gG Z B n V 432 [(0, .ref b), (1, .ref (B.2.1 0 0 0)), (2, .ref (B.2.1 20 0 0)), (3, .ref (B.2.1 28 0 0)), (4, .int (nI (7 * t)))] [] := by
  have hI := gX_I X
  refine g_aload_n X 1 rfl dL_law_432 ?_
  refine g_aload_n X 0 rfl dL_law_433 ?_
  refine g_iload X 4 rfl dL_law_434 ?_
  refine g_iconst X 1 (by decide) dL_law_436 ?_
  refine g_iadd X dL_law_437 ?_
  refine gG_top (nI ((7 * t) + 1)) (nI_1 _) ?_
  refine g_sld X SC ((7 * t) + 1) rfl (by omega) (by omega) dL_law_438 ?_
  refine g_aload_n X 0 rfl dL_law_439 ?_
  refine g_iload X 4 rfl dL_law_440 ?_
  refine g_iconst X 2 (by decide) dL_law_442 ?_
  refine g_iadd X dL_law_443 ?_
  refine gG_top (nI ((7 * t) + 2)) (nI_add (7 * t) 2) ?_
  refine g_sld X SC ((7 * t) + 2) rfl (by omega) (by omega) dL_law_444 ?_
  refine g_aload_n X 3 rfl dL_law_445 ?_
  refine g_callH X T hR (k := 4) (As := [.ref (B.2.1 0 0 0), .int (xs ((7 * t) + 1)), .int (xs ((7 * t) + 2)), .ref (B.2.1 28 0 0)]) (rest := []) qT_yL_setFog qC_yL_setFog qN_L (by decide +kernel) (by decide +kernel) qL_L_96 (h_setFog T.st hI V w (xs (7 * t + 1)) (xs (7 * t + 2)) hQ hv.1 hN) rfl rfl (Nat.le_of_ble_eq_true rfl) ⟨Nat.le_of_ble_eq_true rfl, Nat.le_of_ble_eq_true rfl, by show n.1 + 1 ≤ 601024; omega, by show n.2 + 6 ≤ 7293034; omega⟩ dL_law_446 (fun v9 V9 z9 h9 => ?_)
  obtain ⟨e9, hz9, hq9, hn9, hc9⟩ := h9
  subst e9
  refine gG_st [.int (nI (oFog w (xs (7 * t + 1)) (xs (7 * t + 2))).1)] rfl ?_
  have X := gX_out (z := z9) X
  have hI := gX_I X
  have SC := gSC_out (z := z9) SC
  have hMa := hM.cm hc9
  refine gG_n (n.1 + 1, n.2 + 6) rfl ?_
  refine g_istore X dL_law_449 [(5, .int (nI (oFog w (xs (7 * t + 1)) (xs (7 * t + 2))).1)), (0, .ref b), (1, .ref (B.2.1 0 0 0)), (2, .ref (B.2.1 20 0 0)), (3, .ref (B.2.1 28 0 0)), (4, .int (nI (7 * t)))] rfl (gnl_lt hnL (by decide)) ?_
  refine g_aload_n X 3 rfl dL_law_451 ?_
  refine g_aload_n X 1 rfl dL_law_452 ?_
  refine g_iload X 5 rfl dL_law_453 ?_
  refine g_iconst X 1 (by decide) dL_law_455 ?_
  refine g_iadd X dL_law_456 ?_
  refine gG_top (nI ((7 * t) + 1)) (nI_1 _) ?_
  refine g_sld X SC ((7 * t) + 1) rfl (by omega) (by omega) dL_law_457 ?_
  refine g_aload_n X 1 rfl dL_law_458 ?_
  refine g_iload X 5 rfl dL_law_459 ?_
  refine g_iconst X 2 (by decide) dL_law_461 ?_
  refine g_iadd X dL_law_462 ?_
  refine gG_top (nI ((7 * t) + 2)) (nI_add (7 * t) 2) ?_
  refine g_sld X SC ((7 * t) + 2) rfl (by omega) (by omega) dL_law_463 ?_
  refine g_callV X hR (rest := []) mX8_setFog lL_98 (k_MsetFog hI V9 w (xs (7 * t + 1)) (xs (7 * t + 2)) hMa hv.1) rfl rfl (Nat.le_of_ble_eq_true rfl) ⟨by decide, by decide⟩ rfl rfl rfl ⟨Nat.le_of_ble_eq_true rfl, Nat.le_of_ble_eq_true rfl, by show n.1 + 1 + 0 ≤ 601024; omega, by show n.2 + 6 + 0 ≤ 7293034; omega⟩ dL_law_464 (fun r1 V2 hz_3 => ?_)
  refine gG_rv hz_3.1 ?_
  obtain ⟨-, hth9, hM9, hmm9⟩ := hz_3
  refine gG_st [.int ((oFog w (xs (7 * t + 1)) (xs (7 * t + 2))).2.1)] rfl ?_
  refine gG_n (n.1 + 1, n.2 + 6) rfl ?_
  refine g_istore X dL_law_467 [(6, .int ((oFog w (xs (7 * t + 1)) (xs (7 * t + 2))).2.1)), (5, .int (nI (oFog w (xs (7 * t + 1)) (xs (7 * t + 2))).1)), (0, .ref b), (1, .ref (B.2.1 0 0 0)), (2, .ref (B.2.1 20 0 0)), (3, .ref (B.2.1 28 0 0)), (4, .int (nI (7 * t)))] rfl (gnl_lt hnL (by decide)) ?_
  refine g_aload_n X 4 rfl dL_law_469 ?_
  refine g_callV X hR (rest := []) mX8_thrown lL_79 (k_thrown hI V2 ) rfl rfl (Nat.le_of_ble_eq_true rfl) ⟨by decide, by decide⟩ rfl rfl rfl ⟨Nat.le_of_ble_eq_true rfl, Nat.le_of_ble_eq_true rfl, by show n.1 + 1 + 0 ≤ 601024; omega, by show n.2 + 6 + 0 ≤ 7293034; omega⟩ dL_law_470 (fun r4 V5 hz_6 => ?_)
  refine gG_ret hz_6.1 hz_6.2 ?_
  refine gG_st [.int (V2 20 0 0 0)] rfl ?_
  refine gG_n (n.1 + 1, n.2 + 6) rfl ?_
  refine gG_top (nI (oFog w (xs (7 * t + 1)) (xs (7 * t + 2))).1) (hth9) ?_
  refine g_iload X 1 rfl dL_law_473 ?_
  refine g_icmp_eq X 480 (by decide) dL_law_475 (fun c7 => ?_) (fun c7 => ?_)
  · refine g_iload X 1 rfl dL_law_480 ?_
    by_cases ho9 : (oFog w (xs (7 * t + 1)) (xs (7 * t + 2))).1 = 0
    · skip
      refine g_if_ne X 497 (by decide) dL_law_482 (fun c8 => ?_) (fun c8 => ?_)
      · first | exact absurd (fun z => z (by rw [ho9]; rfl)) c8 | exact absurd c8 (fun z => z (by rw [ho9]; rfl))
      · refine g_aload_n X 5 rfl dL_law_485 ?_
        refine g_iconst X 0 (by decide) dL_law_486 ?_
        refine g_laldO X rfl dL_law_487 ?_
        refine gG_st [.long z9] rfl ?_
        refine g_iload X 0 rfl dL_law_488 ?_
        refine g_i2l X dL_law_490 ?_
        refine g_lcmp X dL_law_491 ?_
        refine g_if_eq X 497 (by decide) dL_law_492 (fun c9 => ?_) (fun c9 => ?_)
        · refine g_goto X 1347 (by decide) dL_law_497 ?_
          refine gG_L [2, 3, 4, 5, 6] (L' := [(0, .ref b), (1, .ref (B.2.1 0 0 0)), (2, .ref (B.2.1 20 0 0)), (3, .ref (B.2.1 28 0 0)), (4, .int (nI (7 * t)))]) rfl ?_
          refine g_widen (n.1 + 12, n.2 + 130) (by show n.1 + 1 ≤ n.1 + 12; omega) (by show n.2 + 6 ≤ n.2 + 130; omega) ?_
          exact kk _ _ z9 (hv.fog (xs (7 * t + 1)) (xs (7 * t + 2))) (hq9.mm hmm9) hM9 (hn9.mm hmm9) (oFog_t w (xs (7 * t + 1)) (xs (7 * t + 2)))
        · first | exact absurd ((lg_cmp_eq _ _).mpr (hz9 ho9)) c9 | exact absurd c9 ((lg_cmp_eq _ _).mpr (hz9 ho9))
    · skip
      refine g_if_ne X 497 (by decide) dL_law_482 (fun c10 => ?_) (fun c10 => ?_)
      · refine g_goto X 1347 (by decide) dL_law_497 ?_
        refine gG_L [2, 3, 4, 5, 6] (L' := [(0, .ref b), (1, .ref (B.2.1 0 0 0)), (2, .ref (B.2.1 20 0 0)), (3, .ref (B.2.1 28 0 0)), (4, .int (nI (7 * t)))]) rfl ?_
        refine g_widen (n.1 + 12, n.2 + 130) (by show n.1 + 1 ≤ n.1 + 12; omega) (by show n.2 + 6 ≤ n.2 + 130; omega) ?_
        exact kk _ _ z9 (hv.fog (xs (7 * t + 1)) (xs (7 * t + 2))) (hq9.mm hmm9) hM9 (hn9.mm hmm9) (oFog_t w (xs (7 * t + 1)) (xs (7 * t + 2)))
      · first | exact absurd (nI_ne0 (Nat.pos_of_ne_zero ho9) (by have := oFog_2 w (xs (7 * t + 1)) (xs (7 * t + 2)); omega)) c10 | exact absurd c10 (nI_ne0 (Nat.pos_of_ne_zero ho9) (by have := oFog_2 w (xs (7 * t + 1)) (xs (7 * t + 2)); omega))
  · first | exact absurd (rfl) c7 | exact absurd c7 (rfl)

set_option maxRecDepth 20000 in
theorem law_rebuild {Z : gZ} {B : gB} {b L : Nat} {xs : Nat → Int32} (X : gX Z B cL_law RL) (T : gTL Z B) (hR : gRm Z = room_1) (hnL : gnL Z = 9) (SC : gSC Z B b L xs) (h0 : B.2.2.2.2 = 0) {t : Nat} (ht : 7 * t + 7 ≤ L) (hL : L ≤ 3584) {n : Nat × Nat} (hn1 : n.1 + 12 ≤ 601024) (hn2 : n.2 + 130 ≤ 7293034) {V : gMem} {w : gWd} (hv : vOk w) (hQ : COk V w) (hM : MOk V w) (hN : N15 V) (ht20 : w.1.1 0 < 2 ^ 20) (kk : lawK Z B n b t w) : gG Z B n V 500 [(0, .ref b), (1, .ref (B.2.1 0 0 0)), (2, .ref (B.2.1 20 0 0)), (3, .ref (B.2.1 28 0 0)), (4, .int (nI (7 * t)))] [] := by
  have hI := gX_I X
  refine g_aload_n X 1 rfl dL_law_500 ?_
  refine g_aload_n X 0 rfl dL_law_501 ?_
  refine g_iload X 4 rfl dL_law_502 ?_
  refine g_iconst X 1 (by decide) dL_law_504 ?_
  refine g_iadd X dL_law_505 ?_
  refine gG_top (nI ((7 * t) + 1)) (nI_1 _) ?_
  refine g_sld X SC ((7 * t) + 1) rfl (by omega) (by omega) dL_law_506 ?_
  refine g_aload_n X 0 rfl dL_law_507 ?_
  refine g_iload X 4 rfl dL_law_508 ?_
  refine g_iconst X 2 (by decide) dL_law_510 ?_
  refine g_iadd X dL_law_511 ?_
  refine gG_top (nI ((7 * t) + 2)) (nI_add (7 * t) 2) ?_
  refine g_sld X SC ((7 * t) + 2) rfl (by omega) (by omega) dL_law_512 ?_
  refine g_aload_n X 3 rfl dL_law_513 ?_
  refine g_callH X T hR (k := 4) (As := [.ref (B.2.1 0 0 0), .int (xs ((7 * t) + 1)), .int (xs ((7 * t) + 2)), .ref (B.2.1 28 0 0)]) (rest := []) qT_yL_rebuild qC_yL_rebuild qN_L (by decide +kernel) (by decide +kernel) qL_L_99 (h_rebuild T.st hI V w (xs (7 * t + 1)) (xs (7 * t + 2)) hQ hv.1 hN) rfl rfl (Nat.le_of_ble_eq_true rfl) ⟨Nat.le_of_ble_eq_true rfl, Nat.le_of_ble_eq_true rfl, by show n.1 + 1 ≤ 601024; omega, by show n.2 + 6 ≤ 7293034; omega⟩ dL_law_514 (fun v9 V9 z9 h9 => ?_)
  obtain ⟨e9, hz9, hq9, hn9, hc9⟩ := h9
  subst e9
  refine gG_st [.int (nI (oBuild w (xs (7 * t + 1)) (xs (7 * t + 2))).1)] rfl ?_
  have X := gX_out (z := z9) X
  have hI := gX_I X
  have SC := gSC_out (z := z9) SC
  have hMa := hM.cm hc9
  refine gG_n (n.1 + 1, n.2 + 6) rfl ?_
  refine g_istore X dL_law_517 [(5, .int (nI (oBuild w (xs (7 * t + 1)) (xs (7 * t + 2))).1)), (0, .ref b), (1, .ref (B.2.1 0 0 0)), (2, .ref (B.2.1 20 0 0)), (3, .ref (B.2.1 28 0 0)), (4, .int (nI (7 * t)))] rfl (gnl_lt hnL (by decide)) ?_
  refine g_aload_n X 3 rfl dL_law_519 ?_
  refine g_aload_n X 1 rfl dL_law_520 ?_
  refine g_iload X 5 rfl dL_law_521 ?_
  refine g_iconst X 1 (by decide) dL_law_523 ?_
  refine g_iadd X dL_law_524 ?_
  refine gG_top (nI ((7 * t) + 1)) (nI_1 _) ?_
  refine g_sld X SC ((7 * t) + 1) rfl (by omega) (by omega) dL_law_525 ?_
  refine g_aload_n X 1 rfl dL_law_526 ?_
  refine g_iload X 5 rfl dL_law_527 ?_
  refine g_iconst X 2 (by decide) dL_law_529 ?_
  refine g_iadd X dL_law_530 ?_
  refine gG_top (nI ((7 * t) + 2)) (nI_add (7 * t) 2) ?_
  refine g_sld X SC ((7 * t) + 2) rfl (by omega) (by omega) dL_law_531 ?_
  refine g_callV X hR (rest := []) mX8_rebuild lL_101 (k_Mrebuild hI V9 w (xs (7 * t + 1)) (xs (7 * t + 2)) hMa hv.1) rfl rfl (Nat.le_of_ble_eq_true rfl) ⟨by decide, by decide⟩ rfl rfl rfl ⟨Nat.le_of_ble_eq_true rfl, Nat.le_of_ble_eq_true rfl, by show n.1 + 1 + 0 ≤ 601024; omega, by show n.2 + 6 + 0 ≤ 7293034; omega⟩ dL_law_532 (fun r1 V2 hz_3 => ?_)
  refine gG_rv hz_3.1 ?_
  obtain ⟨-, hth9, hM9, hmm9⟩ := hz_3
  refine gG_st [.int ((oBuild w (xs (7 * t + 1)) (xs (7 * t + 2))).2.1)] rfl ?_
  refine gG_n (n.1 + 1, n.2 + 6) rfl ?_
  refine g_istore X dL_law_535 [(6, .int ((oBuild w (xs (7 * t + 1)) (xs (7 * t + 2))).2.1)), (5, .int (nI (oBuild w (xs (7 * t + 1)) (xs (7 * t + 2))).1)), (0, .ref b), (1, .ref (B.2.1 0 0 0)), (2, .ref (B.2.1 20 0 0)), (3, .ref (B.2.1 28 0 0)), (4, .int (nI (7 * t)))] rfl (gnl_lt hnL (by decide)) ?_
  refine g_aload_n X 4 rfl dL_law_537 ?_
  refine g_callV X hR (rest := []) mX8_thrown lL_79 (k_thrown hI V2 ) rfl rfl (Nat.le_of_ble_eq_true rfl) ⟨by decide, by decide⟩ rfl rfl rfl ⟨Nat.le_of_ble_eq_true rfl, Nat.le_of_ble_eq_true rfl, by show n.1 + 1 + 0 ≤ 601024; omega, by show n.2 + 6 + 0 ≤ 7293034; omega⟩ dL_law_538 (fun r4 V5 hz_6 => ?_)
  refine gG_ret hz_6.1 hz_6.2 ?_
  refine gG_st [.int (V2 20 0 0 0)] rfl ?_
  refine gG_n (n.1 + 1, n.2 + 6) rfl ?_
  refine gG_top (nI (oBuild w (xs (7 * t + 1)) (xs (7 * t + 2))).1) (hth9) ?_
  refine g_iload X 1 rfl dL_law_541 ?_
  refine g_icmp_eq X 548 (by decide) dL_law_543 (fun c7 => ?_) (fun c7 => ?_)
  · refine g_iload X 1 rfl dL_law_548 ?_
    by_cases ho9 : (oBuild w (xs (7 * t + 1)) (xs (7 * t + 2))).1 = 0
    · skip
      refine g_if_ne X 565 (by decide) dL_law_550 (fun c8 => ?_) (fun c8 => ?_)
      · first | exact absurd (fun z => z (by rw [ho9]; rfl)) c8 | exact absurd c8 (fun z => z (by rw [ho9]; rfl))
      · refine g_aload_n X 5 rfl dL_law_553 ?_
        refine g_iconst X 0 (by decide) dL_law_554 ?_
        refine g_laldO X rfl dL_law_555 ?_
        refine gG_st [.long z9] rfl ?_
        refine g_iload X 0 rfl dL_law_556 ?_
        refine g_i2l X dL_law_558 ?_
        refine g_lcmp X dL_law_559 ?_
        refine g_if_eq X 565 (by decide) dL_law_560 (fun c9 => ?_) (fun c9 => ?_)
        · refine g_goto X 1347 (by decide) dL_law_565 ?_
          refine gG_L [2, 3, 4, 5, 6] (L' := [(0, .ref b), (1, .ref (B.2.1 0 0 0)), (2, .ref (B.2.1 20 0 0)), (3, .ref (B.2.1 28 0 0)), (4, .int (nI (7 * t)))]) rfl ?_
          refine g_widen (n.1 + 12, n.2 + 130) (by show n.1 + 1 ≤ n.1 + 12; omega) (by show n.2 + 6 ≤ n.2 + 130; omega) ?_
          exact kk _ _ z9 (hv.build (xs (7 * t + 1)) (xs (7 * t + 2))) (hq9.mm hmm9) hM9 (hn9.mm hmm9) (oBuild_t w (xs (7 * t + 1)) (xs (7 * t + 2)))
        · first | exact absurd ((lg_cmp_eq _ _).mpr (hz9 ho9)) c9 | exact absurd c9 ((lg_cmp_eq _ _).mpr (hz9 ho9))
    · skip
      refine g_if_ne X 565 (by decide) dL_law_550 (fun c10 => ?_) (fun c10 => ?_)
      · refine g_goto X 1347 (by decide) dL_law_565 ?_
        refine gG_L [2, 3, 4, 5, 6] (L' := [(0, .ref b), (1, .ref (B.2.1 0 0 0)), (2, .ref (B.2.1 20 0 0)), (3, .ref (B.2.1 28 0 0)), (4, .int (nI (7 * t)))]) rfl ?_
        refine g_widen (n.1 + 12, n.2 + 130) (by show n.1 + 1 ≤ n.1 + 12; omega) (by show n.2 + 6 ≤ n.2 + 130; omega) ?_
        exact kk _ _ z9 (hv.build (xs (7 * t + 1)) (xs (7 * t + 2))) (hq9.mm hmm9) hM9 (hn9.mm hmm9) (oBuild_t w (xs (7 * t + 1)) (xs (7 * t + 2)))
      · first | exact absurd (nI_ne0 (Nat.pos_of_ne_zero ho9) (by have := oBuild_2 w (xs (7 * t + 1)) (xs (7 * t + 2)); omega)) c10 | exact absurd c10 (nI_ne0 (Nat.pos_of_ne_zero ho9) (by have := oBuild_2 w (xs (7 * t + 1)) (xs (7 * t + 2)); omega))
  · first | exact absurd (rfl) c7 | exact absurd c7 (rfl)

