/-! THE LAW'S LOOP, A: what is done at the bridge before the tick -/
theorem gX_I {Z : gZ} {B : gB} {cc : ByteArray} {own : String} (X : gX Z B cc own) : gI B := by
  obtain ⟨p, l, e, R, s, m, args, below, meth, c, nL, Q⟩ := Z
  exact X.2.2.2.2.2.1
theorem gG_n {Z : gZ} {B : gB} {n : Nat × Nat} {V : gMem} {pc : Nat} {L : List (Nat × Value)} {st : List Value} (n' : Nat × Nat) (h : n = n') (k : gG Z B n' V pc L st) : gG Z B n V pc L st := h ▸ k
set_option maxRecDepth 20000 in
set_option maxHeartbeats 1000000 in
theorem law_A {Z : gZ} {B : gB} {b L : Nat} {xs : Nat → Int32} (X : gX Z B cL_law RL) (SC : gSC Z B b L xs) (hR : gRm Z = room_1) (hnL : gnL Z = 33) (hown : B.2.2.2.2 = 3) (hLb : L ≤ 260) {nc ns : Nat} (hnc : nc ≤ 600074) (hns : ns ≤ 7301550) {V : gMem} {w : gWd} {a : Nat → Nat → Int32} {c0 : Nat → Nat} {tk al t N P Q : Nat} (hL : gLS V w a) (hw : wOk w) (hI9 : LI c0 tk w.1) (hN : w.1.1 6 = N) (hP : w.1.1 2 = P) (hQ : w.1.1 3 = Q) (hT : w.1.1 0 = t) (ht : t < 40)
    (cont : ∀ (V' : gMem) (w1 : gWd) (tk1 : Nat) (x : Int32), gLS V' w1 a → wOk w1 → LI c0 tk1 w1.1 → w1.1.2.2.2 = w.1.2.2.2 → w1.1.1 6 = N → w1.1.1 2 = P → w1.1.1 3 = Q → w1.1.1 0 = t → gG Z B (nc, ns) V' 286 [(0, .ref b), (1, .ref (B.2.1 0 0 0)), (2, .int (nI N)), (3, .int (nI P)), (4, .int (nI Q)), (5, .ref (B.2.1 29 0 0)), (6, .int (nI al)), (7, .ref (B.2.1 29 1 0)), (8, .ref (B.2.1 29 2 0)), (9, .int (nI tk1)), (10, .int (nI t)), (11, .int x)] []) : gG Z B (nc, ns) V 94 [(0, .ref b), (1, .ref (B.2.1 0 0 0)), (2, .int (nI N)), (3, .int (nI P)), (4, .int (nI Q)), (5, .ref (B.2.1 29 0 0)), (6, .int (nI al)), (7, .ref (B.2.1 29 1 0)), (8, .ref (B.2.1 29 2 0)), (9, .int (nI tk)), (10, .int (nI t))] [] := by
  have hI := gX_I X
  have h16 := hw.n16
  refine g_iload X 10 rfl dL_law_94 ?_
  refine g_bipush X (nI 40) (by decide) dL_law_96 ?_
  refine g_icmp_ge X 1090 (by decide) dL_law_98 (fun c1 => ?_) (fun c1 => ?_)
  · first | exact absurd (nI_ge (b := 40) (by omega) (by decide)) c1 | exact absurd c1 (nI_ge (b := 40) (by omega) (by decide))
  · refine g_aload_n X 0 rfl dL_law_101 ?_
    refine g_iload X 10 rfl dL_law_102 ?_
    refine g_bipush X (nI 16) (by decide) dL_law_104 ?_
    refine g_irem X (by decide) dL_law_106 ?_
    refine gG_top (nI (t % 16)) (pk_rem (d := 16) (by omega) (by decide) (by decide)) ?_
    refine g_callCell X SC (by omega) hR (k := (t % 16)) (by omega) (Nat.le_of_ble_eq_true rfl) ⟨Nat.le_of_ble_eq_true rfl, Nat.le_of_ble_eq_true rfl, hnc, hns⟩ dL_law_107 (fun x2 => ?_)
    refine g_iload X 10 rfl dL_law_110 ?_
    refine g_bipush X (nI 16) (by decide) dL_law_112 ?_
    refine g_idiv X (by decide) dL_law_114 ?_
    refine gG_top (nI (t / 16)) (pk_div (d := 16) (by omega) (by decide) (by decide)) ?_
    refine g_bipush X (nI 6) (by decide) dL_law_115 ?_
    refine g_imul X dL_law_117 ?_
    refine gG_top (nI ((t / 16) * 6)) (pk_mul (t / 16) 6) ?_
    refine g_ishr X dL_law_118 ?_
    refine gG_nmi (fun x _ => ?_)
    refine g_istore X dL_law_119 [(11, .int x), (0, .ref b), (1, .ref (B.2.1 0 0 0)), (2, .int (nI N)), (3, .int (nI P)), (4, .int (nI Q)), (5, .ref (B.2.1 29 0 0)), (6, .int (nI al)), (7, .ref (B.2.1 29 1 0)), (8, .ref (B.2.1 29 2 0)), (9, .int (nI tk)), (10, .int (nI t))] rfl (gnl_lt hnL (by decide)) ?_
    refine g_iload X 0 rfl dL_law_121 ?_
    refine g_iconst X (nI 3) (by decide) dL_law_123 ?_
    refine g_ishr X dL_law_124 ?_
    refine g_iconst X (nI 2) (by decide) dL_law_125 ?_
    refine g_callS X hR (As := [.int (x >>> ((nI 3) &&& 31)), .int (nI 2)]) (rest := []) mL_below lL_18 (k_below hI V (x >>> ((nI 3) &&& 31)) 2 (by first | assumption | decide | omega) (by first | assumption | decide | omega)) rfl rfl (Nat.le_of_ble_eq_true rfl) ⟨Nat.le_of_ble_eq_true rfl, Nat.le_of_ble_eq_true rfl, hnc, hns⟩ dL_law_126 (fun r3 V4 hz_5 => ?_)
    obtain ⟨⟨j6, hj6, qj6⟩, zj6⟩ := hz_5
    refine gG_ret qj6 zj6 ?_
    refine gG_n (nc, ns) rfl ?_
    refine gG_st [.int (nI j6)] rfl ?_
    refine g_istore X dL_law_129 [(12, .int (nI j6)), (11, .int x), (0, .ref b), (1, .ref (B.2.1 0 0 0)), (2, .int (nI N)), (3, .int (nI P)), (4, .int (nI Q)), (5, .ref (B.2.1 29 0 0)), (6, .int (nI al)), (7, .ref (B.2.1 29 1 0)), (8, .ref (B.2.1 29 2 0)), (9, .int (nI tk)), (10, .int (nI t))] rfl (gnl_lt hnL (by decide)) ?_
    refine g_iload X 1 rfl dL_law_131 ?_
    refine g_bipush X (nI 6) (by decide) dL_law_133 ?_
    refine g_callS X hR (As := [.int x, .int (nI 6)]) (rest := []) mL_below lL_18 (k_below hI V x 6 (by first | assumption | decide | omega) (by first | assumption | decide | omega)) rfl rfl (Nat.le_of_ble_eq_true rfl) ⟨Nat.le_of_ble_eq_true rfl, Nat.le_of_ble_eq_true rfl, hnc, hns⟩ dL_law_135 (fun r7 V8 hz_9 => ?_)
    obtain ⟨⟨j10, hj10, qj10⟩, zj10⟩ := hz_9
    refine gG_ret qj10 zj10 ?_
    refine gG_n (nc, ns) rfl ?_
    refine gG_st [.int (nI j10)] rfl ?_
    rcases (show j10 = 0 ∨ j10 = 1 ∨ j10 = 2 ∨ 3 ≤ j10 by omega) with rfl | rfl | rfl | hj3
    · refine g_tableIn X 26 164 (by decide) (by decide) (by decide) (by decide) dL_law_138 ?_
      refine g_aload_n X 3 rfl dL_law_164 ?_
      refine g_callV X hR (rest := []) mX6_change lL_49 (c_change hI V w a hL hw) rfl rfl (Nat.le_of_ble_eq_true rfl) ⟨by decide, by decide⟩ rfl rfl rfl ⟨Nat.le_of_ble_eq_true rfl, Nat.le_of_ble_eq_true rfl, hnc, hns⟩ dL_law_165 (fun r11 V12 hz_13 => ?_)
      refine gG_rv hz_13.1 ?_
      have hL14 := hz_13.2
      refine gG_n (nc, ns) rfl ?_
      obtain ⟨w15, ew15⟩ : ∃ y : gWd, y = (sTurn w.1, w.2) := ⟨_, rfl⟩
      rw [← ew15] at hL14
      have hw15 : wOk w15 := by rw [ew15]; exact hw.turn
      refine gG_st [.int (nI (1 - w.1.1 1))] rfl ?_
      have hl1 : LI c0 tk w15.1 := by rw [ew15]; exact hI9.turn
      refine g_aload_n X 3 rfl dL_law_168 ?_
      refine g_bipush X (nI 7) (by decide) dL_law_169 ?_
      refine g_callV X hR (rest := [.int (nI (1 - w.1.1 1))]) mX6_count lL_36 (c_count hI V12 w15 a 7 hL14 hw15 (by first | assumption | decide | omega)) rfl rfl (Nat.le_of_ble_eq_true rfl) ⟨by decide, by decide⟩ rfl rfl rfl ⟨Nat.le_of_ble_eq_true rfl, Nat.le_of_ble_eq_true rfl, hnc, hns⟩ dL_law_171 (fun r16 V17 hz_18 => ?_)
      refine gG_rv hz_18.1 ?_
      have hL19 := hz_18.2
      refine gG_n (nc, ns) rfl ?_
      refine gG_st [.int (nI (w15.1.1 1)), .int (nI (1 - w.1.1 1))] rfl ?_
      refine g_icmp_eq X 286 (by decide) dL_law_174 (fun c20 => ?_) (fun c20 => ?_)
      · refine gG_L [2, 3, 4, 5, 6, 7, 8, 9, 10, 11, 12, 1] (L' := [(0, .ref b), (1, .ref (B.2.1 0 0 0)), (2, .int (nI N)), (3, .int (nI P)), (4, .int (nI Q)), (5, .ref (B.2.1 29 0 0)), (6, .int (nI al)), (7, .ref (B.2.1 29 1 0)), (8, .ref (B.2.1 29 2 0)), (9, .int (nI tk)), (10, .int (nI t)), (11, .int x)]) rfl ?_
        exact cont V17 w15 tk _ hL19 hw15 hl1 (by rw [ew15] <;> rfl) (by rw [ew15]; exact hN) (by rw [ew15]; exact hP) (by rw [ew15]; exact hQ) (by rw [ew15]; exact hT)
      · first | exact absurd (by rw [ew15]; rfl) c20 | exact absurd c20 (by rw [ew15]; rfl)
    · refine g_tableIn X 41 179 (by decide) (by decide) (by decide) (by decide) dL_law_138 ?_
      have hbx := box_all hI9 hj6
      refine g_aload_n X 3 rfl dL_law_179 ?_
      refine g_iload X 0 rfl dL_law_180 ?_
      refine g_iconst X (nI 0) (by decide) dL_law_182 ?_
      refine g_callV X hR (rest := []) mX6_box lL_53 (c_box hI V w a j6 0 hL hw (by first | assumption | decide | omega) (by first | assumption | decide | omega)) rfl rfl (Nat.le_of_ble_eq_true rfl) ⟨by decide, by decide⟩ rfl rfl rfl ⟨Nat.le_of_ble_eq_true rfl, Nat.le_of_ble_eq_true rfl, hnc, hns⟩ dL_law_183 (fun r21 V22 hz_23 => ?_)
      refine gG_rv hz_23.1 ?_
      have hL24 := hz_23.2
      refine gG_n (nc, ns) rfl ?_
      refine gG_st [.int (nI (w.1.2.2.1 j6 1))] rfl ?_
      refine g_istore X dL_law_186 [(13, .int (nI (w.1.2.2.1 j6 1))), (12, .int (nI j6)), (11, .int x), (0, .ref b), (1, .ref (B.2.1 0 0 0)), (2, .int (nI N)), (3, .int (nI P)), (4, .int (nI Q)), (5, .ref (B.2.1 29 0 0)), (6, .int (nI al)), (7, .ref (B.2.1 29 1 0)), (8, .ref (B.2.1 29 2 0)), (9, .int (nI tk)), (10, .int (nI t))] rfl (gnl_lt hnL (by decide)) ?_
      refine g_aload_n X 4 rfl dL_law_188 ?_
      refine g_iload X 1 rfl dL_law_189 ?_
      refine g_iconst X (nI 1) (by decide) dL_law_191 ?_
      refine g_callV X hR (rest := []) mX6_box lL_53 (c_box hI V22 w a j6 1 hL24 hw (by first | assumption | decide | omega) (by first | assumption | decide | omega)) rfl rfl (Nat.le_of_ble_eq_true rfl) ⟨by decide, by decide⟩ rfl rfl rfl ⟨Nat.le_of_ble_eq_true rfl, Nat.le_of_ble_eq_true rfl, hnc, hns⟩ dL_law_192 (fun r25 V26 hz_27 => ?_)
      refine gG_rv hz_27.1 ?_
      have hL28 := hz_27.2
      refine gG_n (nc, ns) rfl ?_
      refine gG_st [.int (nI (w.1.2.2.1 j6 2))] rfl ?_
      refine g_istore X dL_law_195 [(14, .int (nI (w.1.2.2.1 j6 2))), (13, .int (nI (w.1.2.2.1 j6 1))), (12, .int (nI j6)), (11, .int x), (0, .ref b), (1, .ref (B.2.1 0 0 0)), (2, .int (nI N)), (3, .int (nI P)), (4, .int (nI Q)), (5, .ref (B.2.1 29 0 0)), (6, .int (nI al)), (7, .ref (B.2.1 29 1 0)), (8, .ref (B.2.1 29 2 0)), (9, .int (nI tk)), (10, .int (nI t))] rfl (gnl_lt hnL (by decide)) ?_
      refine g_aload_n X 5 rfl dL_law_197 ?_
      refine g_iload X 2 rfl dL_law_198 ?_
      refine g_callV X hR (rest := []) mX6_empty lL_56 (c_empty hI V26 w a j6 hL28 hw (by first | assumption | decide | omega)) rfl rfl (Nat.le_of_ble_eq_true rfl) ⟨by decide, by decide⟩ rfl rfl rfl ⟨Nat.le_of_ble_eq_true rfl, Nat.le_of_ble_eq_true rfl, hnc, hns⟩ dL_law_200 (fun r29 V30 hz_31 => ?_)
      refine gG_rv hz_31.1 ?_
      have hL32 := hz_31.2
      refine gG_n (nc, ns) rfl ?_
      obtain ⟨w33, ew33⟩ : ∃ y : gWd, y = (sG (sG w.1 j6 1 0) j6 4 0, w.2) := ⟨_, rfl⟩
      rw [← ew33] at hL32
      have hw33 : wOk w33 := by rw [ew33]; exact ⟨(hw.1.box _ _ _).box _ _ _, hw.2⟩
      refine gG_st [.int (nI (w.1.2.2.1 j6 4))] rfl ?_
      have hg1 : w33.1.2.2.1 j6 1 = 0 := by rw [ew33]; simp [sG]
      have hg2 : w33.1.2.2.1 j6 2 = w.1.2.2.1 j6 2 := by rw [ew33]; simp [sG]
      have hg4 : w33.1.2.2.1 j6 4 = 0 := by rw [ew33]; simp [sG]
      have hl1 : LI c0 (tk + w.1.2.2.1 j6 1) w33.1 := by rw [ew33]; exact hI9.empty hj6
      refine g_istore X dL_law_203 [(15, .int (nI (w.1.2.2.1 j6 4))), (14, .int (nI (w.1.2.2.1 j6 2))), (13, .int (nI (w.1.2.2.1 j6 1))), (12, .int (nI j6)), (11, .int x), (0, .ref b), (1, .ref (B.2.1 0 0 0)), (2, .int (nI N)), (3, .int (nI P)), (4, .int (nI Q)), (5, .ref (B.2.1 29 0 0)), (6, .int (nI al)), (7, .ref (B.2.1 29 1 0)), (8, .ref (B.2.1 29 2 0)), (9, .int (nI tk)), (10, .int (nI t))] rfl (gnl_lt hnL (by decide)) ?_
      refine g_iload X 14 rfl dL_law_205 ?_
      refine g_iload X 2 rfl dL_law_207 ?_
      refine g_iadd X dL_law_209 ?_
      refine gG_top (nI (tk + (w.1.2.2.1 j6 1))) (nI_add tk (w.1.2.2.1 j6 1)) ?_
      refine g_istore X dL_law_210 [(9, .int (nI (tk + (w.1.2.2.1 j6 1)))), (15, .int (nI (w.1.2.2.1 j6 4))), (14, .int (nI (w.1.2.2.1 j6 2))), (13, .int (nI (w.1.2.2.1 j6 1))), (12, .int (nI j6)), (11, .int x), (0, .ref b), (1, .ref (B.2.1 0 0 0)), (2, .int (nI N)), (3, .int (nI P)), (4, .int (nI Q)), (5, .ref (B.2.1 29 0 0)), (6, .int (nI al)), (7, .ref (B.2.1 29 1 0)), (8, .ref (B.2.1 29 2 0)), (10, .int (nI t))] rfl (gnl_lt hnL (by decide)) ?_
      refine g_iload X 1 rfl dL_law_212 ?_
      refine g_if_lt X 258 (by decide) dL_law_214 (fun c34 => ?_) (fun c34 => ?_)
      · first | exact absurd (nI_pos (by omega)) c34 | exact absurd c34 (nI_pos (by omega))
      · refine g_iload X 1 rfl dL_law_217 ?_
        refine g_bipush X (nI 27) (by decide) dL_law_219 ?_
        refine g_iload X 2 rfl dL_law_221 ?_
        refine g_imul X dL_law_223 ?_
        refine gG_top (nI (27 * (w.1.2.2.1 j6 2))) (pk_mul 27 (w.1.2.2.1 j6 2)) ?_
        refine g_icmp_gt X 258 (by decide) dL_law_224 (fun c35 => ?_) (fun c35 => ?_)
        · first | exact absurd (nI_nlt (by omega) (by omega)) c35 | exact absurd c35 (nI_nlt (by omega) (by omega))
        · refine g_aload_n X 7 rfl dL_law_227 ?_
          refine g_iload X 4 rfl dL_law_228 ?_
          refine g_iconst X (nI 0) (by decide) dL_law_230 ?_
          refine g_callV X hR (rest := []) mX6_box lL_53 (c_box hI V30 w33 a j6 0 hL32 hw33 (by first | assumption | decide | omega) (by first | assumption | decide | omega)) rfl rfl (Nat.le_of_ble_eq_true rfl) ⟨by decide, by decide⟩ rfl rfl rfl ⟨Nat.le_of_ble_eq_true rfl, Nat.le_of_ble_eq_true rfl, hnc, hns⟩ dL_law_231 (fun r36 V37 hz_38 => ?_)
          refine gG_rv hz_38.1 ?_
          have hL39 := hz_38.2
          refine gG_n (nc, ns) rfl ?_
          refine gG_st [.int (nI (w33.1.2.2.1 j6 1))] rfl ?_
          refine g_if_ne X 258 (by decide) dL_law_234 (fun c40 => ?_) (fun c40 => ?_)
          · first | exact absurd (by rw [hg1]; rfl) c40 | exact absurd c40 (by rw [hg1]; rfl)
          · refine g_aload_n X 7 rfl dL_law_237 ?_
            refine g_iload X 4 rfl dL_law_238 ?_
            refine g_iconst X (nI 1) (by decide) dL_law_240 ?_
            refine g_callV X hR (rest := []) mX6_box lL_53 (c_box hI V37 w33 a j6 1 hL39 hw33 (by first | assumption | decide | omega) (by first | assumption | decide | omega)) rfl rfl (Nat.le_of_ble_eq_true rfl) ⟨by decide, by decide⟩ rfl rfl rfl ⟨Nat.le_of_ble_eq_true rfl, Nat.le_of_ble_eq_true rfl, hnc, hns⟩ dL_law_241 (fun r41 V42 hz_43 => ?_)
            refine gG_rv hz_43.1 ?_
            have hL44 := hz_43.2
            refine gG_n (nc, ns) rfl ?_
            refine gG_st [.int (nI (w33.1.2.2.1 j6 2))] rfl ?_
            refine g_iload X 2 rfl dL_law_244 ?_
            refine g_icmp_ne X 258 (by decide) dL_law_246 (fun c45 => ?_) (fun c45 => ?_)
            · first | exact absurd (by rw [hg2]) c45 | exact absurd c45 (by rw [hg2])
            · refine g_aload_n X 7 rfl dL_law_249 ?_
              refine g_iload X 4 rfl dL_law_250 ?_
              refine g_callV X hR (rest := []) mX6_empty lL_56 (c_empty hI V42 w33 a j6 hL44 hw33 (by first | assumption | decide | omega)) rfl rfl (Nat.le_of_ble_eq_true rfl) ⟨by decide, by decide⟩ rfl rfl rfl ⟨Nat.le_of_ble_eq_true rfl, Nat.le_of_ble_eq_true rfl, hnc, hns⟩ dL_law_252 (fun r46 V47 hz_48 => ?_)
              refine gG_rv hz_48.1 ?_
              have hL49 := hz_48.2
              refine gG_n (nc, ns) rfl ?_
              obtain ⟨w50, ew50⟩ : ∃ y : gWd, y = (sG (sG w33.1 j6 1 0) j6 4 0, w33.2) := ⟨_, rfl⟩
              rw [← ew50] at hL49
              have hw50 : wOk w50 := by rw [ew50]; exact ⟨(hw33.1.box _ _ _).box _ _ _, hw33.2⟩
              refine gG_st [.int (nI (w33.1.2.2.1 j6 4))] rfl ?_
              have hl2 : LI c0 (tk + w.1.2.2.1 j6 1) w50.1 := by
                have z := hl1.empty hj6
                rw [hg1, Nat.add_zero] at z
                rw [ew50]
                exact z
              refine g_if_eq X 286 (by decide) dL_law_255 (fun c51 => ?_) (fun c51 => ?_)
              · refine gG_L [6, 7, 8, 9, 10, 11, 12, 13, 14, 0, 15, 5] (L' := [(0, .ref b), (1, .ref (B.2.1 0 0 0)), (2, .int (nI N)), (3, .int (nI P)), (4, .int (nI Q)), (5, .ref (B.2.1 29 0 0)), (6, .int (nI al)), (7, .ref (B.2.1 29 1 0)), (8, .ref (B.2.1 29 2 0)), (9, .int (nI (tk + (w.1.2.2.1 j6 1)))), (10, .int (nI t)), (11, .int x)]) rfl ?_
                exact cont V47 w50 (tk + (w.1.2.2.1 j6 1)) _ hL49 hw50 hl2 (by rw [ew50, ew33] <;> rfl) (by rw [ew50, ew33]; exact hN) (by rw [ew50, ew33]; exact hP) (by rw [ew50, ew33]; exact hQ) (by rw [ew50, ew33]; exact hT)
              · first | exact absurd (by rw [hg4]; rfl) c51 | exact absurd c51 (by rw [hg4]; rfl)
    · refine g_tableIn X 122 260 (by decide) (by decide) (by decide) (by decide) dL_law_138 ?_
      refine g_aload_n X 3 rfl dL_law_260 ?_
      refine g_iload X 1 rfl dL_law_261 ?_
      refine g_iconst X (nI 4) (by decide) dL_law_263 ?_
      refine g_ishr X dL_law_264 ?_
      refine g_bipush X (nI 10) (by decide) dL_law_265 ?_
      refine g_callS X hR (As := [.int (x >>> ((nI 4) &&& 31)), .int (nI 10)]) (rest := [.ref (B.2.1 0 0 0)]) mL_below lL_18 (k_below hI V (x >>> ((nI 4) &&& 31)) 10 (by first | assumption | decide | omega) (by first | assumption | decide | omega)) rfl rfl (Nat.le_of_ble_eq_true rfl) ⟨Nat.le_of_ble_eq_true rfl, Nat.le_of_ble_eq_true rfl, hnc, hns⟩ dL_law_267 (fun r52 V53 hz_54 => ?_)
      obtain ⟨⟨j55, hj55, qj55⟩, zj55⟩ := hz_54
      refine gG_ret qj55 zj55 ?_
      refine gG_n (nc, ns) rfl ?_
      refine gG_st [.int (nI j55), .ref (B.2.1 0 0 0)] rfl ?_
      refine g_iload X 1 rfl dL_law_270 ?_
      refine g_bipush X (nI 6) (by decide) dL_law_272 ?_
      refine g_ishr X dL_law_274 ?_
      refine g_iconst X (nI 4) (by decide) dL_law_275 ?_
      refine g_callS X hR (As := [.int (x >>> ((nI 6) &&& 31)), .int (nI 4)]) (rest := [.int (nI j55), .ref (B.2.1 0 0 0)]) mL_below lL_18 (k_below hI V (x >>> ((nI 6) &&& 31)) 4 (by first | assumption | decide | omega) (by first | assumption | decide | omega)) rfl rfl (Nat.le_of_ble_eq_true rfl) ⟨Nat.le_of_ble_eq_true rfl, Nat.le_of_ble_eq_true rfl, hnc, hns⟩ dL_law_276 (fun r56 V57 hz_58 => ?_)
      obtain ⟨⟨j59, hj59, qj59⟩, zj59⟩ := hz_58
      refine gG_ret qj59 zj59 ?_
      refine gG_n (nc, ns) rfl ?_
      refine gG_st [.int (nI j59), .int (nI j55), .ref (B.2.1 0 0 0)] rfl ?_
      refine g_callV X hR (rest := []) mX6_setToll lL_25 (c_setToll hI V w a j55 j59 hL hw (by first | assumption | decide | omega) (by first | assumption | decide | omega)) rfl rfl (Nat.le_of_ble_eq_true rfl) ⟨by decide, by decide⟩ rfl rfl rfl ⟨Nat.le_of_ble_eq_true rfl, Nat.le_of_ble_eq_true rfl, hnc, hns⟩ dL_law_279 (fun r60 V61 hz_62 => ?_)
      refine gG_rv hz_62.1 ?_
      have hL63 := hz_62.2
      refine gG_n (nc, ns) rfl ?_
      obtain ⟨w64, ew64⟩ : ∃ y : gWd, y = (sN (sN w.1 4 j55) 5 j59, w.2) := ⟨_, rfl⟩
      rw [← ew64] at hL63
      have hw64 : wOk w64 := by rw [ew64]; exact ⟨hw.1.toll (by omega) (by omega), hw.2⟩
      refine gG_st [.int (nI (10 * w.1.1 4 + w.1.1 5))] rfl ?_
      have hl1 : LI c0 tk w64.1 := by rw [ew64]; exact (hI9.num (by decide) (by decide)).num (by decide) (by decide)
      refine g_pop X rfl dL_law_282 ?_
      refine g_goto X 286 (by decide) dL_law_283 ?_
      refine gG_L [2, 3, 4, 5, 6, 7, 8, 9, 10, 11, 12, 1] (L' := [(0, .ref b), (1, .ref (B.2.1 0 0 0)), (2, .int (nI N)), (3, .int (nI P)), (4, .int (nI Q)), (5, .ref (B.2.1 29 0 0)), (6, .int (nI al)), (7, .ref (B.2.1 29 1 0)), (8, .ref (B.2.1 29 2 0)), (9, .int (nI tk)), (10, .int (nI t)), (11, .int x)]) rfl ?_
      exact cont V61 w64 tk _ hL63 hw64 hl1 (by rw [ew64] <;> rfl) (by rw [ew64]; exact hN) (by rw [ew64]; exact hP) (by rw [ew64]; exact hQ) (by rw [ew64]; exact hT)
    · refine g_tableOut X 286 (Or.inr (by rw [nI_toInt (by omega)]; omega)) (by decide) dL_law_138 ?_
      refine gG_L [2, 3, 4, 5, 6, 7, 8, 9, 10, 11, 12, 1] (L' := [(0, .ref b), (1, .ref (B.2.1 0 0 0)), (2, .int (nI N)), (3, .int (nI P)), (4, .int (nI Q)), (5, .ref (B.2.1 29 0 0)), (6, .int (nI al)), (7, .ref (B.2.1 29 1 0)), (8, .ref (B.2.1 29 2 0)), (9, .int (nI tk)), (10, .int (nI t)), (11, .int x)]) rfl ?_
      exact cont V w tk _ hL hw hI9 rfl hN hP hQ hT
