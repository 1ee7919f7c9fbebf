/-! the checksum, in the reference -/
def gatesL (S : gSt) (n : Nat) : List Int32 := (List.range n).flatMap (gateL S)
theorem gatesL_succ (S : gSt) (n : Nat) : gatesL S (n + 1) = gatesL S n ++ gateL S n := by simp [gatesL, List.range_succ]
theorem gatesL_0 (S : gSt) (d : Int64) : mixL (gatesL S 0) d = d := rfl
theorem gates_2 (S : gSt) (d : Int64) : mixL (gatesL S 2) d = mixL (gateL S 1) (mixL (gateL S 0) d) := by
  rw [gatesL_succ, mixL_app, gatesL_succ, mixL_app]
  rfl
theorem gate_end (S : gSt) (e j : Nat) (d : Int64) (h : (S.2.1 e).length ≤ j) : mixL (((S.2.1 e).take j).map nI) (mixL ((List.range 4).map (gTell S e)) d) = mixL (gateL S e) d := by
  rw [gateL, mixL_app, List.take_of_length_le h]

set_option maxHeartbeats 1000000 in
abbrev rmX8_digest : Room := { frames := 3, cells := 11, slots := 121, locals := 67 }
set_option maxRecDepth 20000 in
theorem k_Mdigest {l : Launch} {B : gB} (hI : gI B) (V : gMem) (w : gWd) (hM : MOk V w) (hw : wOk w) (h0 : B.2.2.2.2 = 0) : gM l B yX8_digest cX8_digest 5 (some .long) rmX8_digest [.ref (B.2.1 20 0 0)] V (fun v V' => v = some (.long (oDig w)) ∧ V' 20 0 0 0 = 0 ∧ MOk V' w ∧ mmod V V') := by
  refine gM_of (own := RX8) (L := [(0, .ref (B.2.1 20 0 0))]) (by decide +kernel) rfl hI (Nat.le_of_ble_eq_true rfl) rfl ?_
  intro Z hnL hR X F
  refine g_aload_n X 0 rfl dX8_digest_0 ?_
  refine g_iconst X 0 (by decide) dX8_digest_1 ?_
  refine gp_X8_thrown X ⟨by decide, by decide⟩ fX8_41 dX8_digest_2 ?_
  refine gG_nm (fun V1 hV1 => ?_)
  have hM1 : MOk V1 w := by rw [hV1]; exact hM.thr 0
  have hm1 : mmod V V1 := by rw [hV1]; exact mmod.rf.up (by decide) (by decide)
  refine g_ldc2 X 683 qK_X8_139 dX8_digest_5 ?_
  refine g_lstore_n X rfl dX8_digest_8 [(1, .long 683), (0, .ref (B.2.1 20 0 0))] rfl (gnl_lt hnL (by decide)) ?_
  refine g_iconst X 0 (by decide) dX8_digest_9 ?_
  refine g_istore_n X rfl dX8_digest_10 [(3, .int 0), (1, .long 683), (0, .ref (B.2.1 20 0 0))] rfl (gnl_lt hnL (by decide)) ?_
  refine gG_L [2, 1, 0] (L' := [(0, .ref (B.2.1 20 0 0)), (1, .long 683), (3, .int 0)]) rfl ?_
  refine gG_Le [(0, .ref (B.2.1 20 0 0)), (1, .long (mixL ((List.range 0).map (cntV w)) 683)), (3, .int (nI 0))] (by rw [mixL_0]; rfl) ?_
  have loop : ∀ (f : Nat) (k : Nat) , k + f = 11 →  gG Z B (k, 11 * k) V1 11 [(0, .ref (B.2.1 20 0 0)), (1, .long (mixL ((List.range k).map (cntV w)) 683)), (3, .int (nI k))] [] := by
    intro f
    induction f with
    | zero =>
      intro k  hf 
      refine g_iload_n X 2 rfl dX8_digest_11 ?_
      refine g_bipush X 10 (by decide) dX8_digest_12 ?_
      refine g_icmp_gt X 36 (by decide) dX8_digest_14 (fun c2 => ?_) (fun c2 => ?_)
      · refine gG_n (11, 121) (by rw [show k = 11 by omega]) ?_
        refine gG_Le [(0, .ref (B.2.1 20 0 0)), (1, .long (dgD0 w)), (3, .int (nI k))] (by rw [show k = 11 by omega]; rfl) ?_
        refine g_iconst X 0 (by decide) dX8_digest_36 ?_
        refine g_istore_n X rfl dX8_digest_37 [(3, .int 0), (0, .ref (B.2.1 20 0 0)), (1, .long (dgD0 w))] rfl (gnl_lt hnL (by decide)) ?_
        refine gG_L [1, 2, 0] (L' := [(0, .ref (B.2.1 20 0 0)), (1, .long (dgD0 w)), (3, .int 0)]) rfl ?_
        refine gG_Le [(0, .ref (B.2.1 20 0 0)), (1, .long (mixL ((List.range 0).map (fun j => nI (w.2.1.2 j))) (dgD0 w))), (3, .int (nI 0))] (by rw [mixL_0]; rfl) ?_
        have loop2 : ∀ (f : Nat) (t : Nat) , t + f = w.2.1.1 →  gG Z B (11, 121) V1 38 [(0, .ref (B.2.1 20 0 0)), (1, .long (mixL ((List.range t).map (fun j => nI (w.2.1.2 j))) (dgD0 w))), (3, .int (nI t))] [] := by
          intro f
          induction f with
          | zero =>
            intro t  hf 
            have h8 := hw.2.1.1
            refine g_iload_n X 2 rfl dX8_digest_38 ?_
            refine g_aload_n X 0 rfl dX8_digest_39 ?_
            refine gg_X8_signals X ⟨by decide, by decide⟩ fX8_62 dX8_digest_40 ?_
            refine gG_top (nI w.2.1.1) (hM1.2.1.1) ?_
            refine g_icmp_ge X 66 (by decide) dX8_digest_43 (fun c3 => ?_) (fun c3 => ?_)
            · refine gG_Le [(0, .ref (B.2.1 20 0 0)), (1, .long (dgD1 w)), (3, .int (nI t))] (by rw [show t = w.2.1.1 by omega]; rfl) ?_
              refine g_iconst X 0 (by decide) dX8_digest_66 ?_
              refine g_istore_n X rfl dX8_digest_67 [(3, .int 0), (0, .ref (B.2.1 20 0 0)), (1, .long (dgD1 w))] rfl (gnl_lt hnL (by decide)) ?_
              refine gG_L [1, 2, 0] (L' := [(0, .ref (B.2.1 20 0 0)), (1, .long (dgD1 w)), (3, .int 0)]) rfl ?_
              refine gG_Le [(0, .ref (B.2.1 20 0 0)), (1, .long (mixL ((List.range 0).map (fun j => nI (w.2.2 j))) (dgD1 w))), (3, .int (nI 0))] (by rw [mixL_0]; rfl) ?_
              have loop3 : ∀ (f : Nat) (u : Nat) , u + f = 20 →  gG Z B (11, 121) V1 68 [(0, .ref (B.2.1 20 0 0)), (1, .long (mixL ((List.range u).map (fun j => nI (w.2.2 j))) (dgD1 w))), (3, .int (nI u))] [] := by
                intro f
                induction f with
                | zero =>
                  intro u  hf 
                  refine g_iload_n X 2 rfl dX8_digest_68 ?_
                  refine g_bipush X 20 (by decide) dX8_digest_69 ?_
                  refine g_icmp_ge X 94 (by decide) dX8_digest_71 (fun c4 => ?_) (fun c4 => ?_)
                  · refine gG_Le [(0, .ref (B.2.1 20 0 0)), (1, .long (dgD2 w)), (3, .int (nI u))] (by rw [show u = 20 by omega]; rfl) ?_
                    refine g_iconst X 0 (by decide) dX8_digest_94 ?_
                    refine g_istore_n X rfl dX8_digest_95 [(3, .int 0), (0, .ref (B.2.1 20 0 0)), (1, .long (dgD2 w))] rfl (gnl_lt hnL (by decide)) ?_
                    refine gG_L [1, 2, 0] (L' := [(0, .ref (B.2.1 20 0 0)), (1, .long (dgD2 w)), (3, .int 0)]) rfl ?_
                    refine gG_Le [(0, .ref (B.2.1 20 0 0)), (1, .long (mixL (gatesL w.1 0) (dgD2 w))), (3, .int (nI 0))] (by rw [gatesL_0]; rfl) ?_
                    have loop4 : ∀ (f : Nat) (e : Nat) , e + f = 2 →  gG Z B (11, 121) V1 96 [(0, .ref (B.2.1 20 0 0)), (1, .long (mixL (gatesL w.1 e) (dgD2 w))), (3, .int (nI e))] [] := by
                      intro f
                      induction f with
                      | zero =>
                        intro e  hf 
                        refine g_iload_n X 2 rfl dX8_digest_96 ?_
                        refine g_iconst X 2 (by decide) dX8_digest_97 ?_
                        refine g_icmp_ge X 194 (by decide) dX8_digest_98 (fun c5 => ?_) (fun c5 => ?_)
                        · refine gG_Le [(0, .ref (B.2.1 20 0 0)), (1, .long (mixL (gateL w.1 1) (mixL (gateL w.1 0) (dgD2 w)))), (3, .int (nI e))] (by rw [show e = 2 by omega, gates_2]) ?_
                          refine g_iconst X 0 (by decide) dX8_digest_194 ?_
                          refine g_istore_n X rfl dX8_digest_195 [(3, .int 0), (0, .ref (B.2.1 20 0 0)), (1, .long (mixL (gateL w.1 1) (mixL (gateL w.1 0) (dgD2 w))))] rfl (gnl_lt hnL (by decide)) ?_
                          refine gG_L [1, 2, 0] (L' := [(0, .ref (B.2.1 20 0 0)), (1, .long (mixL (gateL w.1 1) (mixL (gateL w.1 0) (dgD2 w)))), (3, .int 0)]) rfl ?_
                          refine gG_Le [(0, .ref (B.2.1 20 0 0)), (1, .long (mixL (cartsL w.1 0) (mixL (gateL w.1 1) (mixL (gateL w.1 0) (dgD2 w))))), (3, .int (nI 0))] (by rw [cartsL_0]; rfl) ?_
                          have loop7 : ∀ (f : Nat) (i : Nat) , i + f = w.1.1 6 →  gG Z B (11, 121) V1 196 [(0, .ref (B.2.1 20 0 0)), (1, .long (mixL (cartsL w.1 i) (mixL (gateL w.1 1) (mixL (gateL w.1 0) (dgD2 w))))), (3, .int (nI i))] [] := by
                            intro f
                            induction f with
                            | zero =>
                              intro i  hf 
                              have hN : w.1.1 6 ≤ 16 := hw.1.1.2.2.2.2.2
                              refine g_iload_n X 2 rfl dX8_digest_196 ?_
                              refine g_aload_n X 0 rfl dX8_digest_197 ?_
                              refine gg_X8_s X ⟨by decide, by decide⟩ fX8_34 dX8_digest_198 ?_
                              refine gg_X7_carts X ⟨by decide, by decide⟩ fX8_91 dX8_digest_201 ?_
                              refine gG_top (nI (w.1.1 6)) (hM1.1.1.2.2) ?_
                              refine g_icmp_ge X 244 (by decide) dX8_digest_204 (fun c6 => ?_) (fun c6 => ?_)
                              · refine g_lload_n X 1 rfl dX8_digest_244 ?_
                                refine gG_st [.long (oDig w)] (by rw [show (Value.long (mixL (cartsL w.1 i) (mixL (gateL w.1 1) (mixL (gateL w.1 0) (dgD2 w))))) = .long (oDig w) from congrArg _ (by rw [show i = w.1.1 6 by omega]; rfl)]) ?_
                                refine g_lret X F ?_ rfl dX8_digest_245
                                exact ⟨rfl, by rw [hV1, gup_eq], hM1, hm1⟩
                              · first | exact absurd (nI_le (by omega) (by omega)) c6 | exact absurd c6 (nI_le (by omega) (by omega))
                            | succ f ih =>
                              intro i  hf 
                              have hN : w.1.1 6 ≤ 16 := hw.1.1.2.2.2.2.2
                              refine g_iload_n X 2 rfl dX8_digest_196 ?_
                              refine g_aload_n X 0 rfl dX8_digest_197 ?_
                              refine gg_X8_s X ⟨by decide, by decide⟩ fX8_34 dX8_digest_198 ?_
                              refine gg_X7_carts X ⟨by decide, by decide⟩ fX8_91 dX8_digest_201 ?_
                              refine gG_top (nI (w.1.1 6)) (hM1.1.1.2.2) ?_
                              refine g_icmp_ge X 244 (by decide) dX8_digest_204 (fun c7 => ?_) (fun c7 => ?_)
                              · first | exact absurd (nI_ge (by omega) (by omega)) c7 | exact absurd c7 (nI_ge (by omega) (by omega))
                              · refine g_iconst X 0 (by decide) dX8_digest_207 ?_
                                refine g_istore X dX8_digest_208 [(4, .int 0), (0, .ref (B.2.1 20 0 0)), (1, .long (mixL (cartsL w.1 i) (mixL (gateL w.1 1) (mixL (gateL w.1 0) (dgD2 w))))), (3, .int (nI i))] rfl (gnl_lt hnL (by decide)) ?_
                                refine gG_L [1, 2, 3, 0] (L' := [(0, .ref (B.2.1 20 0 0)), (1, .long (mixL (cartsL w.1 i) (mixL (gateL w.1 1) (mixL (gateL w.1 0) (dgD2 w))))), (3, .int (nI i)), (4, .int 0)]) rfl ?_
                                refine gG_Le [(0, .ref (B.2.1 20 0 0)), (1, .long (mixL ((List.range 0).map (sTell w.1 i)) (mixL (cartsL w.1 i) (mixL (gateL w.1 1) (mixL (gateL w.1 0) (dgD2 w)))))), (3, .int (nI i)), (4, .int (nI 0))] (by rw [mixL_0]; rfl) ?_
                                have loop8 : ∀ (f : Nat) (f9 : Nat) , f9 + f = 9 →  gG Z B (11, 121) V1 210 [(0, .ref (B.2.1 20 0 0)), (1, .long (mixL ((List.range f9).map (sTell w.1 i)) (mixL (cartsL w.1 i) (mixL (gateL w.1 1) (mixL (gateL w.1 0) (dgD2 w)))))), (3, .int (nI i)), (4, .int (nI f9))] [] := by
                                  intro f
                                  induction f with
                                  | zero =>
                                    intro f9  hf 
                                    refine g_iload X 3 rfl dX8_digest_210 ?_
                                    refine g_bipush X 8 (by decide) dX8_digest_212 ?_
                                    refine g_icmp_gt X 238 (by decide) dX8_digest_214 (fun c8 => ?_) (fun c8 => ?_)
                                    · refine gG_L [0, 1, 2] (L' := [(0, .ref (B.2.1 20 0 0)), (1, .long (mixL ((List.range f9).map (sTell w.1 i)) (mixL (cartsL w.1 i) (mixL (gateL w.1 1) (mixL (gateL w.1 0) (dgD2 w)))))), (3, .int (nI i))]) rfl ?_
                                      refine gG_Le [(0, .ref (B.2.1 20 0 0)), (1, .long (mixL (cartsL w.1 (i + 1)) (mixL (gateL w.1 1) (mixL (gateL w.1 0) (dgD2 w))))), (3, .int (nI i))] (by rw [cartsL_succ, mixL_app, show f9 = 9 by omega]; rfl) ?_
                                      refine g_iinc X 2 rfl (nI (i + 1)) (iinc_1 _) dX8_digest_238 [(3, .int (nI (i + 1))), (0, .ref (B.2.1 20 0 0)), (1, .long (mixL (cartsL w.1 (i + 1)) (mixL (gateL w.1 1) (mixL (gateL w.1 0) (dgD2 w)))))] rfl (gnl_lt hnL (by decide)) ?_
                                      refine g_goto X 196 (by decide) dX8_digest_241 ?_
                                      refine gG_L [1, 2, 0] (L' := [(0, .ref (B.2.1 20 0 0)), (1, .long (mixL (cartsL w.1 (i + 1)) (mixL (gateL w.1 1) (mixL (gateL w.1 0) (dgD2 w))))), (3, .int (nI (i + 1)))]) rfl ?_
                                      refine ih (i + 1) (by omega)
                                    · first | exact absurd (nI_lt (a := 8) (by omega) (by omega)) c8 | exact absurd c8 (nI_lt (a := 8) (by omega) (by omega))
                                  | succ f ih =>
                                    intro f9  hf 
                                    refine g_iload X 3 rfl dX8_digest_210 ?_
                                    refine g_bipush X 8 (by decide) dX8_digest_212 ?_
                                    refine g_icmp_gt X 238 (by decide) dX8_digest_214 (fun c9 => ?_) (fun c9 => ?_)
                                    · first | exact absurd (nI_nlt (b := f9) (a := 8) (by omega) (by omega)) c9 | exact absurd c9 (nI_nlt (b := f9) (a := 8) (by omega) (by omega))
                                    · refine g_lload_n X 1 rfl dX8_digest_217 ?_
                                      refine g_ldc2 X 31 qK_X8_141 dX8_digest_218 ?_
                                      refine g_lmul X dX8_digest_221 ?_
                                      refine g_aload_n X 0 rfl dX8_digest_222 ?_
                                      refine g_iload_n X 2 rfl dX8_digest_223 ?_
                                      refine g_iload X 3 rfl dX8_digest_224 ?_
                                      refine g_callV X hR (rest := [.long ((mixL ((List.range f9).map (sTell w.1 i)) (mixL (cartsL w.1 i) (mixL (gateL w.1 1) (mixL (gateL w.1 0) (dgD2 w))))) * 31)]) mX8_cartTold lX8_116 (k_cartTold hI V1 w.1 i f9 hM1.1 hw.1.1 (hw.1.2.1 i (by omega)) (by omega) (by omega)) rfl rfl (Nat.le_of_ble_eq_true rfl) ⟨by decide, by decide⟩ rfl rfl rfl ⟨Nat.le_of_ble_eq_true rfl, Nat.le_of_ble_eq_true rfl, Nat.le_of_ble_eq_true rfl, Nat.le_of_ble_eq_true rfl⟩ dX8_digest_226 (fun r10 V11 hz_12 => ?_)
                                      refine gG_ret hz_12.1 hz_12.2 ?_
                                      refine gG_st [.int (sTell w.1 i f9), .long ((mixL ((List.range f9).map (sTell w.1 i)) (mixL (cartsL w.1 i) (mixL (gateL w.1 1) (mixL (gateL w.1 0) (dgD2 w))))) * 31)] rfl ?_
                                      refine g_i2l X dX8_digest_229 ?_
                                      refine g_ladd X dX8_digest_230 ?_
                                      refine gG_st [.long (mixL ((List.range (f9 + 1)).map (sTell w.1 i)) (mixL (cartsL w.1 i) (mixL (gateL w.1 1) (mixL (gateL w.1 0) (dgD2 w)))))] (by rw [show (Value.long (((mixL ((List.range f9).map (sTell w.1 i)) (mixL (cartsL w.1 i) (mixL (gateL w.1 1) (mixL (gateL w.1 0) (dgD2 w))))) * 31) + ((sTell w.1 i f9).toInt64))) = .long (mixL ((List.range (f9 + 1)).map (sTell w.1 i)) (mixL (cartsL w.1 i) (mixL (gateL w.1 1) (mixL (gateL w.1 0) (dgD2 w))))) from congrArg _ ((mixL_range _ _ _).symm)]) ?_
                                      refine g_lstore_n X rfl dX8_digest_231 [(1, .long (mixL ((List.range (f9 + 1)).map (sTell w.1 i)) (mixL (cartsL w.1 i) (mixL (gateL w.1 1) (mixL (gateL w.1 0) (dgD2 w)))))), (0, .ref (B.2.1 20 0 0)), (3, .int (nI i)), (4, .int (nI f9))] rfl (gnl_lt hnL (by decide)) ?_
                                      refine g_iinc X 3 rfl (nI (f9 + 1)) (iinc_1 _) dX8_digest_232 [(4, .int (nI (f9 + 1))), (1, .long (mixL ((List.range (f9 + 1)).map (sTell w.1 i)) (mixL (cartsL w.1 i) (mixL (gateL w.1 1) (mixL (gateL w.1 0) (dgD2 w)))))), (0, .ref (B.2.1 20 0 0)), (3, .int (nI i))] rfl (gnl_lt hnL (by decide)) ?_
                                      refine g_goto X 210 (by decide) dX8_digest_235 ?_
                                      refine gG_L [2, 1, 3, 0] (L' := [(0, .ref (B.2.1 20 0 0)), (1, .long (mixL ((List.range (f9 + 1)).map (sTell w.1 i)) (mixL (cartsL w.1 i) (mixL (gateL w.1 1) (mixL (gateL w.1 0) (dgD2 w)))))), (3, .int (nI i)), (4, .int (nI (f9 + 1)))]) rfl ?_
                                      refine ih (f9 + 1) (by omega)
                                exact loop8 9 0 (by omega)
                          exact loop7 (w.1.1 6) 0 (by omega)
                        · first | exact absurd (nI_le (a := 2) (by omega) (by omega)) c5 | exact absurd c5 (nI_le (a := 2) (by omega) (by omega))
                      | succ f ih =>
                        intro e  hf 
                        refine g_iload_n X 2 rfl dX8_digest_96 ?_
                        refine g_iconst X 2 (by decide) dX8_digest_97 ?_
                        refine g_icmp_ge X 194 (by decide) dX8_digest_98 (fun c13 => ?_) (fun c13 => ?_)
                        · first | exact absurd (nI_ge (b := 2) (by omega) (by decide)) c13 | exact absurd c13 (nI_ge (b := 2) (by omega) (by decide))
                        · refine g_iconst X 0 (by decide) dX8_digest_101 ?_
                          refine g_istore X dX8_digest_102 [(4, .int 0), (0, .ref (B.2.1 20 0 0)), (1, .long (mixL (gatesL w.1 e) (dgD2 w))), (3, .int (nI e))] rfl (gnl_lt hnL (by decide)) ?_
                          refine gG_L [1, 2, 3, 0] (L' := [(0, .ref (B.2.1 20 0 0)), (1, .long (mixL (gatesL w.1 e) (dgD2 w))), (3, .int (nI e)), (4, .int 0)]) rfl ?_
                          refine gG_Le [(0, .ref (B.2.1 20 0 0)), (1, .long (mixL ((List.range 0).map (gTell w.1 e)) (mixL (gatesL w.1 e) (dgD2 w)))), (3, .int (nI e)), (4, .int (nI 0))] (by rw [mixL_0]; rfl) ?_
                          have loop5 : ∀ (f : Nat) (z : Nat) , z + f = 4 →  gG Z B (11, 121) V1 104 [(0, .ref (B.2.1 20 0 0)), (1, .long (mixL ((List.range z).map (gTell w.1 e)) (mixL (gatesL w.1 e) (dgD2 w)))), (3, .int (nI e)), (4, .int (nI z))] [] := by
                            intro f
                            induction f with
                            | zero =>
                              intro z  hf 
                              refine g_iload X 3 rfl dX8_digest_104 ?_
                              refine g_iconst X 4 (by decide) dX8_digest_106 ?_
                              refine g_icmp_ge X 138 (by decide) dX8_digest_107 (fun c14 => ?_) (fun c14 => ?_)
                              · refine gG_Le [(0, .ref (B.2.1 20 0 0)), (1, .long (mixL ((List.range 4).map (gTell w.1 e)) (mixL (gatesL w.1 e) (dgD2 w)))), (3, .int (nI e)), (4, .int (nI z))] (by rw [show z = 4 by omega]) ?_
                                refine g_iconst X 0 (by decide) dX8_digest_138 ?_
                                refine g_istore X dX8_digest_139 [(4, .int 0), (0, .ref (B.2.1 20 0 0)), (1, .long (mixL ((List.range 4).map (gTell w.1 e)) (mixL (gatesL w.1 e) (dgD2 w)))), (3, .int (nI e))] rfl (gnl_lt hnL (by decide)) ?_
                                refine gG_L [1, 2, 3, 0] (L' := [(0, .ref (B.2.1 20 0 0)), (1, .long (mixL ((List.range 4).map (gTell w.1 e)) (mixL (gatesL w.1 e) (dgD2 w)))), (3, .int (nI e)), (4, .int 0)]) rfl ?_
                                refine gG_Le [(0, .ref (B.2.1 20 0 0)), (1, .long (mixL (((w.1.2.1 e).take 0).map nI) (mixL ((List.range 4).map (gTell w.1 e)) (mixL (gatesL w.1 e) (dgD2 w))))), (3, .int (nI e)), (4, .int (nI 0))] (by rw [mixL_take0]; rfl) ?_
                                have loop6 : ∀ (f : Nat) (y : Nat) , y + f = (w.1.2.1 e).length →  gG Z B (11, 121) V1 141 [(0, .ref (B.2.1 20 0 0)), (1, .long (mixL (((w.1.2.1 e).take y).map nI) (mixL ((List.range 4).map (gTell w.1 e)) (mixL (gatesL w.1 e) (dgD2 w))))), (3, .int (nI e)), (4, .int (nI y))] [] := by
                                  intro f
                                  induction f with
                                  | zero =>
                                    intro y  hf 
                                    have hql : (w.1.2.1 e).length ≤ 16 := (hM1.1.2.2.2.1 e (by omega)).2.1
                                    refine g_iload X 3 rfl dX8_digest_141 ?_
                                    refine g_aload_n X 0 rfl dX8_digest_143 ?_
                                    refine gg_X8_s X ⟨by decide, by decide⟩ fX8_34 dX8_digest_144 ?_
                                    refine gg_X7_box X ⟨by decide, by decide⟩ fX8_103 dX8_digest_147 ?_
                                    refine g_iconst X 5 (by decide) dX8_digest_150 ?_
                                    refine g_iload_n X 2 rfl dX8_digest_151 ?_
                                    refine g_imul X dX8_digest_152 ?_
                                    refine gG_top (nI (5 * e)) (pk_mul 5 e) ?_
                                    refine g_iconst X 3 (by decide) dX8_digest_153 ?_
                                    refine g_iadd X dX8_digest_154 ?_
                                    refine gG_top (nI ((5 * e) + 3)) (nI_add (5 * e) 3) ?_
                                    refine g_ialdN X ((5 * e + 3)) rfl (by omega) (by decide) ⟨by decide, by decide⟩ rfl dX8_digest_155 ?_
                                    refine gG_top (nI (w.1.2.1 e).length) ((hM1.1.2.2.2.1 e (by omega)).1) ?_
                                    refine g_icmp_ge X 188 (by decide) dX8_digest_156 (fun c15 => ?_) (fun c15 => ?_)
                                    · refine gG_L [0, 1, 2] (L' := [(0, .ref (B.2.1 20 0 0)), (1, .long (mixL (((w.1.2.1 e).take y).map nI) (mixL ((List.range 4).map (gTell w.1 e)) (mixL (gatesL w.1 e) (dgD2 w))))), (3, .int (nI e))]) rfl ?_
                                      refine gG_Le [(0, .ref (B.2.1 20 0 0)), (1, .long (mixL (gatesL w.1 (e + 1)) (dgD2 w))), (3, .int (nI e))] (by rw [gate_end w.1 e y _ (by omega), gatesL_succ, mixL_app]) ?_
                                      refine g_iinc X 2 rfl (nI (e + 1)) (iinc_1 _) dX8_digest_188 [(3, .int (nI (e + 1))), (0, .ref (B.2.1 20 0 0)), (1, .long (mixL (gatesL w.1 (e + 1)) (dgD2 w)))] rfl (gnl_lt hnL (by decide)) ?_
                                      refine g_goto X 96 (by decide) dX8_digest_191 ?_
                                      refine gG_L [1, 2, 0] (L' := [(0, .ref (B.2.1 20 0 0)), (1, .long (mixL (gatesL w.1 (e + 1)) (dgD2 w))), (3, .int (nI (e + 1)))]) rfl ?_
                                      refine ih (e + 1) (by omega)
                                    · first | exact absurd (nI_le (by omega) (by omega)) c15 | exact absurd c15 (nI_le (by omega) (by omega))
                                  | succ f ih =>
                                    intro y  hf 
                                    have hql : (w.1.2.1 e).length ≤ 16 := (hM1.1.2.2.2.1 e (by omega)).2.1
                                    obtain ⟨i, hgi⟩ := get_some (xs := w.1.2.1 e) (j := y) (by omega)
                                    refine g_iload X 3 rfl dX8_digest_141 ?_
                                    refine g_aload_n X 0 rfl dX8_digest_143 ?_
                                    refine gg_X8_s X ⟨by decide, by decide⟩ fX8_34 dX8_digest_144 ?_
                                    refine gg_X7_box X ⟨by decide, by decide⟩ fX8_103 dX8_digest_147 ?_
                                    refine g_iconst X 5 (by decide) dX8_digest_150 ?_
                                    refine g_iload_n X 2 rfl dX8_digest_151 ?_
                                    refine g_imul X dX8_digest_152 ?_
                                    refine gG_top (nI (5 * e)) (pk_mul 5 e) ?_
                                    refine g_iconst X 3 (by decide) dX8_digest_153 ?_
                                    refine g_iadd X dX8_digest_154 ?_
                                    refine gG_top (nI ((5 * e) + 3)) (nI_add (5 * e) 3) ?_
                                    refine g_ialdN X ((5 * e + 3)) rfl (by omega) (by decide) ⟨by decide, by decide⟩ rfl dX8_digest_155 ?_
                                    refine gG_top (nI (w.1.2.1 e).length) ((hM1.1.2.2.2.1 e (by omega)).1) ?_
                                    refine g_icmp_ge X 188 (by decide) dX8_digest_156 (fun c16 => ?_) (fun c16 => ?_)
                                    · first | exact absurd (nI_ge (by omega) (by omega)) c16 | exact absurd c16 (nI_ge (by omega) (by omega))
                                    · refine g_lload_n X 1 rfl dX8_digest_159 ?_
                                      refine g_ldc2 X 31 qK_X8_141 dX8_digest_160 ?_
                                      refine g_lmul X dX8_digest_163 ?_
                                      refine g_aload_n X 0 rfl dX8_digest_164 ?_
                                      refine gg_X8_s X ⟨by decide, by decide⟩ fX8_34 dX8_digest_165 ?_
                                      refine gg_X7_row X ⟨by decide, by decide⟩ fX8_119 dX8_digest_168 ?_
                                      refine g_bipush X 16 (by decide) dX8_digest_171 ?_
                                      refine g_iload_n X 2 rfl dX8_digest_173 ?_
                                      refine g_imul X dX8_digest_174 ?_
                                      refine gG_top (nI (16 * e)) (pk_mul 16 e) ?_
                                      refine g_iload X 3 rfl dX8_digest_175 ?_
                                      refine g_iadd X dX8_digest_177 ?_
                                      refine gG_top (nI ((16 * e) + y)) (nI_add (16 * e) y) ?_
                                      refine g_ialdN X ((16 * e + y)) rfl (by omega) (by decide) ⟨by decide, by decide⟩ rfl dX8_digest_178 ?_
                                      refine gG_top (nI i) (by
                                        obtain ⟨hy, hyi⟩ := List.getElem?_eq_some_iff.mp hgi
                                        rw [(hM1.1.2.2.2.1 e (by omega)).2.2 y hy, hyi]) ?_
                                      refine g_i2l X dX8_digest_179 ?_
                                      refine g_ladd X dX8_digest_180 ?_
                                      refine gG_st [.long (mixL (((w.1.2.1 e).take (y + 1)).map nI) (mixL ((List.range 4).map (gTell w.1 e)) (mixL (gatesL w.1 e) (dgD2 w))))] (by rw [show (Value.long (((mixL (((w.1.2.1 e).take y).map nI) (mixL ((List.range 4).map (gTell w.1 e)) (mixL (gatesL w.1 e) (dgD2 w)))) * 31) + ((nI i).toInt64))) = .long (mixL (((w.1.2.1 e).take (y + 1)).map nI) (mixL ((List.range 4).map (gTell w.1 e)) (mixL (gatesL w.1 e) (dgD2 w)))) from congrArg _ ((mixL_take hgi _).symm)]) ?_
                                      refine g_lstore_n X rfl dX8_digest_181 [(1, .long (mixL (((w.1.2.1 e).take (y + 1)).map nI) (mixL ((List.range 4).map (gTell w.1 e)) (mixL (gatesL w.1 e) (dgD2 w))))), (0, .ref (B.2.1 20 0 0)), (3, .int (nI e)), (4, .int (nI y))] rfl (gnl_lt hnL (by decide)) ?_
                                      refine g_iinc X 3 rfl (nI (y + 1)) (iinc_1 _) dX8_digest_182 [(4, .int (nI (y + 1))), (1, .long (mixL (((w.1.2.1 e).take (y + 1)).map nI) (mixL ((List.range 4).map (gTell w.1 e)) (mixL (gatesL w.1 e) (dgD2 w))))), (0, .ref (B.2.1 20 0 0)), (3, .int (nI e))] rfl (gnl_lt hnL (by decide)) ?_
                                      refine g_goto X 141 (by decide) dX8_digest_185 ?_
                                      refine gG_L [2, 1, 3, 0] (L' := [(0, .ref (B.2.1 20 0 0)), (1, .long (mixL (((w.1.2.1 e).take (y + 1)).map nI) (mixL ((List.range 4).map (gTell w.1 e)) (mixL (gatesL w.1 e) (dgD2 w))))), (3, .int (nI e)), (4, .int (nI (y + 1)))]) rfl ?_
                                      refine ih (y + 1) (by omega)
                                exact loop6 (w.1.2.1 e).length 0 (by omega)
                              · first | exact absurd (nI_le (a := 4) (by omega) (by omega)) c14 | exact absurd c14 (nI_le (a := 4) (by omega) (by omega))
                            | succ f ih =>
                              intro z  hf 
                              refine g_iload X 3 rfl dX8_digest_104 ?_
                              refine g_iconst X 4 (by decide) dX8_digest_106 ?_
                              refine g_icmp_ge X 138 (by decide) dX8_digest_107 (fun c17 => ?_) (fun c17 => ?_)
                              · first | exact absurd (nI_ge (b := 4) (by omega) (by decide)) c17 | exact absurd c17 (nI_ge (b := 4) (by omega) (by decide))
                              · refine g_lload_n X 1 rfl dX8_digest_110 ?_
                                refine g_ldc2 X 31 qK_X8_141 dX8_digest_111 ?_
                                refine g_lmul X dX8_digest_114 ?_
                                refine g_aload_n X 0 rfl dX8_digest_115 ?_
                                refine gg_X8_s X ⟨by decide, by decide⟩ fX8_34 dX8_digest_116 ?_
                                refine gg_X7_box X ⟨by decide, by decide⟩ fX8_103 dX8_digest_119 ?_
                                refine g_iconst X 5 (by decide) dX8_digest_122 ?_
                                refine g_iload_n X 2 rfl dX8_digest_123 ?_
                                refine g_imul X dX8_digest_124 ?_
                                refine gG_top (nI (5 * e)) (pk_mul 5 e) ?_
                                refine g_iload X 3 rfl dX8_digest_125 ?_
                                refine g_iadd X dX8_digest_127 ?_
                                refine gG_top (nI ((5 * e) + z)) (nI_add (5 * e) z) ?_
                                refine g_ialdN X ((5 * e + z)) rfl (by omega) (by decide) ⟨by decide, by decide⟩ rfl dX8_digest_128 ?_
                                refine gG_top (gTell w.1 e z) (by
                                  obtain ⟨x1, x2, x3, x4⟩ := hM1.1.2.2.2.2.1 e (by omega)
                                  rcases (show z = 0 ∨ z = 1 ∨ z = 2 ∨ z = 3 by omega) with rfl | rfl | rfl | rfl
                                  · exact x1
                                  · exact x2
                                  · exact x3
                                  · exact (hM1.1.2.2.2.1 e (by omega)).1) ?_
                                refine g_i2l X dX8_digest_129 ?_
                                refine g_ladd X dX8_digest_130 ?_
                                refine gG_st [.long (mixL ((List.range (z + 1)).map (gTell w.1 e)) (mixL (gatesL w.1 e) (dgD2 w)))] (by rw [show (Value.long (((mixL ((List.range z).map (gTell w.1 e)) (mixL (gatesL w.1 e) (dgD2 w))) * 31) + ((gTell w.1 e z).toInt64))) = .long (mixL ((List.range (z + 1)).map (gTell w.1 e)) (mixL (gatesL w.1 e) (dgD2 w))) from congrArg _ ((mixL_range _ _ _).symm)]) ?_
                                refine g_lstore_n X rfl dX8_digest_131 [(1, .long (mixL ((List.range (z + 1)).map (gTell w.1 e)) (mixL (gatesL w.1 e) (dgD2 w)))), (0, .ref (B.2.1 20 0 0)), (3, .int (nI e)), (4, .int (nI z))] rfl (gnl_lt hnL (by decide)) ?_
                                refine g_iinc X 3 rfl (nI (z + 1)) (iinc_1 _) dX8_digest_132 [(4, .int (nI (z + 1))), (1, .long (mixL ((List.range (z + 1)).map (gTell w.1 e)) (mixL (gatesL w.1 e) (dgD2 w)))), (0, .ref (B.2.1 20 0 0)), (3, .int (nI e))] rfl (gnl_lt hnL (by decide)) ?_
                                refine g_goto X 104 (by decide) dX8_digest_135 ?_
                                refine gG_L [2, 1, 3, 0] (L' := [(0, .ref (B.2.1 20 0 0)), (1, .long (mixL ((List.range (z + 1)).map (gTell w.1 e)) (mixL (gatesL w.1 e) (dgD2 w)))), (3, .int (nI e)), (4, .int (nI (z + 1)))]) rfl ?_
                                refine ih (z + 1) (by omega)
                          exact loop5 4 0 (by omega)
                    exact loop4 2 0 (by omega)
                  · first | exact absurd (nI_le (a := 20) (by omega) (by omega)) c4 | exact absurd c4 (nI_le (a := 20) (by omega) (by omega))
                | succ f ih =>
                  intro u  hf 
                  refine g_iload_n X 2 rfl dX8_digest_68 ?_
                  refine g_bipush X 20 (by decide) dX8_digest_69 ?_
                  refine g_icmp_ge X 94 (by decide) dX8_digest_71 (fun c18 => ?_) (fun c18 => ?_)
                  · first | exact absurd (nI_ge (b := 20) (by omega) (by decide)) c18 | exact absurd c18 (nI_ge (b := 20) (by omega) (by decide))
                  · refine g_lload_n X 1 rfl dX8_digest_74 ?_
                    refine g_ldc2 X 31 qK_X8_141 dX8_digest_75 ?_
                    refine g_lmul X dX8_digest_78 ?_
                    refine g_aload_n X 0 rfl dX8_digest_79 ?_
                    refine gg_X8_fog X ⟨by decide, by decide⟩ fX8_13 dX8_digest_80 ?_
                    refine g_iload_n X 2 rfl dX8_digest_83 ?_
                    refine g_ialdN X (u) rfl (by omega) (by decide) ⟨by decide, by decide⟩ rfl dX8_digest_84 ?_
                    refine gG_top (nI (w.2.2 u)) (hM1.2.2 u (by omega)) ?_
                    refine g_i2l X dX8_digest_85 ?_
                    refine g_ladd X dX8_digest_86 ?_
                    refine gG_st [.long (mixL ((List.range (u + 1)).map (fun j => nI (w.2.2 j))) (dgD1 w))] (by rw [show (Value.long (((mixL ((List.range u).map (fun j => nI (w.2.2 j))) (dgD1 w)) * 31) + ((nI (w.2.2 u)).toInt64))) = .long (mixL ((List.range (u + 1)).map (fun j => nI (w.2.2 j))) (dgD1 w)) from congrArg _ ((mixL_range _ _ _).symm)]) ?_
                    refine g_lstore_n X rfl dX8_digest_87 [(1, .long (mixL ((List.range (u + 1)).map (fun j => nI (w.2.2 j))) (dgD1 w))), (0, .ref (B.2.1 20 0 0)), (3, .int (nI u))] rfl (gnl_lt hnL (by decide)) ?_
                    refine g_iinc X 2 rfl (nI (u + 1)) (iinc_1 _) dX8_digest_88 [(3, .int (nI (u + 1))), (1, .long (mixL ((List.range (u + 1)).map (fun j => nI (w.2.2 j))) (dgD1 w))), (0, .ref (B.2.1 20 0 0))] rfl (gnl_lt hnL (by decide)) ?_
                    refine g_goto X 68 (by decide) dX8_digest_91 ?_
                    refine gG_L [2, 1, 0] (L' := [(0, .ref (B.2.1 20 0 0)), (1, .long (mixL ((List.range (u + 1)).map (fun j => nI (w.2.2 j))) (dgD1 w))), (3, .int (nI (u + 1)))]) rfl ?_
                    refine ih (u + 1) (by omega)
              exact loop3 20 0 (by omega)
            · first | exact absurd (nI_le (by omega) (by omega)) c3 | exact absurd c3 (nI_le (by omega) (by omega))
          | succ f ih =>
            intro t  hf 
            have h8 := hw.2.1.1
            refine g_iload_n X 2 rfl dX8_digest_38 ?_
            refine g_aload_n X 0 rfl dX8_digest_39 ?_
            refine gg_X8_signals X ⟨by decide, by decide⟩ fX8_62 dX8_digest_40 ?_
            refine gG_top (nI w.2.1.1) (hM1.2.1.1) ?_
            refine g_icmp_ge X 66 (by decide) dX8_digest_43 (fun c19 => ?_) (fun c19 => ?_)
            · first | exact absurd (nI_ge (by omega) (by omega)) c19 | exact absurd c19 (nI_ge (by omega) (by omega))
            · refine g_lload_n X 1 rfl dX8_digest_46 ?_
              refine g_ldc2 X 31 qK_X8_141 dX8_digest_47 ?_
              refine g_lmul X dX8_digest_50 ?_
              refine g_aload_n X 0 rfl dX8_digest_51 ?_
              refine gg_X8_signal X ⟨by decide, by decide⟩ fX8_9 dX8_digest_52 ?_
              refine g_iload_n X 2 rfl dX8_digest_55 ?_
              refine g_ialdN X (t) rfl (by omega) (by decide) ⟨by decide, by decide⟩ rfl dX8_digest_56 ?_
              refine gG_top (nI (w.2.1.2 t)) (hM1.2.1.2 t (by omega)) ?_
              refine g_i2l X dX8_digest_57 ?_
              refine g_ladd X dX8_digest_58 ?_
              refine gG_st [.long (mixL ((List.range (t + 1)).map (fun j => nI (w.2.1.2 j))) (dgD0 w))] (by rw [show (Value.long (((mixL ((List.range t).map (fun j => nI (w.2.1.2 j))) (dgD0 w)) * 31) + ((nI (w.2.1.2 t)).toInt64))) = .long (mixL ((List.range (t + 1)).map (fun j => nI (w.2.1.2 j))) (dgD0 w)) from congrArg _ ((mixL_range _ _ _).symm)]) ?_
              refine g_lstore_n X rfl dX8_digest_59 [(1, .long (mixL ((List.range (t + 1)).map (fun j => nI (w.2.1.2 j))) (dgD0 w))), (0, .ref (B.2.1 20 0 0)), (3, .int (nI t))] rfl (gnl_lt hnL (by decide)) ?_
              refine g_iinc X 2 rfl (nI (t + 1)) (iinc_1 _) dX8_digest_60 [(3, .int (nI (t + 1))), (1, .long (mixL ((List.range (t + 1)).map (fun j => nI (w.2.1.2 j))) (dgD0 w))), (0, .ref (B.2.1 20 0 0))] rfl (gnl_lt hnL (by decide)) ?_
              refine g_goto X 38 (by decide) dX8_digest_63 ?_
              refine gG_L [2, 1, 0] (L' := [(0, .ref (B.2.1 20 0 0)), (1, .long (mixL ((List.range (t + 1)).map (fun j => nI (w.2.1.2 j))) (dgD0 w))), (3, .int (nI (t + 1)))]) rfl ?_
              refine ih (t + 1) (by omega)
        exact loop2 w.2.1.1 0 (by omega)
      · first | exact absurd (nI_lt (a := 10) (by omega) (by omega)) c2 | exact absurd c2 (nI_lt (a := 10) (by omega) (by omega))
    | succ f ih =>
      intro k  hf 
      refine g_iload_n X 2 rfl dX8_digest_11 ?_
      refine g_bipush X 10 (by decide) dX8_digest_12 ?_
      refine g_icmp_gt X 36 (by decide) dX8_digest_14 (fun c20 => ?_) (fun c20 => ?_)
      · first | exact absurd (nI_nlt (b := k) (a := 10) (by omega) (by omega)) c20 | exact absurd c20 (nI_nlt (b := k) (a := 10) (by omega) (by omega))
      · refine g_lload_n X 1 rfl dX8_digest_17 ?_
        refine g_ldc2 X 31 qK_X8_141 dX8_digest_18 ?_
        refine g_lmul X dX8_digest_21 ?_
        refine g_aload_n X 0 rfl dX8_digest_22 ?_
        refine g_iload_n X 2 rfl dX8_digest_23 ?_
        refine g_callV X hR (rest := [.long ((mixL ((List.range k).map (cntV w)) 683) * 31)]) mX8_counted lX8_129 (k_counted hI V1 w k hM1 hw (by omega) h0) rfl rfl (Nat.le_of_ble_eq_true rfl) ⟨by decide, by decide⟩ rfl rfl rfl ⟨Nat.le_of_ble_eq_true rfl, Nat.le_of_ble_eq_true rfl, by show k + 1 ≤ 11; omega, by show 11 * k + 11 ≤ 121; omega⟩ dX8_digest_24 (fun r21 V22 hz_23 => ?_)
        refine gG_ret hz_23.1 hz_23.2 ?_
        refine gG_st [.int (cntV w k), .long ((mixL ((List.range k).map (cntV w)) 683) * 31)] rfl ?_
        refine gG_n (k + 1, 11 * k + 11) rfl ?_
        refine g_i2l X dX8_digest_27 ?_
        refine g_ladd X dX8_digest_28 ?_
        refine gG_st [.long (mixL ((List.range (k + 1)).map (cntV w)) 683)] (by rw [show (Value.long (((mixL ((List.range k).map (cntV w)) 683) * 31) + ((cntV w k).toInt64))) = .long (mixL ((List.range (k + 1)).map (cntV w)) 683) from congrArg _ ((mixL_range _ _ _).symm)]) ?_
        refine g_lstore_n X rfl dX8_digest_29 [(1, .long (mixL ((List.range (k + 1)).map (cntV w)) 683)), (0, .ref (B.2.1 20 0 0)), (3, .int (nI k))] rfl (gnl_lt hnL (by decide)) ?_
        refine gG_n (k + 1, 11 * (k + 1)) (by rw [Nat.mul_succ]) ?_
        refine g_iinc X 2 rfl (nI (k + 1)) (iinc_1 _) dX8_digest_30 [(3, .int (nI (k + 1))), (1, .long (mixL ((List.range (k + 1)).map (cntV w)) 683)), (0, .ref (B.2.1 20 0 0))] rfl (gnl_lt hnL (by decide)) ?_
        refine g_goto X 11 (by decide) dX8_digest_33 ?_
        refine gG_L [2, 1, 0] (L' := [(0, .ref (B.2.1 20 0 0)), (1, .long (mixL ((List.range (k + 1)).map (cntV w)) 683)), (3, .int (nI (k + 1)))]) rfl ?_
        refine ih (k + 1) (by omega)
  exact loop 11 0 (by omega)

