/-! what is foreseen -/
abbrev rmX6_foresee : Room := { frames := 6, cells := 0, slots := 0, locals := 133 }
set_option maxRecDepth 20000 in
theorem p_foresee {l : Launch} {B : gB} (hI : gI B) (V : gMem) (w : gWd) (p : Int32) (q : Int32) (hQ : COk V w) (hw : wOk w) (hN : N15 V) (v1 : inB p 1 100) (v2 : inB q 0 2) : gM l B yX6_foresee cX6_foresee 4 (some .int) rmX6_foresee [.ref (B.2.1 0 0 0), .int p, .int q] V (opo w (oSee w p q) V) := by
  refine gM_of (own := RX6) (L := [(0, .ref (B.2.1 0 0 0)), (1, .int p), (2, .int q)]) (by decide +kernel) rfl hI (Nat.le_of_ble_eq_true rfl) rfl ?_
  intro Z hnL hR X F
  refine g_iload_n X 1 rfl dX6_foresee_0 ?_
  refine g_iconst X 1 (by decide) dX6_foresee_1 ?_
  refine g_bipush X 100 (by decide) dX6_foresee_2 ?_
  refine g_callS X hR (As := [.int p, .int 1, .int 100]) (rest := []) mX6_isBetween lX6_39 (k_isBetween hI V p 1 100 ) rfl rfl (Nat.le_of_ble_eq_true rfl) ⟨Nat.le_of_ble_eq_true rfl, Nat.le_of_ble_eq_true rfl, Nat.le_of_ble_eq_true rfl, Nat.le_of_ble_eq_true rfl⟩ dX6_foresee_4 (fun r1 V2 hz_3 => ?_)
  refine gG_ret hz_3.1 hz_3.2 ?_
  refine gG_st [.int (if inB p 1 100 then 1 else 0)] rfl ?_
  by_cases hP : inB p 1 100
  · refine gG_top 1 (if_pos (hP)) ?_
    refine g_if_ne X 20 (by decide) dX6_foresee_7 (fun c4 => ?_) (fun c4 => ?_)
    · refine g_iload_n X 2 rfl dX6_foresee_20 ?_
      refine g_iconst X 3 (by decide) dX6_foresee_21 ?_
      refine g_callS X hR (As := [.int q, .int 3]) (rest := []) mX6_isIndex lX6_68 (k_isIndexD hI V q 3 ) rfl rfl (Nat.le_of_ble_eq_true rfl) ⟨Nat.le_of_ble_eq_true rfl, Nat.le_of_ble_eq_true rfl, Nat.le_of_ble_eq_true rfl, Nat.le_of_ble_eq_true rfl⟩ dX6_foresee_22 (fun r5 V6 hz_7 => ?_)
      refine gG_ret hz_7.1 hz_7.2 ?_
      refine gG_st [.int (if ixB q 3 then 1 else 0)] rfl ?_
      by_cases hW : inB q 0 2
      · refine gG_top 1 (if_pos ((inB_ix (n := 2) (by decide)).mp hW)) ?_
        refine g_if_ne X 38 (by decide) dX6_foresee_25 (fun c8 => ?_) (fun c8 => ?_)
        · obtain ⟨j, j1, j2, jx⟩ := (inB_iff (a := 1) (n := 100) (by decide) (by decide)).mp hP
          subst jx
          obtain ⟨z, z1, z2, zx⟩ := (inB_iff (a := 0) (n := 2) (by decide) (by decide)).mp hW
          subst zx
          refine g_aload_n X 0 rfl dX6_foresee_38 ?_
          refine gg_X6_ahead X ⟨by decide, by decide⟩ fX6_27 dX6_foresee_39 ?_
          refine g_aload_n X 0 rfl dX6_foresee_42 ?_
          refine gg_X6_bridge X ⟨by decide, by decide⟩ fX6_23 dX6_foresee_43 ?_
          refine g_callV X hR (rest := []) mX0_copyFrom lX6_222 (k_copyFrom hI V 1 0 w.1 (by decide) (by decide) (by decide) hQ.1 hw.1.1.2.2.2.2.2 hw.1.2.1 (hN 1 (by decide)) (by decide)) rfl rfl (Nat.le_of_ble_eq_true rfl) ⟨by decide, by decide⟩ rfl rfl rfl ⟨Nat.le_of_ble_eq_true rfl, Nat.le_of_ble_eq_true rfl, Nat.le_of_ble_eq_true rfl, Nat.le_of_ble_eq_true rfl⟩ dX6_foresee_46 (fun r9 V10 hz_11 => ?_)
          refine gG_rv hz_11.1 ?_
          obtain ⟨-, haV10, hbV10⟩ := hz_11
          refine gG_st [] rfl ?_
          have bV10 : b12 V V10 := b12.rf.br hbV10 (Or.inl rfl)
          have nV10 : N15 V10 := hN.br hbV10 haV10
          refine g_aload_n X 0 rfl dX6_foresee_49 ?_
          refine gg_X6_ahead X ⟨by decide, by decide⟩ fX6_27 dX6_foresee_50 ?_
          refine g_iload_n X 1 rfl dX6_foresee_53 ?_
          refine g_callV X hR (rest := []) mX0_run lX6_212 (k_run hI V10 1 w.1 j (by decide) haV10 hw.1 (by omega)) rfl rfl (Nat.le_of_ble_eq_true rfl) ⟨by decide, by decide⟩ rfl rfl rfl ⟨Nat.le_of_ble_eq_true rfl, Nat.le_of_ble_eq_true rfl, Nat.le_of_ble_eq_true rfl, Nat.le_of_ble_eq_true rfl⟩ dX6_foresee_54 (fun r12 V13 hz_14 => ?_)
          refine gG_rv hz_14.1 ?_
          obtain ⟨-, haV13, hbV13⟩ := hz_14
          refine gG_st [.int (nI (sRun j w.1).2)] rfl ?_
          have bV13 : b12 V V13 := bV10.br hbV13 (Or.inl rfl)
          have nV13 : N15 V13 := nV10.br hbV13 haV13
          refine g_istore_n X rfl dX6_foresee_57 [(3, .int (nI (sRun j w.1).2)), (0, .ref (B.2.1 0 0 0)), (1, .int (nI j)), (2, .int (nI z))] rfl (gnl_lt hnL (by decide)) ?_
          refine g_iload_n X 3 rfl dX6_foresee_58 ?_
          rcases (show z = 0 ∨ z = 1 ∨ z = 2 by omega) with rfl | rfl | rfl
          · refine gG_top 0 rfl ?_
            refine g_lookup X (25) 84 (by decide) (by decide) (by decide) dX6_foresee_59 ?_
            refine g_iload_n X 0 rfl dX6_foresee_84 ?_
            refine g_iret X F ?_ rfl dX6_foresee_85
            rw [show oSee w (nI j) (nI 0) = (0, fsV w.1 j 0, w) from by unfold oSee; rw [if_pos hP, if_pos hW, nI_clamp (by omega), nI_clamp (by decide)]]
            exact ⟨rfl, rfl, hQ.b12 bV13, nV13, bV13.cm⟩
          · refine gG_top 1 rfl ?_
            refine g_lookup X (27) 86 (by decide) (by decide) (by decide) dX6_foresee_59 ?_
            refine g_aload_n X 1 rfl dX6_foresee_86 ?_
            refine gg_X6_ahead X ⟨by decide, by decide⟩ fX6_27 dX6_foresee_87 ?_
            refine g_callV X hR (rest := []) mX0_coinsInBoxes lX6_231 (k_coins hI V13 1 (sRun j w.1).1 (by decide) haV13) rfl rfl (Nat.le_of_ble_eq_true rfl) ⟨by decide, by decide⟩ rfl rfl rfl ⟨Nat.le_of_ble_eq_true rfl, Nat.le_of_ble_eq_true rfl, Nat.le_of_ble_eq_true rfl, Nat.le_of_ble_eq_true rfl⟩ dX6_foresee_90 (fun r15 V16 hz_17 => ?_)
            refine gG_ret hz_17.1 hz_17.2 ?_
            refine gG_st [.int (nI ((sRun j w.1).1.2.2.1 0 1 + (sRun j w.1).1.2.2.1 1 1))] rfl ?_
            refine g_aload_n X 1 rfl dX6_foresee_93 ?_
            refine gg_X6_bridge X ⟨by decide, by decide⟩ fX6_23 dX6_foresee_94 ?_
            refine g_callV X hR (rest := [.int (nI ((sRun j w.1).1.2.2.1 0 1 + (sRun j w.1).1.2.2.1 1 1))]) mX0_coinsInBoxes lX6_231 (k_coins hI V13 0 w.1 (by decide) (bV13.A hQ.1)) rfl rfl (Nat.le_of_ble_eq_true rfl) ⟨by decide, by decide⟩ rfl rfl rfl ⟨Nat.le_of_ble_eq_true rfl, Nat.le_of_ble_eq_true rfl, Nat.le_of_ble_eq_true rfl, Nat.le_of_ble_eq_true rfl⟩ dX6_foresee_97 (fun r18 V19 hz_20 => ?_)
            refine gG_ret hz_20.1 hz_20.2 ?_
            refine gG_st [.int (nI (w.1.2.2.1 0 1 + w.1.2.2.1 1 1)), .int (nI ((sRun j w.1).1.2.2.1 0 1 + (sRun j w.1).1.2.2.1 1 1))] rfl ?_
            refine g_isub X dX6_foresee_100 ?_
            refine g_iret X F ?_ rfl dX6_foresee_101
            rw [show oSee w (nI j) (nI 1) = (0, fsV w.1 j 1, w) from by unfold oSee; rw [if_pos hP, if_pos hW, nI_clamp (by omega), nI_clamp (by decide)]]
            exact ⟨rfl, rfl, hQ.b12 bV13, nV13, bV13.cm⟩
          · refine gG_top 2 rfl ?_
            refine g_lookup X (43) 102 (by decide) (by decide) (by decide) dX6_foresee_59 ?_
            refine g_aload_n X 1 rfl dX6_foresee_102 ?_
            refine gg_X6_ahead X ⟨by decide, by decide⟩ fX6_27 dX6_foresee_103 ?_
            refine gg_X0_crossing X ⟨by decide, by decide⟩ fX6_110 dX6_foresee_106 ?_
            refine gg_X5_size X ⟨by decide, by decide⟩ fX6_114 dX6_foresee_109 ?_
            refine gG_top (nI ((sRun j w.1).1.2.1 2).length) ((haV13.2.1 2 (by decide)).1) ?_
            refine g_iret X F ?_ rfl dX6_foresee_112
            rw [show oSee w (nI j) (nI 2) = (0, fsV w.1 j 2, w) from by unfold oSee; rw [if_pos hP, if_pos hW, nI_clamp (by omega), nI_clamp (by decide)]]
            exact ⟨rfl, rfl, hQ.b12 bV13, nV13, bV13.cm⟩
        ·  exact absurd c8 (by decide)
      · refine gG_top 0 (if_neg (fun z => hW ((inB_ix (n := 2) (by decide)).mpr z))) ?_
        refine g_if_ne X 38 (by decide) dX6_foresee_25 (fun c21 => ?_) (fun c21 => ?_)
        ·  exact absurd c21 (by decide)
        · first | exact absurd v1 hP | exact absurd v2 hW
    ·  exact absurd c4 (by decide)
  · refine gG_top 0 (if_neg (hP)) ?_
    refine g_if_ne X 20 (by decide) dX6_foresee_7 (fun c22 => ?_) (fun c22 => ?_)
    ·  exact absurd c22 (by decide)
    · first | exact absurd v1 hP | exact absurd v2 hW
