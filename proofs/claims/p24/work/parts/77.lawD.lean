/-! THE LAW'S LOOP, D: behind the carts: sums, boxes, queues -/
set_option maxRecDepth 20000 in
set_option maxHeartbeats 4000000 in
theorem law_D {Z : gZ} {B : gB} {b L : Nat} {xs : Nat → Int32} (X : gX Z B cL_law RL) (SC : gSC Z B b L xs) (hR : gRm Z = room_1) (hnL : gnL Z = 33) (hown : B.2.2.2.2 = 4) (hLb : L ≤ 260) {nc ns : Nat} (hnc : nc ≤ 600074) (hns : ns ≤ 7301550) {V : gMem} {w : gWd} {a : Nat → Nat → Int32} {c0 : Nat → Nat} {tk al t N P Q : Nat} (hL : gLS V w a) (hw : wOk w) (hI9 : LI c0 tk w.1) (hN : w.1.1 6 = N) (hP : w.1.1 2 = P) (hQ : w.1.1 3 = Q) (hal : al = sumN c0 N) (hAR : ∀ k, k < 4 → a 3 k = nI (stc w.1 k N))
    (cont : ∀ (V : gMem), gLS V w a → gG Z B (nc, ns) V 1084 [(0, .ref b), (1, .ref (B.2.1 0 0 0)), (2, .int (nI N)), (3, .int (nI P)), (4, .int (nI Q)), (5, .ref (B.2.1 29 0 0)), (6, .int (nI al)), (7, .ref (B.2.1 29 1 0)), (8, .ref (B.2.1 29 2 0)), (9, .int (nI tk)), (10, .int (nI t))] []) : gG Z B (nc, ns) V 817 [(0, .ref b), (1, .ref (B.2.1 0 0 0)), (2, .int (nI N)), (3, .int (nI P)), (4, .int (nI Q)), (5, .ref (B.2.1 29 0 0)), (6, .int (nI al)), (7, .ref (B.2.1 29 1 0)), (8, .ref (B.2.1 29 2 0)), (9, .int (nI tk)), (10, .int (nI t)), (22, .int (nI (w.1.1 1))), (23, .ref (B.2.1 29 3 0)), (24, .int (nI (msk w.1 N))), (25, .int (nI (wSm w.1 N))), (26, .int (nI (bk w.1 N))), (27, .int (nI (cSm w.1 N))), (28, .int (nI N))] [] := by
  have hI := gX_I X
  have h16 := hw.n16
  have hbk := bk_all hw.1
  rw [hN] at hbk
  have hbl := bk_le w.1 N
  have hsl := stc_le w.1 1 N
  have hws : wSm w.1 N = sW w.1 := by rw [← hN]; exact wSm_all hw.1
  have hQ5 := hw.1.1.2.2.1
  have hWQ := hI9.2.2.2.2
  have hwa := waits_all hw.1
  rw [hN] at hwa
  have hs0 := stc_le w.1 0 N
  obtain ⟨b01, b02, b03, -⟩ := box_all hI9 (e := 0) (by decide)
  obtain ⟨b11, b12, b13, -⟩ := box_all hI9 (e := 1) (by decide)
  refine g_iconst X (nI 0) (by decide) dL_law_817 ?_
  refine g_istore X dL_law_818 [(28, .int (nI 0)), (0, .ref b), (1, .ref (B.2.1 0 0 0)), (2, .int (nI N)), (3, .int (nI P)), (4, .int (nI Q)), (5, .ref (B.2.1 29 0 0)), (6, .int (nI al)), (7, .ref (B.2.1 29 1 0)), (8, .ref (B.2.1 29 2 0)), (9, .int (nI tk)), (10, .int (nI t)), (22, .int (nI (w.1.1 1))), (23, .ref (B.2.1 29 3 0)), (24, .int (nI (msk w.1 N))), (25, .int (nI (wSm w.1 N))), (26, .int (nI (bk w.1 N))), (27, .int (nI (cSm w.1 N)))] rfl (gnl_lt hnL (by decide)) ?_
  refine g_iload X 0 rfl dL_law_820 ?_
  refine g_iconst X (nI 4) (by decide) dL_law_822 ?_
  refine g_icmp_ge X 850 (by decide) dL_law_823 (fun c1 => ?_) (fun c1 => ?_)
  ·  exact absurd c1 (by decide)
  · refine g_aload_n X 2 rfl dL_law_826 ?_
    refine g_iconst X (nI 3) (by decide) dL_law_827 ?_
    refine g_iload X 0 rfl dL_law_828 ?_
    refine g_iadd X dL_law_830 ?_
    refine gG_top (nI 3) (by decide) ?_
    refine g_callV X hR (rest := []) mX6_count lL_36 (c_count hI V w a 3 hL hw (by first | assumption | decide | omega)) rfl rfl (Nat.le_of_ble_eq_true rfl) ⟨by decide, by decide⟩ rfl rfl rfl ⟨Nat.le_of_ble_eq_true rfl, Nat.le_of_ble_eq_true rfl, hnc, hns⟩ dL_law_831 (fun r2 V3 hz_4 => ?_)
    refine gG_rv hz_4.1 ?_
    have hL5 := hz_4.2
    refine gG_n (nc, ns) rfl ?_
    refine gG_st [.int (nI (sCnt w.1 0))] rfl ?_
    refine g_aload X 13 rfl dL_law_834 ?_
    refine g_iload X 0 rfl dL_law_836 ?_
    refine g_oald X (0) (by rw [hown]; decide) rfl (by show 0 < 4; first | decide | omega) dL_law_838 ?_
    refine gG_top (a 3 0) (congrFun (hL5.2.2 3) _) ?_
    refine gG_top (nI (stc w.1 0 N)) (hAR 0 (by decide)) ?_
    refine g_icmp_eq X 844 (by decide) dL_law_839 (fun c6 => ?_) (fun c6 => ?_)
    · refine g_iinc X 0 rfl (nI 1) (by decide) dL_law_844 [(28, .int (nI 1)), (0, .ref b), (1, .ref (B.2.1 0 0 0)), (2, .int (nI N)), (3, .int (nI P)), (4, .int (nI Q)), (5, .ref (B.2.1 29 0 0)), (6, .int (nI al)), (7, .ref (B.2.1 29 1 0)), (8, .ref (B.2.1 29 2 0)), (9, .int (nI tk)), (10, .int (nI t)), (22, .int (nI (w.1.1 1))), (23, .ref (B.2.1 29 3 0)), (24, .int (nI (msk w.1 N))), (25, .int (nI (wSm w.1 N))), (26, .int (nI (bk w.1 N))), (27, .int (nI (cSm w.1 N)))] rfl (gnl_lt hnL (by decide)) ?_
      refine g_goto X 820 (by decide) dL_law_847 ?_
      refine g_iload X 0 rfl dL_law_820 ?_
      refine g_iconst X (nI 4) (by decide) dL_law_822 ?_
      refine g_icmp_ge X 850 (by decide) dL_law_823 (fun c7 => ?_) (fun c7 => ?_)
      ·  exact absurd c7 (by decide)
      · refine g_aload_n X 2 rfl dL_law_826 ?_
        refine g_iconst X (nI 3) (by decide) dL_law_827 ?_
        refine g_iload X 0 rfl dL_law_828 ?_
        refine g_iadd X dL_law_830 ?_
        refine gG_top (nI 4) (by decide) ?_
        refine g_callV X hR (rest := []) mX6_count lL_36 (c_count hI V3 w a 4 hL5 hw (by first | assumption | decide | omega)) rfl rfl (Nat.le_of_ble_eq_true rfl) ⟨by decide, by decide⟩ rfl rfl rfl ⟨Nat.le_of_ble_eq_true rfl, Nat.le_of_ble_eq_true rfl, hnc, hns⟩ dL_law_831 (fun r8 V9 hz_10 => ?_)
        refine gG_rv hz_10.1 ?_
        have hL11 := hz_10.2
        refine gG_n (nc, ns) rfl ?_
        refine gG_st [.int (nI (sCnt w.1 1))] rfl ?_
        refine g_aload X 13 rfl dL_law_834 ?_
        refine g_iload X 0 rfl dL_law_836 ?_
        refine g_oald X (1) (by rw [hown]; decide) rfl (by show 1 < 4; first | decide | omega) dL_law_838 ?_
        refine gG_top (a 3 1) (congrFun (hL11.2.2 3) _) ?_
        refine gG_top (nI (stc w.1 1 N)) (hAR 1 (by decide)) ?_
        refine g_icmp_eq X 844 (by decide) dL_law_839 (fun c12 => ?_) (fun c12 => ?_)
        · refine g_iinc X 0 rfl (nI 2) (by decide) dL_law_844 [(28, .int (nI 2)), (0, .ref b), (1, .ref (B.2.1 0 0 0)), (2, .int (nI N)), (3, .int (nI P)), (4, .int (nI Q)), (5, .ref (B.2.1 29 0 0)), (6, .int (nI al)), (7, .ref (B.2.1 29 1 0)), (8, .ref (B.2.1 29 2 0)), (9, .int (nI tk)), (10, .int (nI t)), (22, .int (nI (w.1.1 1))), (23, .ref (B.2.1 29 3 0)), (24, .int (nI (msk w.1 N))), (25, .int (nI (wSm w.1 N))), (26, .int (nI (bk w.1 N))), (27, .int (nI (cSm w.1 N)))] rfl (gnl_lt hnL (by decide)) ?_
          refine g_goto X 820 (by decide) dL_law_847 ?_
          refine g_iload X 0 rfl dL_law_820 ?_
          refine g_iconst X (nI 4) (by decide) dL_law_822 ?_
          refine g_icmp_ge X 850 (by decide) dL_law_823 (fun c13 => ?_) (fun c13 => ?_)
          ·  exact absurd c13 (by decide)
          · refine g_aload_n X 2 rfl dL_law_826 ?_
            refine g_iconst X (nI 3) (by decide) dL_law_827 ?_
            refine g_iload X 0 rfl dL_law_828 ?_
            refine g_iadd X dL_law_830 ?_
            refine gG_top (nI 5) (by decide) ?_
            refine g_callV X hR (rest := []) mX6_count lL_36 (c_count hI V9 w a 5 hL11 hw (by first | assumption | decide | omega)) rfl rfl (Nat.le_of_ble_eq_true rfl) ⟨by decide, by decide⟩ rfl rfl rfl ⟨Nat.le_of_ble_eq_true rfl, Nat.le_of_ble_eq_true rfl, hnc, hns⟩ dL_law_831 (fun r14 V15 hz_16 => ?_)
            refine gG_rv hz_16.1 ?_
            have hL17 := hz_16.2
            refine gG_n (nc, ns) rfl ?_
            refine gG_st [.int (nI (sCnt w.1 2))] rfl ?_
            refine g_aload X 13 rfl dL_law_834 ?_
            refine g_iload X 0 rfl dL_law_836 ?_
            refine g_oald X (2) (by rw [hown]; decide) rfl (by show 2 < 4; first | decide | omega) dL_law_838 ?_
            refine gG_top (a 3 2) (congrFun (hL17.2.2 3) _) ?_
            refine gG_top (nI (stc w.1 2 N)) (hAR 2 (by decide)) ?_
            refine g_icmp_eq X 844 (by decide) dL_law_839 (fun c18 => ?_) (fun c18 => ?_)
            · refine g_iinc X 0 rfl (nI 3) (by decide) dL_law_844 [(28, .int (nI 3)), (0, .ref b), (1, .ref (B.2.1 0 0 0)), (2, .int (nI N)), (3, .int (nI P)), (4, .int (nI Q)), (5, .ref (B.2.1 29 0 0)), (6, .int (nI al)), (7, .ref (B.2.1 29 1 0)), (8, .ref (B.2.1 29 2 0)), (9, .int (nI tk)), (10, .int (nI t)), (22, .int (nI (w.1.1 1))), (23, .ref (B.2.1 29 3 0)), (24, .int (nI (msk w.1 N))), (25, .int (nI (wSm w.1 N))), (26, .int (nI (bk w.1 N))), (27, .int (nI (cSm w.1 N)))] rfl (gnl_lt hnL (by decide)) ?_
              refine g_goto X 820 (by decide) dL_law_847 ?_
              refine g_iload X 0 rfl dL_law_820 ?_
              refine g_iconst X (nI 4) (by decide) dL_law_822 ?_
              refine g_icmp_ge X 850 (by decide) dL_law_823 (fun c19 => ?_) (fun c19 => ?_)
              ·  exact absurd c19 (by decide)
              · refine g_aload_n X 2 rfl dL_law_826 ?_
                refine g_iconst X (nI 3) (by decide) dL_law_827 ?_
                refine g_iload X 0 rfl dL_law_828 ?_
                refine g_iadd X dL_law_830 ?_
                refine gG_top (nI 6) (by decide) ?_
                refine g_callV X hR (rest := []) mX6_count lL_36 (c_count hI V15 w a 6 hL17 hw (by first | assumption | decide | omega)) rfl rfl (Nat.le_of_ble_eq_true rfl) ⟨by decide, by decide⟩ rfl rfl rfl ⟨Nat.le_of_ble_eq_true rfl, Nat.le_of_ble_eq_true rfl, hnc, hns⟩ dL_law_831 (fun r20 V21 hz_22 => ?_)
                refine gG_rv hz_22.1 ?_
                have hL23 := hz_22.2
                refine gG_n (nc, ns) rfl ?_
                refine gG_st [.int (nI (sCnt w.1 3))] rfl ?_
                refine g_aload X 13 rfl dL_law_834 ?_
                refine g_iload X 0 rfl dL_law_836 ?_
                refine g_oald X (3) (by rw [hown]; decide) rfl (by show 3 < 4; first | decide | omega) dL_law_838 ?_
                refine gG_top (a 3 3) (congrFun (hL23.2.2 3) _) ?_
                refine gG_top (nI (stc w.1 3 N)) (hAR 3 (by decide)) ?_
                refine g_icmp_eq X 844 (by decide) dL_law_839 (fun c24 => ?_) (fun c24 => ?_)
                · refine g_iinc X 0 rfl (nI 4) (by decide) dL_law_844 [(28, .int (nI 4)), (0, .ref b), (1, .ref (B.2.1 0 0 0)), (2, .int (nI N)), (3, .int (nI P)), (4, .int (nI Q)), (5, .ref (B.2.1 29 0 0)), (6, .int (nI al)), (7, .ref (B.2.1 29 1 0)), (8, .ref (B.2.1 29 2 0)), (9, .int (nI tk)), (10, .int (nI t)), (22, .int (nI (w.1.1 1))), (23, .ref (B.2.1 29 3 0)), (24, .int (nI (msk w.1 N))), (25, .int (nI (wSm w.1 N))), (26, .int (nI (bk w.1 N))), (27, .int (nI (cSm w.1 N)))] rfl (gnl_lt hnL (by decide)) ?_
                  refine g_goto X 820 (by decide) dL_law_847 ?_
                  refine g_iload X 0 rfl dL_law_820 ?_
                  refine g_iconst X (nI 4) (by decide) dL_law_822 ?_
                  refine g_icmp_ge X 850 (by decide) dL_law_823 (fun c25 => ?_) (fun c25 => ?_)
                  · refine gG_L [1, 2, 3, 4, 5, 6, 7, 8, 9, 10, 11, 12, 13, 14, 15, 16, 17, 0] (L' := [(0, .ref b), (1, .ref (B.2.1 0 0 0)), (2, .int (nI N)), (3, .int (nI P)), (4, .int (nI Q)), (5, .ref (B.2.1 29 0 0)), (6, .int (nI al)), (7, .ref (B.2.1 29 1 0)), (8, .ref (B.2.1 29 2 0)), (9, .int (nI tk)), (10, .int (nI t)), (22, .int (nI (w.1.1 1))), (23, .ref (B.2.1 29 3 0)), (24, .int (nI (msk w.1 N))), (25, .int (nI (wSm w.1 N))), (26, .int (nI (bk w.1 N))), (27, .int (nI (cSm w.1 N))), (28, .int (nI 4))]) rfl ?_
                    have jn26 : ∀ V27 : gMem, gLS V27 w a → gG Z B (nc, ns) V27 864 [(0, .ref b), (1, .ref (B.2.1 0 0 0)), (2, .int (nI N)), (3, .int (nI P)), (4, .int (nI Q)), (5, .ref (B.2.1 29 0 0)), (6, .int (nI al)), (7, .ref (B.2.1 29 1 0)), (8, .ref (B.2.1 29 2 0)), (9, .int (nI tk)), (10, .int (nI t)), (22, .int (nI (w.1.1 1))), (23, .ref (B.2.1 29 3 0)), (24, .int (nI (msk w.1 N))), (25, .int (nI (wSm w.1 N))), (26, .int (nI (bk w.1 N))), (27, .int (nI (cSm w.1 N))), (28, .int (nI 4))] [] := by
                      intro V27 hL28
                      refine g_iload X 14 rfl dL_law_864 ?_
                      refine g_aload_n X 1 rfl dL_law_866 ?_
                      refine g_bipush X (nI 8) (by decide) dL_law_867 ?_
                      refine g_callV X hR (rest := [.int (nI (wSm w.1 N))]) mX6_count lL_36 (c_count hI V27 w a 8 hL28 hw (by first | assumption | decide | omega)) rfl rfl (Nat.le_of_ble_eq_true rfl) ⟨by decide, by decide⟩ rfl rfl rfl ⟨Nat.le_of_ble_eq_true rfl, Nat.le_of_ble_eq_true rfl, hnc, hns⟩ dL_law_869 (fun r29 V30 hz_31 => ?_)
                      refine gG_rv hz_31.1 ?_
                      have hL32 := hz_31.2
                      refine gG_n (nc, ns) rfl ?_
                      refine gG_st [.int (nI (sW w.1)), .int (nI (wSm w.1 N))] rfl ?_
                      refine g_icmp_ne X 906 (by decide) dL_law_872 (fun c33 => ?_) (fun c33 => ?_)
                      · first | exact absurd (congrArg nI hws) c33 | exact absurd c33 (congrArg nI hws)
                      · refine g_iload X 14 rfl dL_law_875 ?_
                        refine g_iload X 4 rfl dL_law_877 ?_
                        refine g_icmp_gt X 906 (by decide) dL_law_879 (fun c34 => ?_) (fun c34 => ?_)
                        · first | exact absurd (nI_nlt (by omega) (by omega)) c34 | exact absurd c34 (nI_nlt (by omega) (by omega))
                        · refine g_iload X 16 rfl dL_law_882 ?_
                          refine g_iload X 9 rfl dL_law_884 ?_
                          refine g_iadd X dL_law_886 ?_
                          refine gG_top (nI ((cSm w.1 N) + tk)) (nI_add (cSm w.1 N) tk) ?_
                          refine g_aload_n X 1 rfl dL_law_887 ?_
                          refine g_iconst X (nI 0) (by decide) dL_law_888 ?_
                          refine g_iconst X (nI 0) (by decide) dL_law_889 ?_
                          refine g_callV X hR (rest := [.int (nI ((cSm w.1 N) + tk))]) mX6_box lL_53 (c_box hI V30 w a 0 0 hL32 hw (by first | assumption | decide | omega) (by first | assumption | decide | omega)) rfl rfl (Nat.le_of_ble_eq_true rfl) ⟨by decide, by decide⟩ rfl rfl rfl ⟨Nat.le_of_ble_eq_true rfl, Nat.le_of_ble_eq_true rfl, hnc, hns⟩ dL_law_890 (fun r35 V36 hz_37 => ?_)
                          refine gG_rv hz_37.1 ?_
                          have hL38 := hz_37.2
                          refine gG_n (nc, ns) rfl ?_
                          refine gG_st [.int (nI (w.1.2.2.1 0 1)), .int (nI ((cSm w.1 N) + tk))] rfl ?_
                          refine g_iadd X dL_law_893 ?_
                          refine gG_top (nI (((cSm w.1 N) + tk) + (w.1.2.2.1 0 1))) (nI_add ((cSm w.1 N) + tk) (w.1.2.2.1 0 1)) ?_
                          refine g_aload_n X 1 rfl dL_law_894 ?_
                          refine g_iconst X (nI 1) (by decide) dL_law_895 ?_
                          refine g_iconst X (nI 0) (by decide) dL_law_896 ?_
                          refine g_callV X hR (rest := [.int (nI (((cSm w.1 N) + tk) + (w.1.2.2.1 0 1)))]) mX6_box lL_53 (c_box hI V36 w a 1 0 hL38 hw (by first | assumption | decide | omega) (by first | assumption | decide | omega)) rfl rfl (Nat.le_of_ble_eq_true rfl) ⟨by decide, by decide⟩ rfl rfl rfl ⟨Nat.le_of_ble_eq_true rfl, Nat.le_of_ble_eq_true rfl, hnc, hns⟩ dL_law_897 (fun r39 V40 hz_41 => ?_)
                          refine gG_rv hz_41.1 ?_
                          have hL42 := hz_41.2
                          refine gG_n (nc, ns) rfl ?_
                          refine gG_st [.int (nI (w.1.2.2.1 1 1)), .int (nI (((cSm w.1 N) + tk) + (w.1.2.2.1 0 1)))] rfl ?_
                          refine g_iadd X dL_law_900 ?_
                          refine gG_top (nI ((((cSm w.1 N) + tk) + (w.1.2.2.1 0 1)) + (w.1.2.2.1 1 1))) (nI_add (((cSm w.1 N) + tk) + (w.1.2.2.1 0 1)) (w.1.2.2.1 1 1)) ?_
                          refine g_iload X 6 rfl dL_law_901 ?_
                          refine g_icmp_eq X 908 (by decide) dL_law_903 (fun c43 => ?_) (fun c43 => ?_)
                          · refine g_iconst X (nI 0) (by decide) dL_law_908 ?_
                            refine g_istore X dL_law_909 [(28, .int (nI 0)), (0, .ref b), (1, .ref (B.2.1 0 0 0)), (2, .int (nI N)), (3, .int (nI P)), (4, .int (nI Q)), (5, .ref (B.2.1 29 0 0)), (6, .int (nI al)), (7, .ref (B.2.1 29 1 0)), (8, .ref (B.2.1 29 2 0)), (9, .int (nI tk)), (10, .int (nI t)), (22, .int (nI (w.1.1 1))), (23, .ref (B.2.1 29 3 0)), (24, .int (nI (msk w.1 N))), (25, .int (nI (wSm w.1 N))), (26, .int (nI (bk w.1 N))), (27, .int (nI (cSm w.1 N)))] rfl (gnl_lt hnL (by decide)) ?_
                            refine g_iconst X (nI 0) (by decide) dL_law_911 ?_
                            refine g_istore X dL_law_912 [(29, .int (nI 0)), (28, .int (nI 0)), (0, .ref b), (1, .ref (B.2.1 0 0 0)), (2, .int (nI N)), (3, .int (nI P)), (4, .int (nI Q)), (5, .ref (B.2.1 29 0 0)), (6, .int (nI al)), (7, .ref (B.2.1 29 1 0)), (8, .ref (B.2.1 29 2 0)), (9, .int (nI tk)), (10, .int (nI t)), (22, .int (nI (w.1.1 1))), (23, .ref (B.2.1 29 3 0)), (24, .int (nI (msk w.1 N))), (25, .int (nI (wSm w.1 N))), (26, .int (nI (bk w.1 N))), (27, .int (nI (cSm w.1 N)))] rfl (gnl_lt hnL (by decide)) ?_
                            refine g_iload X 0 rfl dL_law_914 ?_
                            refine g_iconst X (nI 2) (by decide) dL_law_916 ?_
                            refine g_icmp_ge X 1073 (by decide) dL_law_917 (fun c44 => ?_) (fun c44 => ?_)
                            ·  exact absurd c44 (by decide)
                            · refine g_iload X 1 rfl dL_law_920 ?_
                              refine g_aload_n X 3 rfl dL_law_922 ?_
                              refine g_iload X 0 rfl dL_law_923 ?_
                              refine g_iconst X (nI 3) (by decide) dL_law_925 ?_
                              refine g_callV X hR (rest := [.int (nI 0)]) mX6_box lL_53 (c_box hI V40 w a 0 3 hL42 hw (by first | assumption | decide | omega) (by first | assumption | decide | omega)) rfl rfl (Nat.le_of_ble_eq_true rfl) ⟨by decide, by decide⟩ rfl rfl rfl ⟨Nat.le_of_ble_eq_true rfl, Nat.le_of_ble_eq_true rfl, hnc, hns⟩ dL_law_926 (fun r45 V46 hz_47 => ?_)
                              refine gG_rv hz_47.1 ?_
                              have hL48 := hz_47.2
                              refine gG_n (nc, ns) rfl ?_
                              refine gG_st [.int (nI ((w.1.2.1 0).length)), .int (nI 0)] rfl ?_
                              refine g_iadd X dL_law_929 ?_
                              refine gG_top (nI (0 + ((w.1.2.1 0).length))) (nI_add 0 ((w.1.2.1 0).length)) ?_
                              refine g_istore X dL_law_930 [(28, .int (nI (0 + ((w.1.2.1 0).length)))), (29, .int (nI 0)), (0, .ref b), (1, .ref (B.2.1 0 0 0)), (2, .int (nI N)), (3, .int (nI P)), (4, .int (nI Q)), (5, .ref (B.2.1 29 0 0)), (6, .int (nI al)), (7, .ref (B.2.1 29 1 0)), (8, .ref (B.2.1 29 2 0)), (9, .int (nI tk)), (10, .int (nI t)), (22, .int (nI (w.1.1 1))), (23, .ref (B.2.1 29 3 0)), (24, .int (nI (msk w.1 N))), (25, .int (nI (wSm w.1 N))), (26, .int (nI (bk w.1 N))), (27, .int (nI (cSm w.1 N)))] rfl (gnl_lt hnL (by decide)) ?_
                              refine g_iconst X (nI 0) (by decide) dL_law_932 ?_
                              refine g_istore X dL_law_933 [(30, .int (nI 0)), (28, .int (nI (0 + ((w.1.2.1 0).length)))), (29, .int (nI 0)), (0, .ref b), (1, .ref (B.2.1 0 0 0)), (2, .int (nI N)), (3, .int (nI P)), (4, .int (nI Q)), (5, .ref (B.2.1 29 0 0)), (6, .int (nI al)), (7, .ref (B.2.1 29 1 0)), (8, .ref (B.2.1 29 2 0)), (9, .int (nI tk)), (10, .int (nI t)), (22, .int (nI (w.1.1 1))), (23, .ref (B.2.1 29 3 0)), (24, .int (nI (msk w.1 N))), (25, .int (nI (wSm w.1 N))), (26, .int (nI (bk w.1 N))), (27, .int (nI (cSm w.1 N)))] rfl (gnl_lt hnL (by decide)) ?_
                              refine gG_L [3, 4, 5, 6, 7, 8, 9, 10, 11, 12, 13, 14, 15, 16, 17, 18, 19, 1, 2, 0] (L' := [(0, .ref b), (1, .ref (B.2.1 0 0 0)), (2, .int (nI N)), (3, .int (nI P)), (4, .int (nI Q)), (5, .ref (B.2.1 29 0 0)), (6, .int (nI al)), (7, .ref (B.2.1 29 1 0)), (8, .ref (B.2.1 29 2 0)), (9, .int (nI tk)), (10, .int (nI t)), (22, .int (nI (w.1.1 1))), (23, .ref (B.2.1 29 3 0)), (24, .int (nI (msk w.1 N))), (25, .int (nI (wSm w.1 N))), (26, .int (nI (bk w.1 N))), (27, .int (nI (cSm w.1 N))), (28, .int (nI (0 + ((w.1.2.1 0).length)))), (29, .int (nI 0)), (30, .int (nI 0))]) rfl ?_
                              have lp0 : ∀ (f k : Nat) (V : gMem), k + f = (w.1.2.1 0).length → gLS V w a → gG Z B (nc, ns) V 935 [(0, .ref b), (1, .ref (B.2.1 0 0 0)), (2, .int (nI N)), (3, .int (nI P)), (4, .int (nI Q)), (5, .ref (B.2.1 29 0 0)), (6, .int (nI al)), (7, .ref (B.2.1 29 1 0)), (8, .ref (B.2.1 29 2 0)), (9, .int (nI tk)), (10, .int (nI t)), (22, .int (nI (w.1.1 1))), (23, .ref (B.2.1 29 3 0)), (24, .int (nI (msk w.1 N))), (25, .int (nI (wSm w.1 N))), (26, .int (nI (bk w.1 N))), (27, .int (nI (cSm w.1 N))), (28, .int (nI (0 + ((w.1.2.1 0).length)))), (29, .int (nI 0)), (30, .int (nI k))] [] := by
                                intro f
                                induction f with
                                | zero =>
                                  intro k V hkf hL
                                  refine g_iload X 19 rfl dL_law_935 ?_
                                  refine g_aload_n X 1 rfl dL_law_937 ?_
                                  refine g_iload X 18 rfl dL_law_938 ?_
                                  refine g_iconst X (nI 3) (by decide) dL_law_940 ?_
                                  refine g_callV X hR (rest := [.int (nI k)]) mX6_box lL_53 (c_box hI V w a 0 3 hL hw (by first | assumption | decide | omega) (by first | assumption | decide | omega)) rfl rfl (Nat.le_of_ble_eq_true rfl) ⟨by decide, by decide⟩ rfl rfl rfl ⟨Nat.le_of_ble_eq_true rfl, Nat.le_of_ble_eq_true rfl, hnc, hns⟩ dL_law_941 (fun r49 V50 hz_51 => ?_)
                                  refine gG_rv hz_51.1 ?_
                                  have hL52 := hz_51.2
                                  refine gG_n (nc, ns) rfl ?_
                                  refine gG_st [.int (nI ((w.1.2.1 0).length)), .int (nI k)] rfl ?_
                                  refine g_icmp_ge X 1018 (by decide) dL_law_944 (fun c53 => ?_) (fun c53 => ?_)
                                  · refine g_aload_n X 1 rfl dL_law_1018 ?_
                                    refine g_iload X 18 rfl dL_law_1019 ?_
                                    refine g_iconst X (nI 1) (by decide) dL_law_1021 ?_
                                    refine g_callV X hR (rest := []) mX6_box lL_53 (c_box hI V50 w a 0 1 hL52 hw (by first | assumption | decide | omega) (by first | assumption | decide | omega)) rfl rfl (Nat.le_of_ble_eq_true rfl) ⟨by decide, by decide⟩ rfl rfl rfl ⟨Nat.le_of_ble_eq_true rfl, Nat.le_of_ble_eq_true rfl, hnc, hns⟩ dL_law_1022 (fun r54 V55 hz_56 => ?_)
                                    refine gG_rv hz_56.1 ?_
                                    have hL57 := hz_56.2
                                    refine gG_n (nc, ns) rfl ?_
                                    refine gG_st [.int (nI (w.1.2.2.1 0 2))] rfl ?_
                                    refine g_iload_n X 2 rfl dL_law_1025 ?_
                                    refine g_icmp_gt X 1065 (by decide) dL_law_1026 (fun c58 => ?_) (fun c58 => ?_)
                                    · first | exact absurd (nI_nlt (by omega) (by omega)) c58 | exact absurd c58 (nI_nlt (by omega) (by omega))
                                    · refine g_aload_n X 1 rfl dL_law_1029 ?_
                                      refine g_iload X 18 rfl dL_law_1030 ?_
                                      refine g_iconst X (nI 2) (by decide) dL_law_1032 ?_
                                      refine g_callV X hR (rest := []) mX6_box lL_53 (c_box hI V55 w a 0 2 hL57 hw (by first | assumption | decide | omega) (by first | assumption | decide | omega)) rfl rfl (Nat.le_of_ble_eq_true rfl) ⟨by decide, by decide⟩ rfl rfl rfl ⟨Nat.le_of_ble_eq_true rfl, Nat.le_of_ble_eq_true rfl, hnc, hns⟩ dL_law_1033 (fun r59 V60 hz_61 => ?_)
                                      refine gG_rv hz_61.1 ?_
                                      have hL62 := hz_61.2
                                      refine gG_n (nc, ns) rfl ?_
                                      refine gG_st [.int (nI (w.1.2.2.1 0 3))] rfl ?_
                                      refine g_aload_n X 1 rfl dL_law_1036 ?_
                                      refine g_iload X 18 rfl dL_law_1037 ?_
                                      refine g_iconst X (nI 1) (by decide) dL_law_1039 ?_
                                      refine g_callV X hR (rest := [.int (nI (w.1.2.2.1 0 3))]) mX6_box lL_53 (c_box hI V60 w a 0 1 hL62 hw (by first | assumption | decide | omega) (by first | assumption | decide | omega)) rfl rfl (Nat.le_of_ble_eq_true rfl) ⟨by decide, by decide⟩ rfl rfl rfl ⟨Nat.le_of_ble_eq_true rfl, Nat.le_of_ble_eq_true rfl, hnc, hns⟩ dL_law_1040 (fun r63 V64 hz_65 => ?_)
                                      refine gG_rv hz_65.1 ?_
                                      have hL66 := hz_65.2
                                      refine gG_n (nc, ns) rfl ?_
                                      refine gG_st [.int (nI (w.1.2.2.1 0 2)), .int (nI (w.1.2.2.1 0 3))] rfl ?_
                                      refine g_icmp_lt X 1065 (by decide) dL_law_1043 (fun c67 => ?_) (fun c67 => ?_)
                                      · first | exact absurd (nI_nlt (by omega) (by omega)) c67 | exact absurd c67 (nI_nlt (by omega) (by omega))
                                      · refine g_aload_n X 1 rfl dL_law_1046 ?_
                                        refine g_iload X 18 rfl dL_law_1047 ?_
                                        refine g_iconst X (nI 2) (by decide) dL_law_1049 ?_
                                        refine g_callV X hR (rest := []) mX6_box lL_53 (c_box hI V64 w a 0 2 hL66 hw (by first | assumption | decide | omega) (by first | assumption | decide | omega)) rfl rfl (Nat.le_of_ble_eq_true rfl) ⟨by decide, by decide⟩ rfl rfl rfl ⟨Nat.le_of_ble_eq_true rfl, Nat.le_of_ble_eq_true rfl, hnc, hns⟩ dL_law_1050 (fun r68 V69 hz_70 => ?_)
                                        refine gG_rv hz_70.1 ?_
                                        have hL71 := hz_70.2
                                        refine gG_n (nc, ns) rfl ?_
                                        refine gG_st [.int (nI (w.1.2.2.1 0 3))] rfl ?_
                                        refine g_iconst X (nI 4) (by decide) dL_law_1053 ?_
                                        refine g_aload_n X 1 rfl dL_law_1054 ?_
                                        refine g_iload X 18 rfl dL_law_1055 ?_
                                        refine g_iconst X (nI 1) (by decide) dL_law_1057 ?_
                                        refine g_callV X hR (rest := [.int (nI 4), .int (nI (w.1.2.2.1 0 3))]) mX6_box lL_53 (c_box hI V69 w a 0 1 hL71 hw (by first | assumption | decide | omega) (by first | assumption | decide | omega)) rfl rfl (Nat.le_of_ble_eq_true rfl) ⟨by decide, by decide⟩ rfl rfl rfl ⟨Nat.le_of_ble_eq_true rfl, Nat.le_of_ble_eq_true rfl, hnc, hns⟩ dL_law_1058 (fun r72 V73 hz_74 => ?_)
                                        refine gG_rv hz_74.1 ?_
                                        have hL75 := hz_74.2
                                        refine gG_n (nc, ns) rfl ?_
                                        refine gG_st [.int (nI (w.1.2.2.1 0 2)), .int (nI 4), .int (nI (w.1.2.2.1 0 3))] rfl ?_
                                        refine g_imul X dL_law_1061 ?_
                                        refine gG_top (nI (4 * (w.1.2.2.1 0 2))) (pk_mul 4 (w.1.2.2.1 0 2)) ?_
                                        refine g_icmp_le X 1067 (by decide) dL_law_1062 (fun c76 => ?_) (fun c76 => ?_)
                                        · refine g_iinc X 18 rfl (nI 1) (by decide) dL_law_1067 [(29, .int (nI 1)), (0, .ref b), (1, .ref (B.2.1 0 0 0)), (2, .int (nI N)), (3, .int (nI P)), (4, .int (nI Q)), (5, .ref (B.2.1 29 0 0)), (6, .int (nI al)), (7, .ref (B.2.1 29 1 0)), (8, .ref (B.2.1 29 2 0)), (9, .int (nI tk)), (10, .int (nI t)), (22, .int (nI (w.1.1 1))), (23, .ref (B.2.1 29 3 0)), (24, .int (nI (msk w.1 N))), (25, .int (nI (wSm w.1 N))), (26, .int (nI (bk w.1 N))), (27, .int (nI (cSm w.1 N))), (28, .int (nI (0 + ((w.1.2.1 0).length)))), (30, .int (nI k))] rfl (gnl_lt hnL (by decide)) ?_
                                          refine g_goto X 914 (by decide) dL_law_1070 ?_
                                          refine g_iload X 0 rfl dL_law_914 ?_
                                          refine g_iconst X (nI 2) (by decide) dL_law_916 ?_
                                          refine g_icmp_ge X 1073 (by decide) dL_law_917 (fun c77 => ?_) (fun c77 => ?_)
                                          ·  exact absurd c77 (by decide)
                                          · refine g_iload X 18 rfl dL_law_920 ?_
                                            refine g_aload_n X 2 rfl dL_law_922 ?_
                                            refine g_iload X 0 rfl dL_law_923 ?_
                                            refine g_iconst X (nI 3) (by decide) dL_law_925 ?_
                                            refine g_callV X hR (rest := [.int (nI (0 + ((w.1.2.1 0).length)))]) mX6_box lL_53 (c_box hI V73 w a 1 3 hL75 hw (by first | assumption | decide | omega) (by first | assumption | decide | omega)) rfl rfl (Nat.le_of_ble_eq_true rfl) ⟨by decide, by decide⟩ rfl rfl rfl ⟨Nat.le_of_ble_eq_true rfl, Nat.le_of_ble_eq_true rfl, hnc, hns⟩ dL_law_926 (fun r78 V79 hz_80 => ?_)
                                            refine gG_rv hz_80.1 ?_
                                            have hL81 := hz_80.2
                                            refine gG_n (nc, ns) rfl ?_
                                            refine gG_st [.int (nI ((w.1.2.1 1).length)), .int (nI (0 + ((w.1.2.1 0).length)))] rfl ?_
                                            refine g_iadd X dL_law_929 ?_
                                            refine gG_top (nI ((0 + ((w.1.2.1 0).length)) + ((w.1.2.1 1).length))) (nI_add (0 + ((w.1.2.1 0).length)) ((w.1.2.1 1).length)) ?_
                                            refine g_istore X dL_law_930 [(28, .int (nI ((0 + ((w.1.2.1 0).length)) + ((w.1.2.1 1).length)))), (29, .int (nI 1)), (0, .ref b), (1, .ref (B.2.1 0 0 0)), (2, .int (nI N)), (3, .int (nI P)), (4, .int (nI Q)), (5, .ref (B.2.1 29 0 0)), (6, .int (nI al)), (7, .ref (B.2.1 29 1 0)), (8, .ref (B.2.1 29 2 0)), (9, .int (nI tk)), (10, .int (nI t)), (22, .int (nI (w.1.1 1))), (23, .ref (B.2.1 29 3 0)), (24, .int (nI (msk w.1 N))), (25, .int (nI (wSm w.1 N))), (26, .int (nI (bk w.1 N))), (27, .int (nI (cSm w.1 N))), (30, .int (nI k))] rfl (gnl_lt hnL (by decide)) ?_
                                            refine g_iconst X (nI 0) (by decide) dL_law_932 ?_
                                            refine g_istore X dL_law_933 [(30, .int (nI 0)), (28, .int (nI ((0 + ((w.1.2.1 0).length)) + ((w.1.2.1 1).length)))), (29, .int (nI 1)), (0, .ref b), (1, .ref (B.2.1 0 0 0)), (2, .int (nI N)), (3, .int (nI P)), (4, .int (nI Q)), (5, .ref (B.2.1 29 0 0)), (6, .int (nI al)), (7, .ref (B.2.1 29 1 0)), (8, .ref (B.2.1 29 2 0)), (9, .int (nI tk)), (10, .int (nI t)), (22, .int (nI (w.1.1 1))), (23, .ref (B.2.1 29 3 0)), (24, .int (nI (msk w.1 N))), (25, .int (nI (wSm w.1 N))), (26, .int (nI (bk w.1 N))), (27, .int (nI (cSm w.1 N)))] rfl (gnl_lt hnL (by decide)) ?_
                                            refine gG_L [3, 4, 5, 6, 7, 8, 9, 10, 11, 12, 13, 14, 15, 16, 17, 18, 19, 1, 2, 0] (L' := [(0, .ref b), (1, .ref (B.2.1 0 0 0)), (2, .int (nI N)), (3, .int (nI P)), (4, .int (nI Q)), (5, .ref (B.2.1 29 0 0)), (6, .int (nI al)), (7, .ref (B.2.1 29 1 0)), (8, .ref (B.2.1 29 2 0)), (9, .int (nI tk)), (10, .int (nI t)), (22, .int (nI (w.1.1 1))), (23, .ref (B.2.1 29 3 0)), (24, .int (nI (msk w.1 N))), (25, .int (nI (wSm w.1 N))), (26, .int (nI (bk w.1 N))), (27, .int (nI (cSm w.1 N))), (28, .int (nI ((0 + ((w.1.2.1 0).length)) + ((w.1.2.1 1).length)))), (29, .int (nI 1)), (30, .int (nI 0))]) rfl ?_
                                            have lp1 : ∀ (f k : Nat) (V : gMem), k + f = (w.1.2.1 1).length → gLS V w a → gG Z B (nc, ns) V 935 [(0, .ref b), (1, .ref (B.2.1 0 0 0)), (2, .int (nI N)), (3, .int (nI P)), (4, .int (nI Q)), (5, .ref (B.2.1 29 0 0)), (6, .int (nI al)), (7, .ref (B.2.1 29 1 0)), (8, .ref (B.2.1 29 2 0)), (9, .int (nI tk)), (10, .int (nI t)), (22, .int (nI (w.1.1 1))), (23, .ref (B.2.1 29 3 0)), (24, .int (nI (msk w.1 N))), (25, .int (nI (wSm w.1 N))), (26, .int (nI (bk w.1 N))), (27, .int (nI (cSm w.1 N))), (28, .int (nI ((0 + ((w.1.2.1 0).length)) + ((w.1.2.1 1).length)))), (29, .int (nI 1)), (30, .int (nI k))] [] := by
                                              intro f
                                              induction f with
                                              | zero =>
                                                intro k V hkf hL
                                                refine g_iload X 19 rfl dL_law_935 ?_
                                                refine g_aload_n X 1 rfl dL_law_937 ?_
                                                refine g_iload X 18 rfl dL_law_938 ?_
                                                refine g_iconst X (nI 3) (by decide) dL_law_940 ?_
                                                refine g_callV X hR (rest := [.int (nI k)]) mX6_box lL_53 (c_box hI V w a 1 3 hL hw (by first | assumption | decide | omega) (by first | assumption | decide | omega)) rfl rfl (Nat.le_of_ble_eq_true rfl) ⟨by decide, by decide⟩ rfl rfl rfl ⟨Nat.le_of_ble_eq_true rfl, Nat.le_of_ble_eq_true rfl, hnc, hns⟩ dL_law_941 (fun r82 V83 hz_84 => ?_)
                                                refine gG_rv hz_84.1 ?_
                                                have hL85 := hz_84.2
                                                refine gG_n (nc, ns) rfl ?_
                                                refine gG_st [.int (nI ((w.1.2.1 1).length)), .int (nI k)] rfl ?_
                                                refine g_icmp_ge X 1018 (by decide) dL_law_944 (fun c86 => ?_) (fun c86 => ?_)
                                                · refine g_aload_n X 1 rfl dL_law_1018 ?_
                                                  refine g_iload X 18 rfl dL_law_1019 ?_
                                                  refine g_iconst X (nI 1) (by decide) dL_law_1021 ?_
                                                  refine g_callV X hR (rest := []) mX6_box lL_53 (c_box hI V83 w a 1 1 hL85 hw (by first | assumption | decide | omega) (by first | assumption | decide | omega)) rfl rfl (Nat.le_of_ble_eq_true rfl) ⟨by decide, by decide⟩ rfl rfl rfl ⟨Nat.le_of_ble_eq_true rfl, Nat.le_of_ble_eq_true rfl, hnc, hns⟩ dL_law_1022 (fun r87 V88 hz_89 => ?_)
                                                  refine gG_rv hz_89.1 ?_
                                                  have hL90 := hz_89.2
                                                  refine gG_n (nc, ns) rfl ?_
                                                  refine gG_st [.int (nI (w.1.2.2.1 1 2))] rfl ?_
                                                  refine g_iload_n X 2 rfl dL_law_1025 ?_
                                                  refine g_icmp_gt X 1065 (by decide) dL_law_1026 (fun c91 => ?_) (fun c91 => ?_)
                                                  · first | exact absurd (nI_nlt (by omega) (by omega)) c91 | exact absurd c91 (nI_nlt (by omega) (by omega))
                                                  · refine g_aload_n X 1 rfl dL_law_1029 ?_
                                                    refine g_iload X 18 rfl dL_law_1030 ?_
                                                    refine g_iconst X (nI 2) (by decide) dL_law_1032 ?_
                                                    refine g_callV X hR (rest := []) mX6_box lL_53 (c_box hI V88 w a 1 2 hL90 hw (by first | assumption | decide | omega) (by first | assumption | decide | omega)) rfl rfl (Nat.le_of_ble_eq_true rfl) ⟨by decide, by decide⟩ rfl rfl rfl ⟨Nat.le_of_ble_eq_true rfl, Nat.le_of_ble_eq_true rfl, hnc, hns⟩ dL_law_1033 (fun r92 V93 hz_94 => ?_)
                                                    refine gG_rv hz_94.1 ?_
                                                    have hL95 := hz_94.2
                                                    refine gG_n (nc, ns) rfl ?_
                                                    refine gG_st [.int (nI (w.1.2.2.1 1 3))] rfl ?_
                                                    refine g_aload_n X 1 rfl dL_law_1036 ?_
                                                    refine g_iload X 18 rfl dL_law_1037 ?_
                                                    refine g_iconst X (nI 1) (by decide) dL_law_1039 ?_
                                                    refine g_callV X hR (rest := [.int (nI (w.1.2.2.1 1 3))]) mX6_box lL_53 (c_box hI V93 w a 1 1 hL95 hw (by first | assumption | decide | omega) (by first | assumption | decide | omega)) rfl rfl (Nat.le_of_ble_eq_true rfl) ⟨by decide, by decide⟩ rfl rfl rfl ⟨Nat.le_of_ble_eq_true rfl, Nat.le_of_ble_eq_true rfl, hnc, hns⟩ dL_law_1040 (fun r96 V97 hz_98 => ?_)
                                                    refine gG_rv hz_98.1 ?_
                                                    have hL99 := hz_98.2
                                                    refine gG_n (nc, ns) rfl ?_
                                                    refine gG_st [.int (nI (w.1.2.2.1 1 2)), .int (nI (w.1.2.2.1 1 3))] rfl ?_
                                                    refine g_icmp_lt X 1065 (by decide) dL_law_1043 (fun c100 => ?_) (fun c100 => ?_)
                                                    · first | exact absurd (nI_nlt (by omega) (by omega)) c100 | exact absurd c100 (nI_nlt (by omega) (by omega))
                                                    · refine g_aload_n X 1 rfl dL_law_1046 ?_
                                                      refine g_iload X 18 rfl dL_law_1047 ?_
                                                      refine g_iconst X (nI 2) (by decide) dL_law_1049 ?_
                                                      refine g_callV X hR (rest := []) mX6_box lL_53 (c_box hI V97 w a 1 2 hL99 hw (by first | assumption | decide | omega) (by first | assumption | decide | omega)) rfl rfl (Nat.le_of_ble_eq_true rfl) ⟨by decide, by decide⟩ rfl rfl rfl ⟨Nat.le_of_ble_eq_true rfl, Nat.le_of_ble_eq_true rfl, hnc, hns⟩ dL_law_1050 (fun r101 V102 hz_103 => ?_)
                                                      refine gG_rv hz_103.1 ?_
                                                      have hL104 := hz_103.2
                                                      refine gG_n (nc, ns) rfl ?_
                                                      refine gG_st [.int (nI (w.1.2.2.1 1 3))] rfl ?_
                                                      refine g_iconst X (nI 4) (by decide) dL_law_1053 ?_
                                                      refine g_aload_n X 1 rfl dL_law_1054 ?_
                                                      refine g_iload X 18 rfl dL_law_1055 ?_
                                                      refine g_iconst X (nI 1) (by decide) dL_law_1057 ?_
                                                      refine g_callV X hR (rest := [.int (nI 4), .int (nI (w.1.2.2.1 1 3))]) mX6_box lL_53 (c_box hI V102 w a 1 1 hL104 hw (by first | assumption | decide | omega) (by first | assumption | decide | omega)) rfl rfl (Nat.le_of_ble_eq_true rfl) ⟨by decide, by decide⟩ rfl rfl rfl ⟨Nat.le_of_ble_eq_true rfl, Nat.le_of_ble_eq_true rfl, hnc, hns⟩ dL_law_1058 (fun r105 V106 hz_107 => ?_)
                                                      refine gG_rv hz_107.1 ?_
                                                      have hL108 := hz_107.2
                                                      refine gG_n (nc, ns) rfl ?_
                                                      refine gG_st [.int (nI (w.1.2.2.1 1 2)), .int (nI 4), .int (nI (w.1.2.2.1 1 3))] rfl ?_
                                                      refine g_imul X dL_law_1061 ?_
                                                      refine gG_top (nI (4 * (w.1.2.2.1 1 2))) (pk_mul 4 (w.1.2.2.1 1 2)) ?_
                                                      refine g_icmp_le X 1067 (by decide) dL_law_1062 (fun c109 => ?_) (fun c109 => ?_)
                                                      · refine g_iinc X 18 rfl (nI 2) (by decide) dL_law_1067 [(29, .int (nI 2)), (0, .ref b), (1, .ref (B.2.1 0 0 0)), (2, .int (nI N)), (3, .int (nI P)), (4, .int (nI Q)), (5, .ref (B.2.1 29 0 0)), (6, .int (nI al)), (7, .ref (B.2.1 29 1 0)), (8, .ref (B.2.1 29 2 0)), (9, .int (nI tk)), (10, .int (nI t)), (22, .int (nI (w.1.1 1))), (23, .ref (B.2.1 29 3 0)), (24, .int (nI (msk w.1 N))), (25, .int (nI (wSm w.1 N))), (26, .int (nI (bk w.1 N))), (27, .int (nI (cSm w.1 N))), (28, .int (nI ((0 + ((w.1.2.1 0).length)) + ((w.1.2.1 1).length)))), (30, .int (nI k))] rfl (gnl_lt hnL (by decide)) ?_
                                                        refine g_goto X 914 (by decide) dL_law_1070 ?_
                                                        refine g_iload X 0 rfl dL_law_914 ?_
                                                        refine g_iconst X (nI 2) (by decide) dL_law_916 ?_
                                                        refine g_icmp_ge X 1073 (by decide) dL_law_917 (fun c110 => ?_) (fun c110 => ?_)
                                                        · refine g_iload X 18 rfl dL_law_1073 ?_
                                                          refine g_aload X 13 rfl dL_law_1075 ?_
                                                          refine g_iconst X (nI 0) (by decide) dL_law_1077 ?_
                                                          refine g_oald X (0) (by rw [hown]; decide) rfl (by show 0 < 4; first | decide | omega) dL_law_1078 ?_
                                                          refine gG_top (a 3 0) (congrFun (hL108.2.2 3) _) ?_
                                                          refine gG_top (nI (stc w.1 0 N)) (hAR 0 (by decide)) ?_
                                                          refine g_icmp_eq X 1084 (by decide) dL_law_1079 (fun c111 => ?_) (fun c111 => ?_)
                                                          · refine gG_L [1, 2, 3, 4, 5, 6, 7, 8, 9, 10, 11] (L' := [(0, .ref b), (1, .ref (B.2.1 0 0 0)), (2, .int (nI N)), (3, .int (nI P)), (4, .int (nI Q)), (5, .ref (B.2.1 29 0 0)), (6, .int (nI al)), (7, .ref (B.2.1 29 1 0)), (8, .ref (B.2.1 29 2 0)), (9, .int (nI tk)), (10, .int (nI t))]) rfl ?_
                                                            exact cont V106 hL108
                                                          · first | exact absurd (congrArg nI (by omega)) c111 | exact absurd c111 (congrArg nI (by omega))
                                                        ·  exact absurd c110 (by decide)
                                                      · first | exact absurd (nI_le (by omega) (by omega)) c109 | exact absurd c109 (nI_le (by omega) (by omega))
                                                · first | exact absurd (nI_le (by omega) (by omega)) c86 | exact absurd c86 (nI_le (by omega) (by omega))
                                              | succ f ih1 =>
                                                intro k V hkf hL
                                                have hk : k < (w.1.2.1 1).length := by omega
                                                obtain ⟨j, hj, hj1, hj2, hj3⟩ := qAt hw.1 (e := 1) (by decide) hk
                                                refine g_iload X 19 rfl dL_law_935 ?_
                                                refine g_aload_n X 1 rfl dL_law_937 ?_
                                                refine g_iload X 18 rfl dL_law_938 ?_
                                                refine g_iconst X (nI 3) (by decide) dL_law_940 ?_
                                                refine g_callV X hR (rest := [.int (nI k)]) mX6_box lL_53 (c_box hI V w a 1 3 hL hw (by first | assumption | decide | omega) (by first | assumption | decide | omega)) rfl rfl (Nat.le_of_ble_eq_true rfl) ⟨by decide, by decide⟩ rfl rfl rfl ⟨Nat.le_of_ble_eq_true rfl, Nat.le_of_ble_eq_true rfl, hnc, hns⟩ dL_law_941 (fun r112 V113 hz_114 => ?_)
                                                refine gG_rv hz_114.1 ?_
                                                have hL115 := hz_114.2
                                                refine gG_n (nc, ns) rfl ?_
                                                refine gG_st [.int (nI ((w.1.2.1 1).length)), .int (nI k)] rfl ?_
                                                refine g_icmp_ge X 1018 (by decide) dL_law_944 (fun c116 => ?_) (fun c116 => ?_)
                                                · first | exact absurd (nI_ge (by omega) (by omega)) c116 | exact absurd c116 (nI_ge (by omega) (by omega))
                                                · refine g_aload_n X 1 rfl dL_law_947 ?_
                                                  refine g_iload X 18 rfl dL_law_948 ?_
                                                  refine g_iload X 19 rfl dL_law_950 ?_
                                                  refine g_callV X hR (rest := []) mX6_queue lL_75 (c_queue hI V113 w a 1 k hL115 hw (by first | assumption | decide | omega) (by first | assumption | decide | omega)) rfl rfl (Nat.le_of_ble_eq_true rfl) ⟨by decide, by decide⟩ rfl rfl rfl ⟨Nat.le_of_ble_eq_true rfl, Nat.le_of_ble_eq_true rfl, hnc, hns⟩ dL_law_952 (fun r117 V118 hz_119 => ?_)
                                                  refine gG_rv hz_119.1 ?_
                                                  have hL120 := hz_119.2
                                                  refine gG_n (nc, ns) rfl ?_
                                                  refine gG_st [.int (nI ((w.1.2.1 1)[k]?.getD 0))] rfl ?_
                                                  refine gG_top (nI j) (by rw [hj]) ?_
                                                  refine g_istore X dL_law_955 [(31, .int (nI j)), (0, .ref b), (1, .ref (B.2.1 0 0 0)), (2, .int (nI N)), (3, .int (nI P)), (4, .int (nI Q)), (5, .ref (B.2.1 29 0 0)), (6, .int (nI al)), (7, .ref (B.2.1 29 1 0)), (8, .ref (B.2.1 29 2 0)), (9, .int (nI tk)), (10, .int (nI t)), (22, .int (nI (w.1.1 1))), (23, .ref (B.2.1 29 3 0)), (24, .int (nI (msk w.1 N))), (25, .int (nI (wSm w.1 N))), (26, .int (nI (bk w.1 N))), (27, .int (nI (cSm w.1 N))), (28, .int (nI ((0 + ((w.1.2.1 0).length)) + ((w.1.2.1 1).length)))), (29, .int (nI 1)), (30, .int (nI k))] rfl (gnl_lt hnL (by decide)) ?_
                                                  refine g_aload_n X 2 rfl dL_law_957 ?_
                                                  refine g_iload X 0 rfl dL_law_958 ?_
                                                  refine g_iconst X (nI 5) (by decide) dL_law_960 ?_
                                                  refine g_callV X hR (rest := []) mX6_cart lL_40 (c_cart hI V118 w a j 5 hL120 hw (by first | assumption | decide | omega) (by first | assumption | decide | omega)) rfl rfl (Nat.le_of_ble_eq_true rfl) ⟨by decide, by decide⟩ rfl rfl rfl ⟨Nat.le_of_ble_eq_true rfl, Nat.le_of_ble_eq_true rfl, hnc, hns⟩ dL_law_961 (fun r121 V122 hz_123 => ?_)
                                                  refine gG_rv hz_123.1 ?_
                                                  have hL124 := hz_123.2
                                                  refine gG_n (nc, ns) rfl ?_
                                                  refine gG_st [.int (nI (w.1.2.2.2.1 j 8))] rfl ?_
                                                  refine g_if_ne X 979 (by decide) dL_law_964 (fun c125 => ?_) (fun c125 => ?_)
                                                  · first | exact absurd (by rw [hj2]; exact rfl) c125 | exact absurd c125 (by rw [hj2]; exact rfl)
                                                  · refine g_aload_n X 2 rfl dL_law_967 ?_
                                                    refine g_iload X 0 rfl dL_law_968 ?_
                                                    refine g_iconst X (nI 4) (by decide) dL_law_970 ?_
                                                    refine g_callV X hR (rest := []) mX6_cart lL_40 (c_cart hI V122 w a j 4 hL124 hw (by first | assumption | decide | omega) (by first | assumption | decide | omega)) rfl rfl (Nat.le_of_ble_eq_true rfl) ⟨by decide, by decide⟩ rfl rfl rfl ⟨Nat.le_of_ble_eq_true rfl, Nat.le_of_ble_eq_true rfl, hnc, hns⟩ dL_law_971 (fun r126 V127 hz_128 => ?_)
                                                    refine gG_rv hz_128.1 ?_
                                                    have hL129 := hz_128.2
                                                    refine gG_n (nc, ns) rfl ?_
                                                    refine gG_st [.int (nI (w.1.2.2.2.1 j 1))] rfl ?_
                                                    refine g_iload X 19 rfl dL_law_974 ?_
                                                    refine g_icmp_eq X 981 (by decide) dL_law_976 (fun c130 => ?_) (fun c130 => ?_)
                                                    · refine g_iconst X (nI 0) (by decide) dL_law_981 ?_
                                                      refine g_istore X dL_law_982 [(32, .int (nI 0)), (31, .int (nI j)), (0, .ref b), (1, .ref (B.2.1 0 0 0)), (2, .int (nI N)), (3, .int (nI P)), (4, .int (nI Q)), (5, .ref (B.2.1 29 0 0)), (6, .int (nI al)), (7, .ref (B.2.1 29 1 0)), (8, .ref (B.2.1 29 2 0)), (9, .int (nI tk)), (10, .int (nI t)), (22, .int (nI (w.1.1 1))), (23, .ref (B.2.1 29 3 0)), (24, .int (nI (msk w.1 N))), (25, .int (nI (wSm w.1 N))), (26, .int (nI (bk w.1 N))), (27, .int (nI (cSm w.1 N))), (28, .int (nI ((0 + ((w.1.2.1 0).length)) + ((w.1.2.1 1).length)))), (29, .int (nI 1)), (30, .int (nI k))] rfl (gnl_lt hnL (by decide)) ?_
                                                      refine gG_L [2, 3, 4, 5, 6, 7, 8, 9, 10, 11, 12, 13, 14, 15, 16, 17, 18, 19, 20, 21, 1, 0] (L' := [(0, .ref b), (1, .ref (B.2.1 0 0 0)), (2, .int (nI N)), (3, .int (nI P)), (4, .int (nI Q)), (5, .ref (B.2.1 29 0 0)), (6, .int (nI al)), (7, .ref (B.2.1 29 1 0)), (8, .ref (B.2.1 29 2 0)), (9, .int (nI tk)), (10, .int (nI t)), (22, .int (nI (w.1.1 1))), (23, .ref (B.2.1 29 3 0)), (24, .int (nI (msk w.1 N))), (25, .int (nI (wSm w.1 N))), (26, .int (nI (bk w.1 N))), (27, .int (nI (cSm w.1 N))), (28, .int (nI ((0 + ((w.1.2.1 0).length)) + ((w.1.2.1 1).length)))), (29, .int (nI 1)), (30, .int (nI k)), (31, .int (nI j)), (32, .int (nI 0))]) rfl ?_
                                                      have lq : ∀ (f o : Nat) (V : gMem), o + f = k → gLS V w a → gG Z B (nc, ns) V 984 [(0, .ref b), (1, .ref (B.2.1 0 0 0)), (2, .int (nI N)), (3, .int (nI P)), (4, .int (nI Q)), (5, .ref (B.2.1 29 0 0)), (6, .int (nI al)), (7, .ref (B.2.1 29 1 0)), (8, .ref (B.2.1 29 2 0)), (9, .int (nI tk)), (10, .int (nI t)), (22, .int (nI (w.1.1 1))), (23, .ref (B.2.1 29 3 0)), (24, .int (nI (msk w.1 N))), (25, .int (nI (wSm w.1 N))), (26, .int (nI (bk w.1 N))), (27, .int (nI (cSm w.1 N))), (28, .int (nI ((0 + ((w.1.2.1 0).length)) + ((w.1.2.1 1).length)))), (29, .int (nI 1)), (30, .int (nI k)), (31, .int (nI j)), (32, .int (nI o))] [] := by
                                                        intro f
                                                        induction f with
                                                        | zero =>
                                                          intro o V hof hL
                                                          refine g_iload X 21 rfl dL_law_984 ?_
                                                          refine g_iload X 19 rfl dL_law_986 ?_
                                                          refine g_icmp_ge X 1012 (by decide) dL_law_988 (fun c131 => ?_) (fun c131 => ?_)
                                                          · refine g_iinc X 19 rfl (nI (k + 1)) (iinc_1 _) dL_law_1012 [(30, .int (nI (k + 1))), (0, .ref b), (1, .ref (B.2.1 0 0 0)), (2, .int (nI N)), (3, .int (nI P)), (4, .int (nI Q)), (5, .ref (B.2.1 29 0 0)), (6, .int (nI al)), (7, .ref (B.2.1 29 1 0)), (8, .ref (B.2.1 29 2 0)), (9, .int (nI tk)), (10, .int (nI t)), (22, .int (nI (w.1.1 1))), (23, .ref (B.2.1 29 3 0)), (24, .int (nI (msk w.1 N))), (25, .int (nI (wSm w.1 N))), (26, .int (nI (bk w.1 N))), (27, .int (nI (cSm w.1 N))), (28, .int (nI ((0 + ((w.1.2.1 0).length)) + ((w.1.2.1 1).length)))), (29, .int (nI 1)), (31, .int (nI j)), (32, .int (nI o))] rfl (gnl_lt hnL (by decide)) ?_
                                                            refine g_goto X 935 (by decide) dL_law_1015 ?_
                                                            refine gG_L [1, 2, 3, 4, 5, 6, 7, 8, 9, 10, 11, 12, 13, 14, 15, 16, 17, 18, 19, 0] (L' := [(0, .ref b), (1, .ref (B.2.1 0 0 0)), (2, .int (nI N)), (3, .int (nI P)), (4, .int (nI Q)), (5, .ref (B.2.1 29 0 0)), (6, .int (nI al)), (7, .ref (B.2.1 29 1 0)), (8, .ref (B.2.1 29 2 0)), (9, .int (nI tk)), (10, .int (nI t)), (22, .int (nI (w.1.1 1))), (23, .ref (B.2.1 29 3 0)), (24, .int (nI (msk w.1 N))), (25, .int (nI (wSm w.1 N))), (26, .int (nI (bk w.1 N))), (27, .int (nI (cSm w.1 N))), (28, .int (nI ((0 + ((w.1.2.1 0).length)) + ((w.1.2.1 1).length)))), (29, .int (nI 1)), (30, .int (nI (k + 1)))]) rfl ?_
                                                            exact ih1 (k + 1) V (by omega) hL
                                                          · first | exact absurd (nI_le (by omega) (by omega)) c131 | exact absurd c131 (nI_le (by omega) (by omega))
                                                        | succ f ihq =>
                                                          intro o V hof hL
                                                          obtain ⟨i, hi, hi1, -, -⟩ := qAt hw.1 (e := 1) (k := o) (by decide) (by omega)
                                                          have hne : i ≠ j := by rw [← hi, ← hj]; exact qNe hw.1 (by decide) hk (by omega)
                                                          refine g_iload X 21 rfl dL_law_984 ?_
                                                          refine g_iload X 19 rfl dL_law_986 ?_
                                                          refine g_icmp_ge X 1012 (by decide) dL_law_988 (fun c132 => ?_) (fun c132 => ?_)
                                                          · first | exact absurd (nI_ge (by omega) (by omega)) c132 | exact absurd c132 (nI_ge (by omega) (by omega))
                                                          · refine g_aload_n X 1 rfl dL_law_991 ?_
                                                            refine g_iload X 18 rfl dL_law_992 ?_
                                                            refine g_iload X 21 rfl dL_law_994 ?_
                                                            refine g_callV X hR (rest := []) mX6_queue lL_75 (c_queue hI V w a 1 o hL hw (by first | assumption | decide | omega) (by first | assumption | decide | omega)) rfl rfl (Nat.le_of_ble_eq_true rfl) ⟨by decide, by decide⟩ rfl rfl rfl ⟨Nat.le_of_ble_eq_true rfl, Nat.le_of_ble_eq_true rfl, hnc, hns⟩ dL_law_996 (fun r133 V134 hz_135 => ?_)
                                                            refine gG_rv hz_135.1 ?_
                                                            have hL136 := hz_135.2
                                                            refine gG_n (nc, ns) rfl ?_
                                                            refine gG_st [.int (nI ((w.1.2.1 1)[o]?.getD 0))] rfl ?_
                                                            refine gG_top (nI i) (by rw [hi]) ?_
                                                            refine g_iload X 20 rfl dL_law_999 ?_
                                                            refine g_icmp_ne X 1006 (by decide) dL_law_1001 (fun c137 => ?_) (fun c137 => ?_)
                                                            · refine g_iinc X 21 rfl (nI (o + 1)) (iinc_1 _) dL_law_1006 [(32, .int (nI (o + 1))), (0, .ref b), (1, .ref (B.2.1 0 0 0)), (2, .int (nI N)), (3, .int (nI P)), (4, .int (nI Q)), (5, .ref (B.2.1 29 0 0)), (6, .int (nI al)), (7, .ref (B.2.1 29 1 0)), (8, .ref (B.2.1 29 2 0)), (9, .int (nI tk)), (10, .int (nI t)), (22, .int (nI (w.1.1 1))), (23, .ref (B.2.1 29 3 0)), (24, .int (nI (msk w.1 N))), (25, .int (nI (wSm w.1 N))), (26, .int (nI (bk w.1 N))), (27, .int (nI (cSm w.1 N))), (28, .int (nI ((0 + ((w.1.2.1 0).length)) + ((w.1.2.1 1).length)))), (29, .int (nI 1)), (30, .int (nI k)), (31, .int (nI j))] rfl (gnl_lt hnL (by decide)) ?_
                                                              refine g_goto X 984 (by decide) dL_law_1009 ?_
                                                              refine gG_L [1, 2, 3, 4, 5, 6, 7, 8, 9, 10, 11, 12, 13, 14, 15, 16, 17, 18, 19, 20, 21, 0] (L' := [(0, .ref b), (1, .ref (B.2.1 0 0 0)), (2, .int (nI N)), (3, .int (nI P)), (4, .int (nI Q)), (5, .ref (B.2.1 29 0 0)), (6, .int (nI al)), (7, .ref (B.2.1 29 1 0)), (8, .ref (B.2.1 29 2 0)), (9, .int (nI tk)), (10, .int (nI t)), (22, .int (nI (w.1.1 1))), (23, .ref (B.2.1 29 3 0)), (24, .int (nI (msk w.1 N))), (25, .int (nI (wSm w.1 N))), (26, .int (nI (bk w.1 N))), (27, .int (nI (cSm w.1 N))), (28, .int (nI ((0 + ((w.1.2.1 0).length)) + ((w.1.2.1 1).length)))), (29, .int (nI 1)), (30, .int (nI k)), (31, .int (nI j)), (32, .int (nI (o + 1)))]) rfl ?_
                                                              exact ihq (o + 1) V134 (by omega) hL136
                                                            · first | exact absurd (fun z => hne ((nI_eq (by omega) (by omega)).mp z)) c137 | exact absurd c137 (fun z => hne ((nI_eq (by omega) (by omega)).mp z))
                                                      exact lq k 0 V127 (Nat.zero_add _) hL129
                                                    · first | exact absurd (congrArg nI hj3) c130 | exact absurd c130 (congrArg nI hj3)
                                            exact lp1 _ 0 V79 (Nat.zero_add _) hL81
                                        · first | exact absurd (nI_le (by omega) (by omega)) c76 | exact absurd c76 (nI_le (by omega) (by omega))
                                  · first | exact absurd (nI_le (by omega) (by omega)) c53 | exact absurd c53 (nI_le (by omega) (by omega))
                                | succ f ih0 =>
                                  intro k V hkf hL
                                  have hk : k < (w.1.2.1 0).length := by omega
                                  obtain ⟨j, hj, hj1, hj2, hj3⟩ := qAt hw.1 (e := 0) (by decide) hk
                                  refine g_iload X 19 rfl dL_law_935 ?_
                                  refine g_aload_n X 1 rfl dL_law_937 ?_
                                  refine g_iload X 18 rfl dL_law_938 ?_
                                  refine g_iconst X (nI 3) (by decide) dL_law_940 ?_
                                  refine g_callV X hR (rest := [.int (nI k)]) mX6_box lL_53 (c_box hI V w a 0 3 hL hw (by first | assumption | decide | omega) (by first | assumption | decide | omega)) rfl rfl (Nat.le_of_ble_eq_true rfl) ⟨by decide, by decide⟩ rfl rfl rfl ⟨Nat.le_of_ble_eq_true rfl, Nat.le_of_ble_eq_true rfl, hnc, hns⟩ dL_law_941 (fun r138 V139 hz_140 => ?_)
                                  refine gG_rv hz_140.1 ?_
                                  have hL141 := hz_140.2
                                  refine gG_n (nc, ns) rfl ?_
                                  refine gG_st [.int (nI ((w.1.2.1 0).length)), .int (nI k)] rfl ?_
                                  refine g_icmp_ge X 1018 (by decide) dL_law_944 (fun c142 => ?_) (fun c142 => ?_)
                                  · first | exact absurd (nI_ge (by omega) (by omega)) c142 | exact absurd c142 (nI_ge (by omega) (by omega))
                                  · refine g_aload_n X 1 rfl dL_law_947 ?_
                                    refine g_iload X 18 rfl dL_law_948 ?_
                                    refine g_iload X 19 rfl dL_law_950 ?_
                                    refine g_callV X hR (rest := []) mX6_queue lL_75 (c_queue hI V139 w a 0 k hL141 hw (by first | assumption | decide | omega) (by first | assumption | decide | omega)) rfl rfl (Nat.le_of_ble_eq_true rfl) ⟨by decide, by decide⟩ rfl rfl rfl ⟨Nat.le_of_ble_eq_true rfl, Nat.le_of_ble_eq_true rfl, hnc, hns⟩ dL_law_952 (fun r143 V144 hz_145 => ?_)
                                    refine gG_rv hz_145.1 ?_
                                    have hL146 := hz_145.2
                                    refine gG_n (nc, ns) rfl ?_
                                    refine gG_st [.int (nI ((w.1.2.1 0)[k]?.getD 0))] rfl ?_
                                    refine gG_top (nI j) (by rw [hj]) ?_
                                    refine g_istore X dL_law_955 [(31, .int (nI j)), (0, .ref b), (1, .ref (B.2.1 0 0 0)), (2, .int (nI N)), (3, .int (nI P)), (4, .int (nI Q)), (5, .ref (B.2.1 29 0 0)), (6, .int (nI al)), (7, .ref (B.2.1 29 1 0)), (8, .ref (B.2.1 29 2 0)), (9, .int (nI tk)), (10, .int (nI t)), (22, .int (nI (w.1.1 1))), (23, .ref (B.2.1 29 3 0)), (24, .int (nI (msk w.1 N))), (25, .int (nI (wSm w.1 N))), (26, .int (nI (bk w.1 N))), (27, .int (nI (cSm w.1 N))), (28, .int (nI (0 + ((w.1.2.1 0).length)))), (29, .int (nI 0)), (30, .int (nI k))] rfl (gnl_lt hnL (by decide)) ?_
                                    refine g_aload_n X 2 rfl dL_law_957 ?_
                                    refine g_iload X 0 rfl dL_law_958 ?_
                                    refine g_iconst X (nI 5) (by decide) dL_law_960 ?_
                                    refine g_callV X hR (rest := []) mX6_cart lL_40 (c_cart hI V144 w a j 5 hL146 hw (by first | assumption | decide | omega) (by first | assumption | decide | omega)) rfl rfl (Nat.le_of_ble_eq_true rfl) ⟨by decide, by decide⟩ rfl rfl rfl ⟨Nat.le_of_ble_eq_true rfl, Nat.le_of_ble_eq_true rfl, hnc, hns⟩ dL_law_961 (fun r147 V148 hz_149 => ?_)
                                    refine gG_rv hz_149.1 ?_
                                    have hL150 := hz_149.2
                                    refine gG_n (nc, ns) rfl ?_
                                    refine gG_st [.int (nI (w.1.2.2.2.1 j 8))] rfl ?_
                                    refine g_if_ne X 979 (by decide) dL_law_964 (fun c151 => ?_) (fun c151 => ?_)
                                    · first | exact absurd (by rw [hj2]; exact rfl) c151 | exact absurd c151 (by rw [hj2]; exact rfl)
                                    · refine g_aload_n X 2 rfl dL_law_967 ?_
                                      refine g_iload X 0 rfl dL_law_968 ?_
                                      refine g_iconst X (nI 4) (by decide) dL_law_970 ?_
                                      refine g_callV X hR (rest := []) mX6_cart lL_40 (c_cart hI V148 w a j 4 hL150 hw (by first | assumption | decide | omega) (by first | assumption | decide | omega)) rfl rfl (Nat.le_of_ble_eq_true rfl) ⟨by decide, by decide⟩ rfl rfl rfl ⟨Nat.le_of_ble_eq_true rfl, Nat.le_of_ble_eq_true rfl, hnc, hns⟩ dL_law_971 (fun r152 V153 hz_154 => ?_)
                                      refine gG_rv hz_154.1 ?_
                                      have hL155 := hz_154.2
                                      refine gG_n (nc, ns) rfl ?_
                                      refine gG_st [.int (nI (w.1.2.2.2.1 j 1))] rfl ?_
                                      refine g_iload X 19 rfl dL_law_974 ?_
                                      refine g_icmp_eq X 981 (by decide) dL_law_976 (fun c156 => ?_) (fun c156 => ?_)
                                      · refine g_iconst X (nI 0) (by decide) dL_law_981 ?_
                                        refine g_istore X dL_law_982 [(32, .int (nI 0)), (31, .int (nI j)), (0, .ref b), (1, .ref (B.2.1 0 0 0)), (2, .int (nI N)), (3, .int (nI P)), (4, .int (nI Q)), (5, .ref (B.2.1 29 0 0)), (6, .int (nI al)), (7, .ref (B.2.1 29 1 0)), (8, .ref (B.2.1 29 2 0)), (9, .int (nI tk)), (10, .int (nI t)), (22, .int (nI (w.1.1 1))), (23, .ref (B.2.1 29 3 0)), (24, .int (nI (msk w.1 N))), (25, .int (nI (wSm w.1 N))), (26, .int (nI (bk w.1 N))), (27, .int (nI (cSm w.1 N))), (28, .int (nI (0 + ((w.1.2.1 0).length)))), (29, .int (nI 0)), (30, .int (nI k))] rfl (gnl_lt hnL (by decide)) ?_
                                        refine gG_L [2, 3, 4, 5, 6, 7, 8, 9, 10, 11, 12, 13, 14, 15, 16, 17, 18, 19, 20, 21, 1, 0] (L' := [(0, .ref b), (1, .ref (B.2.1 0 0 0)), (2, .int (nI N)), (3, .int (nI P)), (4, .int (nI Q)), (5, .ref (B.2.1 29 0 0)), (6, .int (nI al)), (7, .ref (B.2.1 29 1 0)), (8, .ref (B.2.1 29 2 0)), (9, .int (nI tk)), (10, .int (nI t)), (22, .int (nI (w.1.1 1))), (23, .ref (B.2.1 29 3 0)), (24, .int (nI (msk w.1 N))), (25, .int (nI (wSm w.1 N))), (26, .int (nI (bk w.1 N))), (27, .int (nI (cSm w.1 N))), (28, .int (nI (0 + ((w.1.2.1 0).length)))), (29, .int (nI 0)), (30, .int (nI k)), (31, .int (nI j)), (32, .int (nI 0))]) rfl ?_
                                        have lq : ∀ (f o : Nat) (V : gMem), o + f = k → gLS V w a → gG Z B (nc, ns) V 984 [(0, .ref b), (1, .ref (B.2.1 0 0 0)), (2, .int (nI N)), (3, .int (nI P)), (4, .int (nI Q)), (5, .ref (B.2.1 29 0 0)), (6, .int (nI al)), (7, .ref (B.2.1 29 1 0)), (8, .ref (B.2.1 29 2 0)), (9, .int (nI tk)), (10, .int (nI t)), (22, .int (nI (w.1.1 1))), (23, .ref (B.2.1 29 3 0)), (24, .int (nI (msk w.1 N))), (25, .int (nI (wSm w.1 N))), (26, .int (nI (bk w.1 N))), (27, .int (nI (cSm w.1 N))), (28, .int (nI (0 + ((w.1.2.1 0).length)))), (29, .int (nI 0)), (30, .int (nI k)), (31, .int (nI j)), (32, .int (nI o))] [] := by
                                          intro f
                                          induction f with
                                          | zero =>
                                            intro o V hof hL
                                            refine g_iload X 21 rfl dL_law_984 ?_
                                            refine g_iload X 19 rfl dL_law_986 ?_
                                            refine g_icmp_ge X 1012 (by decide) dL_law_988 (fun c157 => ?_) (fun c157 => ?_)
                                            · refine g_iinc X 19 rfl (nI (k + 1)) (iinc_1 _) dL_law_1012 [(30, .int (nI (k + 1))), (0, .ref b), (1, .ref (B.2.1 0 0 0)), (2, .int (nI N)), (3, .int (nI P)), (4, .int (nI Q)), (5, .ref (B.2.1 29 0 0)), (6, .int (nI al)), (7, .ref (B.2.1 29 1 0)), (8, .ref (B.2.1 29 2 0)), (9, .int (nI tk)), (10, .int (nI t)), (22, .int (nI (w.1.1 1))), (23, .ref (B.2.1 29 3 0)), (24, .int (nI (msk w.1 N))), (25, .int (nI (wSm w.1 N))), (26, .int (nI (bk w.1 N))), (27, .int (nI (cSm w.1 N))), (28, .int (nI (0 + ((w.1.2.1 0).length)))), (29, .int (nI 0)), (31, .int (nI j)), (32, .int (nI o))] rfl (gnl_lt hnL (by decide)) ?_
                                              refine g_goto X 935 (by decide) dL_law_1015 ?_
                                              refine gG_L [1, 2, 3, 4, 5, 6, 7, 8, 9, 10, 11, 12, 13, 14, 15, 16, 17, 18, 19, 0] (L' := [(0, .ref b), (1, .ref (B.2.1 0 0 0)), (2, .int (nI N)), (3, .int (nI P)), (4, .int (nI Q)), (5, .ref (B.2.1 29 0 0)), (6, .int (nI al)), (7, .ref (B.2.1 29 1 0)), (8, .ref (B.2.1 29 2 0)), (9, .int (nI tk)), (10, .int (nI t)), (22, .int (nI (w.1.1 1))), (23, .ref (B.2.1 29 3 0)), (24, .int (nI (msk w.1 N))), (25, .int (nI (wSm w.1 N))), (26, .int (nI (bk w.1 N))), (27, .int (nI (cSm w.1 N))), (28, .int (nI (0 + ((w.1.2.1 0).length)))), (29, .int (nI 0)), (30, .int (nI (k + 1)))]) rfl ?_
                                              exact ih0 (k + 1) V (by omega) hL
                                            · first | exact absurd (nI_le (by omega) (by omega)) c157 | exact absurd c157 (nI_le (by omega) (by omega))
                                          | succ f ihq =>
                                            intro o V hof hL
                                            obtain ⟨i, hi, hi1, -, -⟩ := qAt hw.1 (e := 0) (k := o) (by decide) (by omega)
                                            have hne : i ≠ j := by rw [← hi, ← hj]; exact qNe hw.1 (by decide) hk (by omega)
                                            refine g_iload X 21 rfl dL_law_984 ?_
                                            refine g_iload X 19 rfl dL_law_986 ?_
                                            refine g_icmp_ge X 1012 (by decide) dL_law_988 (fun c158 => ?_) (fun c158 => ?_)
                                            · first | exact absurd (nI_ge (by omega) (by omega)) c158 | exact absurd c158 (nI_ge (by omega) (by omega))
                                            · refine g_aload_n X 1 rfl dL_law_991 ?_
                                              refine g_iload X 18 rfl dL_law_992 ?_
                                              refine g_iload X 21 rfl dL_law_994 ?_
                                              refine g_callV X hR (rest := []) mX6_queue lL_75 (c_queue hI V w a 0 o hL hw (by first | assumption | decide | omega) (by first | assumption | decide | omega)) rfl rfl (Nat.le_of_ble_eq_true rfl) ⟨by decide, by decide⟩ rfl rfl rfl ⟨Nat.le_of_ble_eq_true rfl, Nat.le_of_ble_eq_true rfl, hnc, hns⟩ dL_law_996 (fun r159 V160 hz_161 => ?_)
                                              refine gG_rv hz_161.1 ?_
                                              have hL162 := hz_161.2
                                              refine gG_n (nc, ns) rfl ?_
                                              refine gG_st [.int (nI ((w.1.2.1 0)[o]?.getD 0))] rfl ?_
                                              refine gG_top (nI i) (by rw [hi]) ?_
                                              refine g_iload X 20 rfl dL_law_999 ?_
                                              refine g_icmp_ne X 1006 (by decide) dL_law_1001 (fun c163 => ?_) (fun c163 => ?_)
                                              · refine g_iinc X 21 rfl (nI (o + 1)) (iinc_1 _) dL_law_1006 [(32, .int (nI (o + 1))), (0, .ref b), (1, .ref (B.2.1 0 0 0)), (2, .int (nI N)), (3, .int (nI P)), (4, .int (nI Q)), (5, .ref (B.2.1 29 0 0)), (6, .int (nI al)), (7, .ref (B.2.1 29 1 0)), (8, .ref (B.2.1 29 2 0)), (9, .int (nI tk)), (10, .int (nI t)), (22, .int (nI (w.1.1 1))), (23, .ref (B.2.1 29 3 0)), (24, .int (nI (msk w.1 N))), (25, .int (nI (wSm w.1 N))), (26, .int (nI (bk w.1 N))), (27, .int (nI (cSm w.1 N))), (28, .int (nI (0 + ((w.1.2.1 0).length)))), (29, .int (nI 0)), (30, .int (nI k)), (31, .int (nI j))] rfl (gnl_lt hnL (by decide)) ?_
                                                refine g_goto X 984 (by decide) dL_law_1009 ?_
                                                refine gG_L [1, 2, 3, 4, 5, 6, 7, 8, 9, 10, 11, 12, 13, 14, 15, 16, 17, 18, 19, 20, 21, 0] (L' := [(0, .ref b), (1, .ref (B.2.1 0 0 0)), (2, .int (nI N)), (3, .int (nI P)), (4, .int (nI Q)), (5, .ref (B.2.1 29 0 0)), (6, .int (nI al)), (7, .ref (B.2.1 29 1 0)), (8, .ref (B.2.1 29 2 0)), (9, .int (nI tk)), (10, .int (nI t)), (22, .int (nI (w.1.1 1))), (23, .ref (B.2.1 29 3 0)), (24, .int (nI (msk w.1 N))), (25, .int (nI (wSm w.1 N))), (26, .int (nI (bk w.1 N))), (27, .int (nI (cSm w.1 N))), (28, .int (nI (0 + ((w.1.2.1 0).length)))), (29, .int (nI 0)), (30, .int (nI k)), (31, .int (nI j)), (32, .int (nI (o + 1)))]) rfl ?_
                                                exact ihq (o + 1) V160 (by omega) hL162
                                              · first | exact absurd (fun z => hne ((nI_eq (by omega) (by omega)).mp z)) c163 | exact absurd c163 (fun z => hne ((nI_eq (by omega) (by omega)).mp z))
                                        exact lq k 0 V153 (Nat.zero_add _) hL155
                                      · first | exact absurd (congrArg nI hj3) c156 | exact absurd c156 (congrArg nI hj3)
                              exact lp0 _ 0 V46 (Nat.zero_add _) hL48
                          · first | exact absurd (congrArg nI (by rw [hal, ← hN]; exact hI9.2.2.1)) c43 | exact absurd c43 (congrArg nI (by rw [hal, ← hN]; exact hI9.2.2.1))
                    refine g_iload X 15 rfl dL_law_850 ?_
                    by_cases hb0 : bk w.1 N = 0
                    · skip
                      refine g_if_le X 864 (by decide) dL_law_852 (fun c164 => ?_) (fun c164 => ?_)
                      · exact jn26 _ hL23
                      · first | exact absurd (by rw [hb0]; decide) c164 | exact absurd c164 (by rw [hb0]; decide)
                    · skip
                      refine g_if_le X 864 (by decide) dL_law_852 (fun c165 => ?_) (fun c165 => ?_)
                      · first | exact absurd (nI_nle (by omega) (by omega)) c165 | exact absurd c165 (nI_nle (by omega) (by omega))
                      · refine g_iload X 15 rfl dL_law_855 ?_
                        refine g_aload X 12 rfl dL_law_857 ?_
                        refine g_iconst X (nI 1) (by decide) dL_law_859 ?_
                        refine g_oald X (1) (by rw [hown]; decide) rfl (by show 1 < 4; first | decide | omega) dL_law_860 ?_
                        refine gG_top (a 3 1) (congrFun (hL23.2.2 3) _) ?_
                        refine gG_top (nI (stc w.1 1 N)) (hAR 1 (by decide)) ?_
                        refine g_icmp_lt X 906 (by decide) dL_law_861 (fun c166 => ?_) (fun c166 => ?_)
                        · first | exact absurd (nI_nlt (by omega) (by omega)) c166 | exact absurd c166 (nI_nlt (by omega) (by omega))
                        · exact jn26 _ hL23
                  ·  exact absurd c25 (by decide)
                · first | exact absurd (by rw [← hN]; exact rfl) c24 | exact absurd c24 (by rw [← hN]; exact rfl)
            · first | exact absurd (by rw [← hN]; exact rfl) c18 | exact absurd c18 (by rw [← hN]; exact rfl)
        · first | exact absurd (by rw [← hN]; exact rfl) c12 | exact absurd c12 (by rw [← hN]; exact rfl)
    · first | exact absurd (by rw [← hN]; exact rfl) c6 | exact absurd c6 (by rw [← hN]; exact rfl)
