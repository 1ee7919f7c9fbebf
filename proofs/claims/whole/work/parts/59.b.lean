set_option maxRecDepth 20000 in
theorem law_setToll {Z : gZ} {B : gB} {b L : Nat} {xs : Nat → Int32} (X : gX Z B cL_law RL) (T : gTL Z B) (hR : gRm Z = room_1) (hnL : gnL Z = 9) (SC : gSC Z B b L xs) (h0 : B.2.2.2.2 = 0) {t : Nat} (ht : 7 * t + 7 ≤ L) (hL : L ≤ 3584) {n : Nat × Nat} (hn1 : n.1 + 12 ≤ 601024) (hn2 : n.2 + 130 ≤ 7293034) {V : gMem} {w : gWd} (hv : vOk w) (hQ : COk V w) (hM : MOk V w) (hN : N15 V) (ht20 : w.1.1 0 < 2 ^ 20) (kk : lawK Z B n b t w) : gG Z B n V 568 [(0, .ref b), (1, .ref (B.2.1 0 0 0)), (2, .ref (B.2.1 20 0 0)), (3, .ref (B.2.1 28 0 0)), (4, .int (nI (7 * t)))] [] := by
  have hI := gX_I X
  refine g_aload_n X 1 rfl dL_law_568 ?_
  refine g_aload_n X 0 rfl dL_law_569 ?_
  refine g_iload X 4 rfl dL_law_570 ?_
  refine g_iconst X 1 (by decide) dL_law_572 ?_
  refine g_iadd X dL_law_573 ?_
  refine gG_top (nI ((7 * t) + 1)) (nI_1 _) ?_
  refine g_sld X SC ((7 * t) + 1) rfl (by omega) (by omega) dL_law_574 ?_
  refine g_aload_n X 0 rfl dL_law_575 ?_
  refine g_iload X 4 rfl dL_law_576 ?_
  refine g_iconst X 2 (by decide) dL_law_578 ?_
  refine g_iadd X dL_law_579 ?_
  refine gG_top (nI ((7 * t) + 2)) (nI_add (7 * t) 2) ?_
  refine g_sld X SC ((7 * t) + 2) rfl (by omega) (by omega) dL_law_580 ?_
  refine g_aload_n X 3 rfl dL_law_581 ?_
  refine g_callH X T hR (k := 4) (As := [.ref (B.2.1 0 0 0), .int (xs ((7 * t) + 1)), .int (xs ((7 * t) + 2)), .ref (B.2.1 28 0 0)]) (rest := []) qT_yL_setToll qC_yL_setToll qN_L (by decide +kernel) (by decide +kernel) qL_L_102 (h_setToll T.st hI V w (xs (7 * t + 1)) (xs (7 * t + 2)) hQ hv.1 hN) rfl rfl (Nat.le_of_ble_eq_true rfl) ⟨Nat.le_of_ble_eq_true rfl, Nat.le_of_ble_eq_true rfl, by show n.1 + 1 ≤ 601024; omega, by show n.2 + 6 ≤ 7293034; omega⟩ dL_law_582 (fun v9 V9 z9 h9 => ?_)
  obtain ⟨e9, hz9, hq9, hn9, hc9⟩ := h9
  subst e9
  refine gG_st [.int (nI (oToll w (xs (7 * t + 1)) (xs (7 * t + 2))).1)] rfl ?_
  have X := gX_out (z := z9) X
  have hI := gX_I X
  have SC := gSC_out (z := z9) SC
  have hMa := hM.cm hc9
  refine gG_n (n.1 + 1, n.2 + 6) rfl ?_
  refine g_istore X dL_law_585 [(5, .int (nI (oToll w (xs (7 * t + 1)) (xs (7 * t + 2))).1)), (0, .ref b), (1, .ref (B.2.1 0 0 0)), (2, .ref (B.2.1 20 0 0)), (3, .ref (B.2.1 28 0 0)), (4, .int (nI (7 * t)))] rfl (gnl_lt hnL (by decide)) ?_
  refine g_aload_n X 3 rfl dL_law_587 ?_
  refine g_aload_n X 1 rfl dL_law_588 ?_
  refine g_iload X 5 rfl dL_law_589 ?_
  refine g_iconst X 1 (by decide) dL_law_591 ?_
  refine g_iadd X dL_law_592 ?_
  refine gG_top (nI ((7 * t) + 1)) (nI_1 _) ?_
  refine g_sld X SC ((7 * t) + 1) rfl (by omega) (by omega) dL_law_593 ?_
  refine g_aload_n X 1 rfl dL_law_594 ?_
  refine g_iload X 5 rfl dL_law_595 ?_
  refine g_iconst X 2 (by decide) dL_law_597 ?_
  refine g_iadd X dL_law_598 ?_
  refine gG_top (nI ((7 * t) + 2)) (nI_add (7 * t) 2) ?_
  refine g_sld X SC ((7 * t) + 2) rfl (by omega) (by omega) dL_law_599 ?_
  refine g_callV X hR (rest := []) mX8_setToll lL_104 (k_MsetToll hI V9 w (xs (7 * t + 1)) (xs (7 * t + 2)) hMa hv.1) rfl rfl (Nat.le_of_ble_eq_true rfl) ⟨by decide, by decide⟩ rfl rfl rfl ⟨Nat.le_of_ble_eq_true rfl, Nat.le_of_ble_eq_true rfl, by show n.1 + 1 + 0 ≤ 601024; omega, by show n.2 + 6 + 0 ≤ 7293034; omega⟩ dL_law_600 (fun r1 V2 hz_3 => ?_)
  refine gG_rv hz_3.1 ?_
  obtain ⟨-, hth9, hM9, hmm9⟩ := hz_3
  refine gG_st [.int ((oToll w (xs (7 * t + 1)) (xs (7 * t + 2))).2.1)] rfl ?_
  refine gG_n (n.1 + 1, n.2 + 6) rfl ?_
  refine g_istore X dL_law_603 [(6, .int ((oToll w (xs (7 * t + 1)) (xs (7 * t + 2))).2.1)), (5, .int (nI (oToll w (xs (7 * t + 1)) (xs (7 * t + 2))).1)), (0, .ref b), (1, .ref (B.2.1 0 0 0)), (2, .ref (B.2.1 20 0 0)), (3, .ref (B.2.1 28 0 0)), (4, .int (nI (7 * t)))] rfl (gnl_lt hnL (by decide)) ?_
  refine g_aload_n X 4 rfl dL_law_605 ?_
  refine g_callV X hR (rest := []) mX8_thrown lL_79 (k_thrown hI V2 ) rfl rfl (Nat.le_of_ble_eq_true rfl) ⟨by decide, by decide⟩ rfl rfl rfl ⟨Nat.le_of_ble_eq_true rfl, Nat.le_of_ble_eq_true rfl, by show n.1 + 1 + 0 ≤ 601024; omega, by show n.2 + 6 + 0 ≤ 7293034; omega⟩ dL_law_606 (fun r4 V5 hz_6 => ?_)
  refine gG_ret hz_6.1 hz_6.2 ?_
  refine gG_st [.int (V2 20 0 0 0)] rfl ?_
  refine gG_n (n.1 + 1, n.2 + 6) rfl ?_
  refine gG_top (nI (oToll w (xs (7 * t + 1)) (xs (7 * t + 2))).1) (hth9) ?_
  refine g_iload X 1 rfl dL_law_609 ?_
  refine g_icmp_eq X 616 (by decide) dL_law_611 (fun c7 => ?_) (fun c7 => ?_)
  · refine g_iload X 1 rfl dL_law_616 ?_
    by_cases ho9 : (oToll w (xs (7 * t + 1)) (xs (7 * t + 2))).1 = 0
    · skip
      refine g_if_ne X 633 (by decide) dL_law_618 (fun c8 => ?_) (fun c8 => ?_)
      · first | exact absurd (fun z => z (by rw [ho9]; rfl)) c8 | exact absurd c8 (fun z => z (by rw [ho9]; rfl))
      · refine g_aload_n X 5 rfl dL_law_621 ?_
        refine g_iconst X 0 (by decide) dL_law_622 ?_
        refine g_laldO X rfl dL_law_623 ?_
        refine gG_st [.long z9] rfl ?_
        refine g_iload X 0 rfl dL_law_624 ?_
        refine g_i2l X dL_law_626 ?_
        refine g_lcmp X dL_law_627 ?_
        refine g_if_eq X 633 (by decide) dL_law_628 (fun c9 => ?_) (fun c9 => ?_)
        · refine g_goto X 1347 (by decide) dL_law_633 ?_
          refine gG_L [2, 3, 4, 5, 6] (L' := [(0, .ref b), (1, .ref (B.2.1 0 0 0)), (2, .ref (B.2.1 20 0 0)), (3, .ref (B.2.1 28 0 0)), (4, .int (nI (7 * t)))]) rfl ?_
          refine g_widen (n.1 + 12, n.2 + 130) (by show n.1 + 1 ≤ n.1 + 12; omega) (by show n.2 + 6 ≤ n.2 + 130; omega) ?_
          exact kk _ _ z9 (hv.toll (xs (7 * t + 1)) (xs (7 * t + 2))) (hq9.mm hmm9) hM9 (hn9.mm hmm9) (oToll_t w (xs (7 * t + 1)) (xs (7 * t + 2)))
        · first | exact absurd ((lg_cmp_eq _ _).mpr (hz9 ho9)) c9 | exact absurd c9 ((lg_cmp_eq _ _).mpr (hz9 ho9))
    · skip
      refine g_if_ne X 633 (by decide) dL_law_618 (fun c10 => ?_) (fun c10 => ?_)
      · refine g_goto X 1347 (by decide) dL_law_633 ?_
        refine gG_L [2, 3, 4, 5, 6] (L' := [(0, .ref b), (1, .ref (B.2.1 0 0 0)), (2, .ref (B.2.1 20 0 0)), (3, .ref (B.2.1 28 0 0)), (4, .int (nI (7 * t)))]) rfl ?_
        refine g_widen (n.1 + 12, n.2 + 130) (by show n.1 + 1 ≤ n.1 + 12; omega) (by show n.2 + 6 ≤ n.2 + 130; omega) ?_
        exact kk _ _ z9 (hv.toll (xs (7 * t + 1)) (xs (7 * t + 2))) (hq9.mm hmm9) hM9 (hn9.mm hmm9) (oToll_t w (xs (7 * t + 1)) (xs (7 * t + 2)))
      · first | exact absurd (nI_ne0 (Nat.pos_of_ne_zero ho9) (by have := oToll_2 w (xs (7 * t + 1)) (xs (7 * t + 2)); omega)) c10 | exact absurd c10 (nI_ne0 (Nat.pos_of_ne_zero ho9) (by have := oToll_2 w (xs (7 * t + 1)) (xs (7 * t + 2)); omega))
  · first | exact absurd (rfl) c7 | exact absurd c7 (rfl)

set_option maxRecDepth 20000 in
theorem law_change {Z : gZ} {B : gB} {b L : Nat} {xs : Nat → Int32} (X : gX Z B cL_law RL) (T : gTL Z B) (hR : gRm Z = room_1) (hnL : gnL Z = 9) (SC : gSC Z B b L xs) (h0 : B.2.2.2.2 = 0) {t : Nat} (ht : 7 * t + 7 ≤ L) (hL : L ≤ 3584) {n : Nat × Nat} (hn1 : n.1 + 12 ≤ 601024) (hn2 : n.2 + 130 ≤ 7293034) {V : gMem} {w : gWd} (hv : vOk w) (hQ : COk V w) (hM : MOk V w) (hN : N15 V) (ht20 : w.1.1 0 < 2 ^ 20) (kk : lawK Z B n b t w) : gG Z B n V 636 [(0, .ref b), (1, .ref (B.2.1 0 0 0)), (2, .ref (B.2.1 20 0 0)), (3, .ref (B.2.1 28 0 0)), (4, .int (nI (7 * t)))] [] := by
  have hI := gX_I X
  refine g_aload_n X 1 rfl dL_law_636 ?_
  refine g_callV X hR (rest := []) mX6_change lL_105 (k_Cchange hI V w hQ hv.1) rfl rfl (Nat.le_of_ble_eq_true rfl) ⟨by decide, by decide⟩ rfl rfl rfl ⟨Nat.le_of_ble_eq_true rfl, Nat.le_of_ble_eq_true rfl, by show n.1 + 0 ≤ 601024; omega, by show n.2 + 0 ≤ 7293034; omega⟩ dL_law_637 (fun r1 V2 hz_3 => ?_)
  refine gG_rv hz_3.1 ?_
  obtain ⟨-, hq9, hc9, hb9⟩ := hz_3
  have hMa := hM.cm hc9
  refine gG_st [.int (nI (1 - w.1.1 1))] rfl ?_
  refine gG_n n rfl ?_
  refine g_aload_n X 2 rfl dL_law_640 ?_
  refine g_callV X hR (rest := [.int (nI (1 - w.1.1 1))]) mX8_change lL_108 (k_Mchange hI V2 w hMa hv.1) rfl rfl (Nat.le_of_ble_eq_true rfl) ⟨by decide, by decide⟩ rfl rfl rfl ⟨Nat.le_of_ble_eq_true rfl, Nat.le_of_ble_eq_true rfl, by show n.1 + 0 ≤ 601024; omega, by show n.2 + 0 ≤ 7293034; omega⟩ dL_law_641 (fun r4 V5 hz_6 => ?_)
  refine gG_rv hz_6.1 ?_
  obtain ⟨-, hM9, hmm9⟩ := hz_6
  refine gG_st [.int (nI (1 - w.1.1 1)), .int (nI (1 - w.1.1 1))] rfl ?_
  refine gG_n n rfl ?_
  refine g_icmp_eq X 1347 (by decide) dL_law_644 (fun c7 => ?_) (fun c7 => ?_)
  · refine g_widen (n.1 + 12, n.2 + 130) (by show n.1 + 0 ≤ n.1 + 12; omega) (by show n.2 + 0 ≤ n.2 + 130; omega) ?_
    exact kk _ (sTurn w.1, w.2) B.2.2.2.1 hv.turn (hq9.mm hmm9) hM9 ((hN.br hb9 hq9.1).mm hmm9) (Nat.le_add_right _ _)
  · first | exact absurd (rfl) c7 | exact absurd c7 (rfl)

set_option maxRecDepth 20000 in
theorem law_come {Z : gZ} {B : gB} {b L : Nat} {xs : Nat → Int32} (X : gX Z B cL_law RL) (T : gTL Z B) (hR : gRm Z = room_1) (hnL : gnL Z = 9) (SC : gSC Z B b L xs) (h0 : B.2.2.2.2 = 0) {t : Nat} (ht : 7 * t + 7 ≤ L) (hL : L ≤ 3584) {n : Nat × Nat} (hn1 : n.1 + 12 ≤ 601024) (hn2 : n.2 + 130 ≤ 7293034) {V : gMem} {w : gWd} (hv : vOk w) (hQ : COk V w) (hM : MOk V w) (hN : N15 V) (ht20 : w.1.1 0 < 2 ^ 20) (kk : lawK Z B n b t w) : gG Z B n V 649 [(0, .ref b), (1, .ref (B.2.1 0 0 0)), (2, .ref (B.2.1 20 0 0)), (3, .ref (B.2.1 28 0 0)), (4, .int (nI (7 * t)))] [] := by
  have hI := gX_I X
  by_cases h6 : xs (7 * t + 6) = 0
  · refine g_aload_n X 1 rfl dL_law_649 ?_
    refine g_aload_n X 0 rfl dL_law_650 ?_
    refine g_iload X 4 rfl dL_law_651 ?_
    refine g_iconst X 1 (by decide) dL_law_653 ?_
    refine g_iadd X dL_law_654 ?_
    refine gG_top (nI ((7 * t) + 1)) (nI_1 _) ?_
    refine g_sld X SC ((7 * t) + 1) rfl (by omega) (by omega) dL_law_655 ?_
    refine g_aload_n X 0 rfl dL_law_656 ?_
    refine g_iload X 4 rfl dL_law_657 ?_
    refine g_iconst X 2 (by decide) dL_law_659 ?_
    refine g_iadd X dL_law_660 ?_
    refine gG_top (nI ((7 * t) + 2)) (nI_add (7 * t) 2) ?_
    refine g_sld X SC ((7 * t) + 2) rfl (by omega) (by omega) dL_law_661 ?_
    refine g_aload_n X 0 rfl dL_law_662 ?_
    refine g_iload X 4 rfl dL_law_663 ?_
    refine g_iconst X 3 (by decide) dL_law_665 ?_
    refine g_iadd X dL_law_666 ?_
    refine gG_top (nI ((7 * t) + 3)) (nI_add (7 * t) 3) ?_
    refine g_sld X SC ((7 * t) + 3) rfl (by omega) (by omega) dL_law_667 ?_
    refine g_aload_n X 0 rfl dL_law_668 ?_
    refine g_iload X 4 rfl dL_law_669 ?_
    refine g_iconst X 4 (by decide) dL_law_671 ?_
    refine g_iadd X dL_law_672 ?_
    refine gG_top (nI ((7 * t) + 4)) (nI_add (7 * t) 4) ?_
    refine g_sld X SC ((7 * t) + 4) rfl (by omega) (by omega) dL_law_673 ?_
    refine g_aload_n X 0 rfl dL_law_674 ?_
    refine g_iload X 4 rfl dL_law_675 ?_
    refine g_iconst X 5 (by decide) dL_law_677 ?_
    refine g_iadd X dL_law_678 ?_
    refine gG_top (nI ((7 * t) + 5)) (nI_add (7 * t) 5) ?_
    refine g_sld X SC ((7 * t) + 5) rfl (by omega) (by omega) dL_law_679 ?_
    refine g_aload_n X 0 rfl dL_law_680 ?_
    refine g_iload X 4 rfl dL_law_681 ?_
    refine g_bipush X 6 (by decide) dL_law_683 ?_
    refine g_iadd X dL_law_685 ?_
    refine gG_top (nI ((7 * t) + 6)) (nI_add (7 * t) 6) ?_
    refine g_sld X SC ((7 * t) + 6) rfl (by omega) (by omega) dL_law_686 ?_
    refine g_if_eq X 694 (by decide) dL_law_687 (fun c1 => ?_) (fun c1 => ?_)
    · refine g_iconst X 0 (by decide) dL_law_694 ?_
      refine g_aload_n X 3 rfl dL_law_695 ?_
      show gG Z B n V 696 [(0, .ref b), (1, .ref (B.2.1 0 0 0)), (2, .ref (B.2.1 20 0 0)), (3, .ref (B.2.1 28 0 0)), (4, .int (nI (7 * t)))] (.ref (B.2.1 28 0 0) :: .int (nI 0) :: _)
      refine g_callH X T hR (k := 8) (As := [.ref (B.2.1 0 0 0), .int (xs ((7 * t) + 1)), .int (xs ((7 * t) + 2)), .int (xs ((7 * t) + 3)), .int (xs ((7 * t) + 4)), .int (xs ((7 * t) + 5)), .int (nI 0), .ref (B.2.1 28 0 0)]) (rest := []) qT_yL_come qC_yL_come qN_L (by decide +kernel) (by decide +kernel) qL_L_109 (h_come T.st hI V w (xs (7 * t + 1)) (xs (7 * t + 2)) (xs (7 * t + 3)) (xs (7 * t + 4)) (xs (7 * t + 5)) 0 hQ hv.1 hN (by decide) hv.2) rfl rfl (Nat.le_of_ble_eq_true rfl) ⟨Nat.le_of_ble_eq_true rfl, Nat.le_of_ble_eq_true rfl, by show n.1 + 1 ≤ 601024; omega, by show n.2 + 6 ≤ 7293034; omega⟩ dL_law_696 (fun v9 V9 z9 h9 => ?_)
      obtain ⟨e9, hz9, hq9, hn9, hc9⟩ := h9
      subst e9
      refine gG_st [.int (nI (oCome w (xs (7 * t + 1)) (xs (7 * t + 2)) (xs (7 * t + 3)) (xs (7 * t + 4)) (xs (7 * t + 5)) (nI 0)).1)] rfl ?_
      have X := gX_out (z := z9) X
      have hI := gX_I X
      have SC := gSC_out (z := z9) SC
      have hMa := hM.cm hc9
      refine gG_n (n.1 + 1, n.2 + 6) rfl ?_
      refine g_istore X dL_law_699 [(5, .int (nI (oCome w (xs (7 * t + 1)) (xs (7 * t + 2)) (xs (7 * t + 3)) (xs (7 * t + 4)) (xs (7 * t + 5)) (nI 0)).1)), (0, .ref b), (1, .ref (B.2.1 0 0 0)), (2, .ref (B.2.1 20 0 0)), (3, .ref (B.2.1 28 0 0)), (4, .int (nI (7 * t)))] rfl (gnl_lt hnL (by decide)) ?_
      refine g_aload_n X 3 rfl dL_law_701 ?_
      refine g_aload_n X 1 rfl dL_law_702 ?_
      refine g_iload X 5 rfl dL_law_703 ?_
      refine g_iconst X 1 (by decide) dL_law_705 ?_
      refine g_iadd X dL_law_706 ?_
      refine gG_top (nI ((7 * t) + 1)) (nI_1 _) ?_
      refine g_sld X SC ((7 * t) + 1) rfl (by omega) (by omega) dL_law_707 ?_
      refine g_aload_n X 1 rfl dL_law_708 ?_
      refine g_iload X 5 rfl dL_law_709 ?_
      refine g_iconst X 2 (by decide) dL_law_711 ?_
      refine g_iadd X dL_law_712 ?_
      refine gG_top (nI ((7 * t) + 2)) (nI_add (7 * t) 2) ?_
      refine g_sld X SC ((7 * t) + 2) rfl (by omega) (by omega) dL_law_713 ?_
      refine g_aload_n X 1 rfl dL_law_714 ?_
      refine g_iload X 5 rfl dL_law_715 ?_
      refine g_iconst X 3 (by decide) dL_law_717 ?_
      refine g_iadd X dL_law_718 ?_
      refine gG_top (nI ((7 * t) + 3)) (nI_add (7 * t) 3) ?_
      refine g_sld X SC ((7 * t) + 3) rfl (by omega) (by omega) dL_law_719 ?_
      refine g_aload_n X 1 rfl dL_law_720 ?_
      refine g_iload X 5 rfl dL_law_721 ?_
      refine g_iconst X 4 (by decide) dL_law_723 ?_
      refine g_iadd X dL_law_724 ?_
      refine gG_top (nI ((7 * t) + 4)) (nI_add (7 * t) 4) ?_
      refine g_sld X SC ((7 * t) + 4) rfl (by omega) (by omega) dL_law_725 ?_
      refine g_aload_n X 1 rfl dL_law_726 ?_
      refine g_iload X 5 rfl dL_law_727 ?_
      refine g_iconst X 5 (by decide) dL_law_729 ?_
      refine g_iadd X dL_law_730 ?_
      refine gG_top (nI ((7 * t) + 5)) (nI_add (7 * t) 5) ?_
      refine g_sld X SC ((7 * t) + 5) rfl (by omega) (by omega) dL_law_731 ?_
      refine g_aload_n X 1 rfl dL_law_732 ?_
      refine g_iload X 5 rfl dL_law_733 ?_
      refine g_bipush X 6 (by decide) dL_law_735 ?_
      refine g_iadd X dL_law_737 ?_
      refine gG_top (nI ((7 * t) + 6)) (nI_add (7 * t) 6) ?_
      refine g_sld X SC ((7 * t) + 6) rfl (by omega) (by omega) dL_law_738 ?_
      refine g_if_eq X 746 (by decide) dL_law_739 (fun c2 => ?_) (fun c2 => ?_)
      · refine g_iconst X 0 (by decide) dL_law_746 ?_
        show gG Z (gOut B z9) _ V9 747 [(5, .int (nI (oCome w (xs (7 * t + 1)) (xs (7 * t + 2)) (xs (7 * t + 3)) (xs (7 * t + 4)) (xs (7 * t + 5)) (nI 0)).1)), (0, .ref b), (1, .ref (B.2.1 0 0 0)), (2, .ref (B.2.1 20 0 0)), (3, .ref (B.2.1 28 0 0)), (4, .int (nI (7 * t)))] (.int (nI 0) :: _)
        refine g_callV X hR (rest := []) mX8_come lL_112 (k_Mcome hI V9 w (xs (7 * t + 1)) (xs (7 * t + 2)) (xs (7 * t + 3)) (xs (7 * t + 4)) (xs (7 * t + 5)) 0 hMa hv.1 (by decide) h0) rfl rfl (Nat.le_of_ble_eq_true rfl) ⟨by decide, by decide⟩ rfl rfl rfl ⟨Nat.le_of_ble_eq_true rfl, Nat.le_of_ble_eq_true rfl, by show n.1 + 1 + 1 ≤ 601024; omega, by show n.2 + 6 + 10 ≤ 7293034; omega⟩ dL_law_747 (fun r3 V4 hz_5 => ?_)
        refine gG_rv hz_5.1 ?_
        obtain ⟨-, hth9, hM9, hmm9⟩ := hz_5
        refine gG_st [.int ((oCome w (xs (7 * t + 1)) (xs (7 * t + 2)) (xs (7 * t + 3)) (xs (7 * t + 4)) (xs (7 * t + 5)) (nI 0)).2.1)] rfl ?_
        refine gG_n (n.1 + 2, n.2 + 16) rfl ?_
        refine gG_n (n.1 + 2, n.2 + 16) rfl ?_
        refine g_istore X dL_law_750 [(6, .int ((oCome w (xs (7 * t + 1)) (xs (7 * t + 2)) (xs (7 * t + 3)) (xs (7 * t + 4)) (xs (7 * t + 5)) (nI 0)).2.1)), (5, .int (nI (oCome w (xs (7 * t + 1)) (xs (7 * t + 2)) (xs (7 * t + 3)) (xs (7 * t + 4)) (xs (7 * t + 5)) (nI 0)).1)), (0, .ref b), (1, .ref (B.2.1 0 0 0)), (2, .ref (B.2.1 20 0 0)), (3, .ref (B.2.1 28 0 0)), (4, .int (nI (7 * t)))] rfl (gnl_lt hnL (by decide)) ?_
        refine g_aload_n X 4 rfl dL_law_752 ?_
        refine g_callV X hR (rest := []) mX8_thrown lL_79 (k_thrown hI V4 ) rfl rfl (Nat.le_of_ble_eq_true rfl) ⟨by decide, by decide⟩ rfl rfl rfl ⟨Nat.le_of_ble_eq_true rfl, Nat.le_of_ble_eq_true rfl, by show n.1 + 2 + 0 ≤ 601024; omega, by show n.2 + 16 + 0 ≤ 7293034; omega⟩ dL_law_753 (fun r6 V7 hz_8 => ?_)
        refine gG_ret hz_8.1 hz_8.2 ?_
        refine gG_st [.int (V4 20 0 0 0)] rfl ?_
        refine gG_n (n.1 + 2, n.2 + 16) rfl ?_
        refine gG_top (nI (oCome w (xs (7 * t + 1)) (xs (7 * t + 2)) (xs (7 * t + 3)) (xs (7 * t + 4)) (xs (7 * t + 5)) (nI 0)).1) (hth9) ?_
        refine g_iload X 1 rfl dL_law_756 ?_
        refine g_icmp_eq X 763 (by decide) dL_law_758 (fun c9 => ?_) (fun c9 => ?_)
        · refine g_iload X 1 rfl dL_law_763 ?_
          by_cases ho9 : (oCome w (xs (7 * t + 1)) (xs (7 * t + 2)) (xs (7 * t + 3)) (xs (7 * t + 4)) (xs (7 * t + 5)) (nI 0)).1 = 0
          · skip
            refine g_if_ne X 780 (by decide) dL_law_765 (fun c10 => ?_) (fun c10 => ?_)
            · first | exact absurd (fun z => z (by rw [ho9]; rfl)) c10 | exact absurd c10 (fun z => z (by rw [ho9]; rfl))
            · refine g_aload_n X 5 rfl dL_law_768 ?_
              refine g_iconst X 0 (by decide) dL_law_769 ?_
              refine g_laldO X rfl dL_law_770 ?_
              refine gG_st [.long z9] rfl ?_
              refine g_iload X 0 rfl dL_law_771 ?_
              refine g_i2l X dL_law_773 ?_
              refine g_lcmp X dL_law_774 ?_
              refine g_if_eq X 780 (by decide) dL_law_775 (fun c11 => ?_) (fun c11 => ?_)
              · refine g_goto X 1347 (by decide) dL_law_780 ?_
                refine gG_L [2, 3, 4, 5, 6] (L' := [(0, .ref b), (1, .ref (B.2.1 0 0 0)), (2, .ref (B.2.1 20 0 0)), (3, .ref (B.2.1 28 0 0)), (4, .int (nI (7 * t)))]) rfl ?_
                refine g_widen (n.1 + 12, n.2 + 130) (by show n.1 + 2 ≤ n.1 + 12; omega) (by show n.2 + 16 ≤ n.2 + 130; omega) ?_
                exact kk _ _ z9 (hv.come (xs (7 * t + 1)) (xs (7 * t + 2)) (xs (7 * t + 3)) (xs (7 * t + 4)) (xs (7 * t + 5)) (by decide)) (hq9.mm hmm9) hM9 (hn9.mm hmm9) (oCome_t w (xs (7 * t + 1)) (xs (7 * t + 2)) (xs (7 * t + 3)) (xs (7 * t + 4)) (xs (7 * t + 5)) 0)
              · first | exact absurd ((lg_cmp_eq _ _).mpr (hz9 ho9)) c11 | exact absurd c11 ((lg_cmp_eq _ _).mpr (hz9 ho9))
          · skip
            refine g_if_ne X 780 (by decide) dL_law_765 (fun c12 => ?_) (fun c12 => ?_)
            · refine g_goto X 1347 (by decide) dL_law_780 ?_
              refine gG_L [2, 3, 4, 5, 6] (L' := [(0, .ref b), (1, .ref (B.2.1 0 0 0)), (2, .ref (B.2.1 20 0 0)), (3, .ref (B.2.1 28 0 0)), (4, .int (nI (7 * t)))]) rfl ?_
              refine g_widen (n.1 + 12, n.2 + 130) (by show n.1 + 2 ≤ n.1 + 12; omega) (by show n.2 + 16 ≤ n.2 + 130; omega) ?_
              exact kk _ _ z9 (hv.come (xs (7 * t + 1)) (xs (7 * t + 2)) (xs (7 * t + 3)) (xs (7 * t + 4)) (xs (7 * t + 5)) (by decide)) (hq9.mm hmm9) hM9 (hn9.mm hmm9) (oCome_t w (xs (7 * t + 1)) (xs (7 * t + 2)) (xs (7 * t + 3)) (xs (7 * t + 4)) (xs (7 * t + 5)) 0)
            · first | exact absurd (nI_ne0 (Nat.pos_of_ne_zero ho9) (by have := oCome_2 w (xs (7 * t + 1)) (xs (7 * t + 2)) (xs (7 * t + 3)) (xs (7 * t + 4)) (xs (7 * t + 5)) 0; omega)) c12 | exact absurd c12 (nI_ne0 (Nat.pos_of_ne_zero ho9) (by have := oCome_2 w (xs (7 * t + 1)) (xs (7 * t + 2)) (xs (7 * t + 3)) (xs (7 * t + 4)) (xs (7 * t + 5)) 0; omega))
        · first | exact absurd (rfl) c9 | exact absurd c9 (rfl)
      · first | exact absurd (h6) c2 | exact absurd c2 (h6)
    · first | exact absurd (h6) c1 | exact absurd c1 (h6)
  · refine g_aload_n X 1 rfl dL_law_649 ?_
    refine g_aload_n X 0 rfl dL_law_650 ?_
    refine g_iload X 4 rfl dL_law_651 ?_
    refine g_iconst X 1 (by decide) dL_law_653 ?_
    refine g_iadd X dL_law_654 ?_
    refine gG_top (nI ((7 * t) + 1)) (nI_1 _) ?_
    refine g_sld X SC ((7 * t) + 1) rfl (by omega) (by omega) dL_law_655 ?_
    refine g_aload_n X 0 rfl dL_law_656 ?_
    refine g_iload X 4 rfl dL_law_657 ?_
    refine g_iconst X 2 (by decide) dL_law_659 ?_
    refine g_iadd X dL_law_660 ?_
    refine gG_top (nI ((7 * t) + 2)) (nI_add (7 * t) 2) ?_
    refine g_sld X SC ((7 * t) + 2) rfl (by omega) (by omega) dL_law_661 ?_
    refine g_aload_n X 0 rfl dL_law_662 ?_
    refine g_iload X 4 rfl dL_law_663 ?_
    refine g_iconst X 3 (by decide) dL_law_665 ?_
    refine g_iadd X dL_law_666 ?_
    refine gG_top (nI ((7 * t) + 3)) (nI_add (7 * t) 3) ?_
    refine g_sld X SC ((7 * t) + 3) rfl (by omega) (by omega) dL_law_667 ?_
    refine g_aload_n X 0 rfl dL_law_668 ?_
    refine g_iload X 4 rfl dL_law_669 ?_
    refine g_iconst X 4 (by decide) dL_law_671 ?_
    refine g_iadd X dL_law_672 ?_
    refine gG_top (nI ((7 * t) + 4)) (nI_add (7 * t) 4) ?_
    refine g_sld X SC ((7 * t) + 4) rfl (by omega) (by omega) dL_law_673 ?_
    refine g_aload_n X 0 rfl dL_law_674 ?_
    refine g_iload X 4 rfl dL_law_675 ?_
    refine g_iconst X 5 (by decide) dL_law_677 ?_
    refine g_iadd X dL_law_678 ?_
    refine gG_top (nI ((7 * t) + 5)) (nI_add (7 * t) 5) ?_
    refine g_sld X SC ((7 * t) + 5) rfl (by omega) (by omega) dL_law_679 ?_
    refine g_aload_n X 0 rfl dL_law_680 ?_
    refine g_iload X 4 rfl dL_law_681 ?_
    refine g_bipush X 6 (by decide) dL_law_683 ?_
    refine g_iadd X dL_law_685 ?_
    refine gG_top (nI ((7 * t) + 6)) (nI_add (7 * t) 6) ?_
    refine g_sld X SC ((7 * t) + 6) rfl (by omega) (by omega) dL_law_686 ?_
    refine g_if_eq X 694 (by decide) dL_law_687 (fun c1 => ?_) (fun c1 => ?_)
    · first | exact absurd (h6) c1 | exact absurd c1 (h6)
    · refine g_iconst X 1 (by decide) dL_law_690 ?_
      refine g_goto X 695 (by decide) dL_law_691 ?_
      refine g_aload_n X 3 rfl dL_law_695 ?_
      show gG Z B n V 696 [(0, .ref b), (1, .ref (B.2.1 0 0 0)), (2, .ref (B.2.1 20 0 0)), (3, .ref (B.2.1 28 0 0)), (4, .int (nI (7 * t)))] (.ref (B.2.1 28 0 0) :: .int (nI 1) :: _)
      refine g_callH X T hR (k := 8) (As := [.ref (B.2.1 0 0 0), .int (xs ((7 * t) + 1)), .int (xs ((7 * t) + 2)), .int (xs ((7 * t) + 3)), .int (xs ((7 * t) + 4)), .int (xs ((7 * t) + 5)), .int (nI 1), .ref (B.2.1 28 0 0)]) (rest := []) qT_yL_come qC_yL_come qN_L (by decide +kernel) (by decide +kernel) qL_L_109 (h_come T.st hI V w (xs (7 * t + 1)) (xs (7 * t + 2)) (xs (7 * t + 3)) (xs (7 * t + 4)) (xs (7 * t + 5)) 1 hQ hv.1 hN (by decide) hv.2) rfl rfl (Nat.le_of_ble_eq_true rfl) ⟨Nat.le_of_ble_eq_true rfl, Nat.le_of_ble_eq_true rfl, by show n.1 + 1 ≤ 601024; omega, by show n.2 + 6 ≤ 7293034; omega⟩ dL_law_696 (fun v9 V9 z9 h9 => ?_)
      obtain ⟨e9, hz9, hq9, hn9, hc9⟩ := h9
      subst e9
      refine gG_st [.int (nI (oCome w (xs (7 * t + 1)) (xs (7 * t + 2)) (xs (7 * t + 3)) (xs (7 * t + 4)) (xs (7 * t + 5)) (nI 1)).1)] rfl ?_
      have X := gX_out (z := z9) X
      have hI := gX_I X
      have SC := gSC_out (z := z9) SC
      have hMa := hM.cm hc9
      refine gG_n (n.1 + 1, n.2 + 6) rfl ?_
      refine g_istore X dL_law_699 [(5, .int (nI (oCome w (xs (7 * t + 1)) (xs (7 * t + 2)) (xs (7 * t + 3)) (xs (7 * t + 4)) (xs (7 * t + 5)) (nI 1)).1)), (0, .ref b), (1, .ref (B.2.1 0 0 0)), (2, .ref (B.2.1 20 0 0)), (3, .ref (B.2.1 28 0 0)), (4, .int (nI (7 * t)))] rfl (gnl_lt hnL (by decide)) ?_
      refine g_aload_n X 3 rfl dL_law_701 ?_
      refine g_aload_n X 1 rfl dL_law_702 ?_
      refine g_iload X 5 rfl dL_law_703 ?_
      refine g_iconst X 1 (by decide) dL_law_705 ?_
      refine g_iadd X dL_law_706 ?_
      refine gG_top (nI ((7 * t) + 1)) (nI_1 _) ?_
      refine g_sld X SC ((7 * t) + 1) rfl (by omega) (by omega) dL_law_707 ?_
      refine g_aload_n X 1 rfl dL_law_708 ?_
      refine g_iload X 5 rfl dL_law_709 ?_
      refine g_iconst X 2 (by decide) dL_law_711 ?_
      refine g_iadd X dL_law_712 ?_
      refine gG_top (nI ((7 * t) + 2)) (nI_add (7 * t) 2) ?_
      refine g_sld X SC ((7 * t) + 2) rfl (by omega) (by omega) dL_law_713 ?_
      refine g_aload_n X 1 rfl dL_law_714 ?_
      refine g_iload X 5 rfl dL_law_715 ?_
      refine g_iconst X 3 (by decide) dL_law_717 ?_
      refine g_iadd X dL_law_718 ?_
      refine gG_top (nI ((7 * t) + 3)) (nI_add (7 * t) 3) ?_
      refine g_sld X SC ((7 * t) + 3) rfl (by omega) (by omega) dL_law_719 ?_
      refine g_aload_n X 1 rfl dL_law_720 ?_
      refine g_iload X 5 rfl dL_law_721 ?_
      refine g_iconst X 4 (by decide) dL_law_723 ?_
      refine g_iadd X dL_law_724 ?_
      refine gG_top (nI ((7 * t) + 4)) (nI_add (7 * t) 4) ?_
      refine g_sld X SC ((7 * t) + 4) rfl (by omega) (by omega) dL_law_725 ?_
      refine g_aload_n X 1 rfl dL_law_726 ?_
      refine g_iload X 5 rfl dL_law_727 ?_
      refine g_iconst X 5 (by decide) dL_law_729 ?_
      refine g_iadd X dL_law_730 ?_
      refine gG_top (nI ((7 * t) + 5)) (nI_add (7 * t) 5) ?_
      refine g_sld X SC ((7 * t) + 5) rfl (by omega) (by omega) dL_law_731 ?_
      refine g_aload_n X 1 rfl dL_law_732 ?_
      refine g_iload X 5 rfl dL_law_733 ?_
      refine g_bipush X 6 (by decide) dL_law_735 ?_
      refine g_iadd X dL_law_737 ?_
      refine gG_top (nI ((7 * t) + 6)) (nI_add (7 * t) 6) ?_
      refine g_sld X SC ((7 * t) + 6) rfl (by omega) (by omega) dL_law_738 ?_
      refine g_if_eq X 746 (by decide) dL_law_739 (fun c2 => ?_) (fun c2 => ?_)
      · first | exact absurd (h6) c2 | exact absurd c2 (h6)
      · refine g_iconst X 1 (by decide) dL_law_742 ?_
        refine g_goto X 747 (by decide) dL_law_743 ?_
        show gG Z (gOut B z9) _ V9 747 [(5, .int (nI (oCome w (xs (7 * t + 1)) (xs (7 * t + 2)) (xs (7 * t + 3)) (xs (7 * t + 4)) (xs (7 * t + 5)) (nI 1)).1)), (0, .ref b), (1, .ref (B.2.1 0 0 0)), (2, .ref (B.2.1 20 0 0)), (3, .ref (B.2.1 28 0 0)), (4, .int (nI (7 * t)))] (.int (nI 1) :: _)
        refine g_callV X hR (rest := []) mX8_come lL_112 (k_Mcome hI V9 w (xs (7 * t + 1)) (xs (7 * t + 2)) (xs (7 * t + 3)) (xs (7 * t + 4)) (xs (7 * t + 5)) 1 hMa hv.1 (by decide) h0) rfl rfl (Nat.le_of_ble_eq_true rfl) ⟨by decide, by decide⟩ rfl rfl rfl ⟨Nat.le_of_ble_eq_true rfl, Nat.le_of_ble_eq_true rfl, by show n.1 + 1 + 1 ≤ 601024; omega, by show n.2 + 6 + 10 ≤ 7293034; omega⟩ dL_law_747 (fun r3 V4 hz_5 => ?_)
        refine gG_rv hz_5.1 ?_
        obtain ⟨-, hth9, hM9, hmm9⟩ := hz_5
        refine gG_st [.int ((oCome w (xs (7 * t + 1)) (xs (7 * t + 2)) (xs (7 * t + 3)) (xs (7 * t + 4)) (xs (7 * t + 5)) (nI 1)).2.1)] rfl ?_
        refine gG_n (n.1 + 2, n.2 + 16) rfl ?_
        refine gG_n (n.1 + 2, n.2 + 16) rfl ?_
        refine g_istore X dL_law_750 [(6, .int ((oCome w (xs (7 * t + 1)) (xs (7 * t + 2)) (xs (7 * t + 3)) (xs (7 * t + 4)) (xs (7 * t + 5)) (nI 1)).2.1)), (5, .int (nI (oCome w (xs (7 * t + 1)) (xs (7 * t + 2)) (xs (7 * t + 3)) (xs (7 * t + 4)) (xs (7 * t + 5)) (nI 1)).1)), (0, .ref b), (1, .ref (B.2.1 0 0 0)), (2, .ref (B.2.1 20 0 0)), (3, .ref (B.2.1 28 0 0)), (4, .int (nI (7 * t)))] rfl (gnl_lt hnL (by decide)) ?_
        refine g_aload_n X 4 rfl dL_law_752 ?_
        refine g_callV X hR (rest := []) mX8_thrown lL_79 (k_thrown hI V4 ) rfl rfl (Nat.le_of_ble_eq_true rfl) ⟨by decide, by decide⟩ rfl rfl rfl ⟨Nat.le_of_ble_eq_true rfl, Nat.le_of_ble_eq_true rfl, by show n.1 + 2 + 0 ≤ 601024; omega, by show n.2 + 16 + 0 ≤ 7293034; omega⟩ dL_law_753 (fun r6 V7 hz_8 => ?_)
        refine gG_ret hz_8.1 hz_8.2 ?_
        refine gG_st [.int (V4 20 0 0 0)] rfl ?_
        refine gG_n (n.1 + 2, n.2 + 16) rfl ?_
        refine gG_top (nI (oCome w (xs (7 * t + 1)) (xs (7 * t + 2)) (xs (7 * t + 3)) (xs (7 * t + 4)) (xs (7 * t + 5)) (nI 1)).1) (hth9) ?_
        refine g_iload X 1 rfl dL_law_756 ?_
        refine g_icmp_eq X 763 (by decide) dL_law_758 (fun c9 => ?_) (fun c9 => ?_)
        · refine g_iload X 1 rfl dL_law_763 ?_
          by_cases ho9 : (oCome w (xs (7 * t + 1)) (xs (7 * t + 2)) (xs (7 * t + 3)) (xs (7 * t + 4)) (xs (7 * t + 5)) (nI 1)).1 = 0
          · skip
            refine g_if_ne X 780 (by decide) dL_law_765 (fun c10 => ?_) (fun c10 => ?_)
            · first | exact absurd (fun z => z (by rw [ho9]; rfl)) c10 | exact absurd c10 (fun z => z (by rw [ho9]; rfl))
            · refine g_aload_n X 5 rfl dL_law_768 ?_
              refine g_iconst X 0 (by decide) dL_law_769 ?_
              refine g_laldO X rfl dL_law_770 ?_
              refine gG_st [.long z9] rfl ?_
              refine g_iload X 0 rfl dL_law_771 ?_
              refine g_i2l X dL_law_773 ?_
              refine g_lcmp X dL_law_774 ?_
              refine g_if_eq X 780 (by decide) dL_law_775 (fun c11 => ?_) (fun c11 => ?_)
              · refine g_goto X 1347 (by decide) dL_law_780 ?_
                refine gG_L [2, 3, 4, 5, 6] (L' := [(0, .ref b), (1, .ref (B.2.1 0 0 0)), (2, .ref (B.2.1 20 0 0)), (3, .ref (B.2.1 28 0 0)), (4, .int (nI (7 * t)))]) rfl ?_
                refine g_widen (n.1 + 12, n.2 + 130) (by show n.1 + 2 ≤ n.1 + 12; omega) (by show n.2 + 16 ≤ n.2 + 130; omega) ?_
                exact kk _ _ z9 (hv.come (xs (7 * t + 1)) (xs (7 * t + 2)) (xs (7 * t + 3)) (xs (7 * t + 4)) (xs (7 * t + 5)) (by decide)) (hq9.mm hmm9) hM9 (hn9.mm hmm9) (oCome_t w (xs (7 * t + 1)) (xs (7 * t + 2)) (xs (7 * t + 3)) (xs (7 * t + 4)) (xs (7 * t + 5)) 1)
              · first | exact absurd ((lg_cmp_eq _ _).mpr (hz9 ho9)) c11 | exact absurd c11 ((lg_cmp_eq _ _).mpr (hz9 ho9))
          · skip
            refine g_if_ne X 780 (by decide) dL_law_765 (fun c12 => ?_) (fun c12 => ?_)
            · refine g_goto X 1347 (by decide) dL_law_780 ?_
              refine gG_L [2, 3, 4, 5, 6] (L' := [(0, .ref b), (1, .ref (B.2.1 0 0 0)), (2, .ref (B.2.1 20 0 0)), (3, .ref (B.2.1 28 0 0)), (4, .int (nI (7 * t)))]) rfl ?_
              refine g_widen (n.1 + 12, n.2 + 130) (by show n.1 + 2 ≤ n.1 + 12; omega) (by show n.2 + 16 ≤ n.2 + 130; omega) ?_
              exact kk _ _ z9 (hv.come (xs (7 * t + 1)) (xs (7 * t + 2)) (xs (7 * t + 3)) (xs (7 * t + 4)) (xs (7 * t + 5)) (by decide)) (hq9.mm hmm9) hM9 (hn9.mm hmm9) (oCome_t w (xs (7 * t + 1)) (xs (7 * t + 2)) (xs (7 * t + 3)) (xs (7 * t + 4)) (xs (7 * t + 5)) 1)
            · first | exact absurd (nI_ne0 (Nat.pos_of_ne_zero ho9) (by have := oCome_2 w (xs (7 * t + 1)) (xs (7 * t + 2)) (xs (7 * t + 3)) (xs (7 * t + 4)) (xs (7 * t + 5)) 1; omega)) c12 | exact absurd c12 (nI_ne0 (Nat.pos_of_ne_zero ho9) (by have := oCome_2 w (xs (7 * t + 1)) (xs (7 * t + 2)) (xs (7 * t + 3)) (xs (7 * t + 4)) (xs (7 * t + 5)) 1; omega))
        · first | exact absurd (rfl) c9 | exact absurd c9 (rfl)

set_option maxRecDepth 20000 in
theorem law_cart {Z : gZ} {B : gB} {b L : Nat} {xs : Nat → Int32} (X : gX Z B cL_law RL) (T : gTL Z B) (hR : gRm Z = room_1) (hnL : gnL Z = 9) (SC : gSC Z B b L xs) (h0 : B.2.2.2.2 = 0) {t : Nat} (ht : 7 * t + 7 ≤ L) (hL : L ≤ 3584) {n : Nat × Nat} (hn1 : n.1 + 12 ≤ 601024) (hn2 : n.2 + 130 ≤ 7293034) {V : gMem} {w : gWd} (hv : vOk w) (hQ : COk V w) (hM : MOk V w) (hN : N15 V) (ht20 : w.1.1 0 < 2 ^ 20) (kk : lawK Z B n b t w) : gG Z B n V 783 [(0, .ref b), (1, .ref (B.2.1 0 0 0)), (2, .ref (B.2.1 20 0 0)), (3, .ref (B.2.1 28 0 0)), (4, .int (nI (7 * t)))] [] := by
  have hI := gX_I X
  refine g_aload_n X 1 rfl dL_law_783 ?_
  refine g_aload_n X 0 rfl dL_law_784 ?_
  refine g_iload X 4 rfl dL_law_785 ?_
  refine g_iconst X 1 (by decide) dL_law_787 ?_
  refine g_iadd X dL_law_788 ?_
  refine gG_top (nI ((7 * t) + 1)) (nI_1 _) ?_
  refine g_sld X SC ((7 * t) + 1) rfl (by omega) (by omega) dL_law_789 ?_
  refine g_aload_n X 0 rfl dL_law_790 ?_
  refine g_iload X 4 rfl dL_law_791 ?_
  refine g_iconst X 2 (by decide) dL_law_793 ?_
  refine g_iadd X dL_law_794 ?_
  refine gG_top (nI ((7 * t) + 2)) (nI_add (7 * t) 2) ?_
  refine g_sld X SC ((7 * t) + 2) rfl (by omega) (by omega) dL_law_795 ?_
  refine g_aload_n X 3 rfl dL_law_796 ?_
  refine g_callH X T hR (k := 4) (As := [.ref (B.2.1 0 0 0), .int (xs ((7 * t) + 1)), .int (xs ((7 * t) + 2)), .ref (B.2.1 28 0 0)]) (rest := []) qT_yL_cart qC_yL_cart qN_L (by decide +kernel) (by decide +kernel) qL_L_113 (h_cart T.st hI V w (xs (7 * t + 1)) (xs (7 * t + 2)) hQ hv.1 hN) rfl rfl (Nat.le_of_ble_eq_true rfl) ⟨Nat.le_of_ble_eq_true rfl, Nat.le_of_ble_eq_true rfl, by show n.1 + 1 ≤ 601024; omega, by show n.2 + 6 ≤ 7293034; omega⟩ dL_law_797 (fun v9 V9 z9 h9 => ?_)
  obtain ⟨e9, hz9, hq9, hn9, hc9⟩ := h9
  subst e9
  refine gG_st [.int (nI (oCart w (xs (7 * t + 1)) (xs (7 * t + 2))).1)] rfl ?_
  have X := gX_out (z := z9) X
  have hI := gX_I X
  have SC := gSC_out (z := z9) SC
  have hMa := hM.cm hc9
  refine gG_n (n.1 + 1, n.2 + 6) rfl ?_
  refine g_istore X dL_law_800 [(5, .int (nI (oCart w (xs (7 * t + 1)) (xs (7 * t + 2))).1)), (0, .ref b), (1, .ref (B.2.1 0 0 0)), (2, .ref (B.2.1 20 0 0)), (3, .ref (B.2.1 28 0 0)), (4, .int (nI (7 * t)))] rfl (gnl_lt hnL (by decide)) ?_
  refine g_aload_n X 3 rfl dL_law_802 ?_
  refine g_aload_n X 1 rfl dL_law_803 ?_
  refine g_iload X 5 rfl dL_law_804 ?_
  refine g_iconst X 1 (by decide) dL_law_806 ?_
  refine g_iadd X dL_law_807 ?_
  refine gG_top (nI ((7 * t) + 1)) (nI_1 _) ?_
  refine g_sld X SC ((7 * t) + 1) rfl (by omega) (by omega) dL_law_808 ?_
  refine g_aload_n X 1 rfl dL_law_809 ?_
  refine g_iload X 5 rfl dL_law_810 ?_
  refine g_iconst X 2 (by decide) dL_law_812 ?_
  refine g_iadd X dL_law_813 ?_
  refine gG_top (nI ((7 * t) + 2)) (nI_add (7 * t) 2) ?_
  refine g_sld X SC ((7 * t) + 2) rfl (by omega) (by omega) dL_law_814 ?_
  refine g_callV X hR (rest := []) mX8_cart lL_115 (k_Mcart hI V9 w (xs (7 * t + 1)) (xs (7 * t + 2)) hMa hv.1) rfl rfl (Nat.le_of_ble_eq_true rfl) ⟨by decide, by decide⟩ rfl rfl rfl ⟨Nat.le_of_ble_eq_true rfl, Nat.le_of_ble_eq_true rfl, by show n.1 + 1 + 0 ≤ 601024; omega, by show n.2 + 6 + 0 ≤ 7293034; omega⟩ dL_law_815 (fun r1 V2 hz_3 => ?_)
  refine gG_rv hz_3.1 ?_
  obtain ⟨-, hth9, hM9, hmm9⟩ := hz_3
  refine gG_st [.int ((oCart w (xs (7 * t + 1)) (xs (7 * t + 2))).2.1)] rfl ?_
  refine gG_n (n.1 + 1, n.2 + 6) rfl ?_
  refine g_istore X dL_law_818 [(6, .int ((oCart w (xs (7 * t + 1)) (xs (7 * t + 2))).2.1)), (5, .int (nI (oCart w (xs (7 * t + 1)) (xs (7 * t + 2))).1)), (0, .ref b), (1, .ref (B.2.1 0 0 0)), (2, .ref (B.2.1 20 0 0)), (3, .ref (B.2.1 28 0 0)), (4, .int (nI (7 * t)))] rfl (gnl_lt hnL (by decide)) ?_
  refine g_aload_n X 4 rfl dL_law_820 ?_
  refine g_callV X hR (rest := []) mX8_thrown lL_79 (k_thrown hI V2 ) rfl rfl (Nat.le_of_ble_eq_true rfl) ⟨by decide, by decide⟩ rfl rfl rfl ⟨Nat.le_of_ble_eq_true rfl, Nat.le_of_ble_eq_true rfl, by show n.1 + 1 + 0 ≤ 601024; omega, by show n.2 + 6 + 0 ≤ 7293034; omega⟩ dL_law_821 (fun r4 V5 hz_6 => ?_)
  refine gG_ret hz_6.1 hz_6.2 ?_
  refine gG_st [.int (V2 20 0 0 0)] rfl ?_
  refine gG_n (n.1 + 1, n.2 + 6) rfl ?_
  refine gG_top (nI (oCart w (xs (7 * t + 1)) (xs (7 * t + 2))).1) (hth9) ?_
  refine g_iload X 1 rfl dL_law_824 ?_
  refine g_icmp_eq X 831 (by decide) dL_law_826 (fun c7 => ?_) (fun c7 => ?_)
  · refine g_iload X 1 rfl dL_law_831 ?_
    by_cases ho9 : (oCart w (xs (7 * t + 1)) (xs (7 * t + 2))).1 = 0
    · skip
      refine g_if_ne X 848 (by decide) dL_law_833 (fun c8 => ?_) (fun c8 => ?_)
      · first | exact absurd (fun z => z (by rw [ho9]; rfl)) c8 | exact absurd c8 (fun z => z (by rw [ho9]; rfl))
      · refine g_aload_n X 5 rfl dL_law_836 ?_
        refine g_iconst X 0 (by decide) dL_law_837 ?_
        refine g_laldO X rfl dL_law_838 ?_
        refine gG_st [.long z9] rfl ?_
        refine g_iload X 0 rfl dL_law_839 ?_
        refine g_i2l X dL_law_841 ?_
        refine g_lcmp X dL_law_842 ?_
        refine g_if_eq X 848 (by decide) dL_law_843 (fun c9 => ?_) (fun c9 => ?_)
        · refine g_goto X 1347 (by decide) dL_law_848 ?_
          refine gG_L [2, 3, 4, 5, 6] (L' := [(0, .ref b), (1, .ref (B.2.1 0 0 0)), (2, .ref (B.2.1 20 0 0)), (3, .ref (B.2.1 28 0 0)), (4, .int (nI (7 * t)))]) rfl ?_
          refine g_widen (n.1 + 12, n.2 + 130) (by show n.1 + 1 ≤ n.1 + 12; omega) (by show n.2 + 6 ≤ n.2 + 130; omega) ?_
          exact kk _ _ z9 (hv.cart (xs (7 * t + 1)) (xs (7 * t + 2))) (hq9.mm hmm9) hM9 (hn9.mm hmm9) (oCart_t w (xs (7 * t + 1)) (xs (7 * t + 2)))
        · first | exact absurd ((lg_cmp_eq _ _).mpr (hz9 ho9)) c9 | exact absurd c9 ((lg_cmp_eq _ _).mpr (hz9 ho9))
    · skip
      refine g_if_ne X 848 (by decide) dL_law_833 (fun c10 => ?_) (fun c10 => ?_)
      · refine g_goto X 1347 (by decide) dL_law_848 ?_
        refine gG_L [2, 3, 4, 5, 6] (L' := [(0, .ref b), (1, .ref (B.2.1 0 0 0)), (2, .ref (B.2.1 20 0 0)), (3, .ref (B.2.1 28 0 0)), (4, .int (nI (7 * t)))]) rfl ?_
        refine g_widen (n.1 + 12, n.2 + 130) (by show n.1 + 1 ≤ n.1 + 12; omega) (by show n.2 + 6 ≤ n.2 + 130; omega) ?_
        exact kk _ _ z9 (hv.cart (xs (7 * t + 1)) (xs (7 * t + 2))) (hq9.mm hmm9) hM9 (hn9.mm hmm9) (oCart_t w (xs (7 * t + 1)) (xs (7 * t + 2)))
      · first | exact absurd (nI_ne0 (Nat.pos_of_ne_zero ho9) (by have := oCart_2 w (xs (7 * t + 1)) (xs (7 * t + 2)); omega)) c10 | exact absurd c10 (nI_ne0 (Nat.pos_of_ne_zero ho9) (by have := oCart_2 w (xs (7 * t + 1)) (xs (7 * t + 2)); omega))
  · first | exact absurd (rfl) c7 | exact absurd c7 (rfl)

set_option maxRecDepth 20000 in
theorem law_queue {Z : gZ} {B : gB} {b L : Nat} {xs : Nat → Int32} (X : gX Z B cL_law RL) (T : gTL Z B) (hR : gRm Z = room_1) (hnL : gnL Z = 9) (SC : gSC Z B b L xs) (h0 : B.2.2.2.2 = 0) {t : Nat} (ht : 7 * t + 7 ≤ L) (hL : L ≤ 3584) {n : Nat × Nat} (hn1 : n.1 + 12 ≤ 601024) (hn2 : n.2 + 130 ≤ 7293034) {V : gMem} {w : gWd} (hv : vOk w) (hQ : COk V w) (hM : MOk V w) (hN : N15 V) (ht20 : w.1.1 0 < 2 ^ 20) (kk : lawK Z B n b t w) : gG Z B n V 851 [(0, .ref b), (1, .ref (B.2.1 0 0 0)), (2, .ref (B.2.1 20 0 0)), (3, .ref (B.2.1 28 0 0)), (4, .int (nI (7 * t)))] [] := by
  have hI := gX_I X
  refine g_aload_n X 1 rfl dL_law_851 ?_
  refine g_aload_n X 0 rfl dL_law_852 ?_
  refine g_iload X 4 rfl dL_law_853 ?_
  refine g_iconst X 1 (by decide) dL_law_855 ?_
  refine g_iadd X dL_law_856 ?_
  refine gG_top (nI ((7 * t) + 1)) (nI_1 _) ?_
  refine g_sld X SC ((7 * t) + 1) rfl (by omega) (by omega) dL_law_857 ?_
  refine g_aload_n X 0 rfl dL_law_858 ?_
  refine g_iload X 4 rfl dL_law_859 ?_
  refine g_iconst X 2 (by decide) dL_law_861 ?_
  refine g_iadd X dL_law_862 ?_
  refine gG_top (nI ((7 * t) + 2)) (nI_add (7 * t) 2) ?_
  refine g_sld X SC ((7 * t) + 2) rfl (by omega) (by omega) dL_law_863 ?_
  refine g_aload_n X 3 rfl dL_law_864 ?_
  refine g_callH X T hR (k := 4) (As := [.ref (B.2.1 0 0 0), .int (xs ((7 * t) + 1)), .int (xs ((7 * t) + 2)), .ref (B.2.1 28 0 0)]) (rest := []) qT_yL_queue qC_yL_queue qN_L (by decide +kernel) (by decide +kernel) qL_L_116 (h_queue T.st hI V w (xs (7 * t + 1)) (xs (7 * t + 2)) hQ hv.1 hN) rfl rfl (Nat.le_of_ble_eq_true rfl) ⟨Nat.le_of_ble_eq_true rfl, Nat.le_of_ble_eq_true rfl, by show n.1 + 1 ≤ 601024; omega, by show n.2 + 6 ≤ 7293034; omega⟩ dL_law_865 (fun v9 V9 z9 h9 => ?_)
  obtain ⟨e9, hz9, hq9, hn9, hc9⟩ := h9
  subst e9
  refine gG_st [.int (nI (oQueue w (xs (7 * t + 1)) (xs (7 * t + 2))).1)] rfl ?_
  have X := gX_out (z := z9) X
  have hI := gX_I X
  have SC := gSC_out (z := z9) SC
  have hMa := hM.cm hc9
  refine gG_n (n.1 + 1, n.2 + 6) rfl ?_
  refine g_istore X dL_law_868 [(5, .int (nI (oQueue w (xs (7 * t + 1)) (xs (7 * t + 2))).1)), (0, .ref b), (1, .ref (B.2.1 0 0 0)), (2, .ref (B.2.1 20 0 0)), (3, .ref (B.2.1 28 0 0)), (4, .int (nI (7 * t)))] rfl (gnl_lt hnL (by decide)) ?_
  refine g_aload_n X 3 rfl dL_law_870 ?_
  refine g_aload_n X 1 rfl dL_law_871 ?_
  refine g_iload X 5 rfl dL_law_872 ?_
  refine g_iconst X 1 (by decide) dL_law_874 ?_
  refine g_iadd X dL_law_875 ?_
  refine gG_top (nI ((7 * t) + 1)) (nI_1 _) ?_
  refine g_sld X SC ((7 * t) + 1) rfl (by omega) (by omega) dL_law_876 ?_
  refine g_aload_n X 1 rfl dL_law_877 ?_
  refine g_iload X 5 rfl dL_law_878 ?_
  refine g_iconst X 2 (by decide) dL_law_880 ?_
  refine g_iadd X dL_law_881 ?_
  refine gG_top (nI ((7 * t) + 2)) (nI_add (7 * t) 2) ?_
  refine g_sld X SC ((7 * t) + 2) rfl (by omega) (by omega) dL_law_882 ?_
  refine g_callV X hR (rest := []) mX8_queue lL_118 (k_Mqueue hI V9 w (xs (7 * t + 1)) (xs (7 * t + 2)) hMa hv.1) rfl rfl (Nat.le_of_ble_eq_true rfl) ⟨by decide, by decide⟩ rfl rfl rfl ⟨Nat.le_of_ble_eq_true rfl, Nat.le_of_ble_eq_true rfl, by show n.1 + 1 + 0 ≤ 601024; omega, by show n.2 + 6 + 0 ≤ 7293034; omega⟩ dL_law_883 (fun r1 V2 hz_3 => ?_)
  refine gG_rv hz_3.1 ?_
  obtain ⟨-, hth9, hM9, hmm9⟩ := hz_3
  refine gG_st [.int ((oQueue w (xs (7 * t + 1)) (xs (7 * t + 2))).2.1)] rfl ?_
  refine gG_n (n.1 + 1, n.2 + 6) rfl ?_
  refine g_istore X dL_law_886 [(6, .int ((oQueue w (xs (7 * t + 1)) (xs (7 * t + 2))).2.1)), (5, .int (nI (oQueue w (xs (7 * t + 1)) (xs (7 * t + 2))).1)), (0, .ref b), (1, .ref (B.2.1 0 0 0)), (2, .ref (B.2.1 20 0 0)), (3, .ref (B.2.1 28 0 0)), (4, .int (nI (7 * t)))] rfl (gnl_lt hnL (by decide)) ?_
  refine g_aload_n X 4 rfl dL_law_888 ?_
  refine g_callV X hR (rest := []) mX8_thrown lL_79 (k_thrown hI V2 ) rfl rfl (Nat.le_of_ble_eq_true rfl) ⟨by decide, by decide⟩ rfl rfl rfl ⟨Nat.le_of_ble_eq_true rfl, Nat.le_of_ble_eq_true rfl, by show n.1 + 1 + 0 ≤ 601024; omega, by show n.2 + 6 + 0 ≤ 7293034; omega⟩ dL_law_889 (fun r4 V5 hz_6 => ?_)
  refine gG_ret hz_6.1 hz_6.2 ?_
  refine gG_st [.int (V2 20 0 0 0)] rfl ?_
  refine gG_n (n.1 + 1, n.2 + 6) rfl ?_
  refine gG_top (nI (oQueue w (xs (7 * t + 1)) (xs (7 * t + 2))).1) (hth9) ?_
  refine g_iload X 1 rfl dL_law_892 ?_
  refine g_icmp_eq X 899 (by decide) dL_law_894 (fun c7 => ?_) (fun c7 => ?_)
  · refine g_iload X 1 rfl dL_law_899 ?_
    by_cases ho9 : (oQueue w (xs (7 * t + 1)) (xs (7 * t + 2))).1 = 0
    · skip
      refine g_if_ne X 916 (by decide) dL_law_901 (fun c8 => ?_) (fun c8 => ?_)
      · first | exact absurd (fun z => z (by rw [ho9]; rfl)) c8 | exact absurd c8 (fun z => z (by rw [ho9]; rfl))
      · refine g_aload_n X 5 rfl dL_law_904 ?_
        refine g_iconst X 0 (by decide) dL_law_905 ?_
        refine g_laldO X rfl dL_law_906 ?_
        refine gG_st [.long z9] rfl ?_
        refine g_iload X 0 rfl dL_law_907 ?_
        refine g_i2l X dL_law_909 ?_
        refine g_lcmp X dL_law_910 ?_
        refine g_if_eq X 916 (by decide) dL_law_911 (fun c9 => ?_) (fun c9 => ?_)
        · refine g_goto X 1347 (by decide) dL_law_916 ?_
          refine gG_L [2, 3, 4, 5, 6] (L' := [(0, .ref b), (1, .ref (B.2.1 0 0 0)), (2, .ref (B.2.1 20 0 0)), (3, .ref (B.2.1 28 0 0)), (4, .int (nI (7 * t)))]) rfl ?_
          refine g_widen (n.1 + 12, n.2 + 130) (by show n.1 + 1 ≤ n.1 + 12; omega) (by show n.2 + 6 ≤ n.2 + 130; omega) ?_
          exact kk _ _ z9 (hv.queue (xs (7 * t + 1)) (xs (7 * t + 2))) (hq9.mm hmm9) hM9 (hn9.mm hmm9) (oQueue_t w (xs (7 * t + 1)) (xs (7 * t + 2)))
        · first | exact absurd ((lg_cmp_eq _ _).mpr (hz9 ho9)) c9 | exact absurd c9 ((lg_cmp_eq _ _).mpr (hz9 ho9))
    · skip
      refine g_if_ne X 916 (by decide) dL_law_901 (fun c10 => ?_) (fun c10 => ?_)
      · refine g_goto X 1347 (by decide) dL_law_916 ?_
        refine gG_L [2, 3, 4, 5, 6] (L' := [(0, .ref b), (1, .ref (B.2.1 0 0 0)), (2, .ref (B.2.1 20 0 0)), (3, .ref (B.2.1 28 0 0)), (4, .int (nI (7 * t)))]) rfl ?_
        refine g_widen (n.1 + 12, n.2 + 130) (by show n.1 + 1 ≤ n.1 + 12; omega) (by show n.2 + 6 ≤ n.2 + 130; omega) ?_
        exact kk _ _ z9 (hv.queue (xs (7 * t + 1)) (xs (7 * t + 2))) (hq9.mm hmm9) hM9 (hn9.mm hmm9) (oQueue_t w (xs (7 * t + 1)) (xs (7 * t + 2)))
      · first | exact absurd (nI_ne0 (Nat.pos_of_ne_zero ho9) (by have := oQueue_2 w (xs (7 * t + 1)) (xs (7 * t + 2)); omega)) c10 | exact absurd c10 (nI_ne0 (Nat.pos_of_ne_zero ho9) (by have := oQueue_2 w (xs (7 * t + 1)) (xs (7 * t + 2)); omega))
  · first | exact absurd (rfl) c7 | exact absurd c7 (rfl)

set_option maxRecDepth 20000 in
theorem law_box {Z : gZ} {B : gB} {b L : Nat} {xs : Nat → Int32} (X : gX Z B cL_law RL) (T : gTL Z B) (hR : gRm Z = room_1) (hnL : gnL Z = 9) (SC : gSC Z B b L xs) (h0 : B.2.2.2.2 = 0) {t : Nat} (ht : 7 * t + 7 ≤ L) (hL : L ≤ 3584) {n : Nat × Nat} (hn1 : n.1 + 12 ≤ 601024) (hn2 : n.2 + 130 ≤ 7293034) {V : gMem} {w : gWd} (hv : vOk w) (hQ : COk V w) (hM : MOk V w) (hN : N15 V) (ht20 : w.1.1 0 < 2 ^ 20) (kk : lawK Z B n b t w) : gG Z B n V 919 [(0, .ref b), (1, .ref (B.2.1 0 0 0)), (2, .ref (B.2.1 20 0 0)), (3, .ref (B.2.1 28 0 0)), (4, .int (nI (7 * t)))] [] := by
  have hI := gX_I X
  refine g_aload_n X 1 rfl dL_law_919 ?_
  refine g_aload_n X 0 rfl dL_law_920 ?_
  refine g_iload X 4 rfl dL_law_921 ?_
  refine g_iconst X 1 (by decide) dL_law_923 ?_
  refine g_iadd X dL_law_924 ?_
  refine gG_top (nI ((7 * t) + 1)) (nI_1 _) ?_
  refine g_sld X SC ((7 * t) + 1) rfl (by omega) (by omega) dL_law_925 ?_
  refine g_aload_n X 0 rfl dL_law_926 ?_
  refine g_iload X 4 rfl dL_law_927 ?_
  refine g_iconst X 2 (by decide) dL_law_929 ?_
  refine g_iadd X dL_law_930 ?_
  refine gG_top (nI ((7 * t) + 2)) (nI_add (7 * t) 2) ?_
  refine g_sld X SC ((7 * t) + 2) rfl (by omega) (by omega) dL_law_931 ?_
  refine g_aload_n X 3 rfl dL_law_932 ?_
  refine g_callH X T hR (k := 4) (As := [.ref (B.2.1 0 0 0), .int (xs ((7 * t) + 1)), .int (xs ((7 * t) + 2)), .ref (B.2.1 28 0 0)]) (rest := []) qT_yL_box qC_yL_box qN_L (by decide +kernel) (by decide +kernel) qL_L_119 (h_box T.st hI V w (xs (7 * t + 1)) (xs (7 * t + 2)) hQ hv.1 hN) rfl rfl (Nat.le_of_ble_eq_true rfl) ⟨Nat.le_of_ble_eq_true rfl, Nat.le_of_ble_eq_true rfl, by show n.1 + 1 ≤ 601024; omega, by show n.2 + 6 ≤ 7293034; omega⟩ dL_law_933 (fun v9 V9 z9 h9 => ?_)
  obtain ⟨e9, hz9, hq9, hn9, hc9⟩ := h9
  subst e9
  refine gG_st [.int (nI (oBox w (xs (7 * t + 1)) (xs (7 * t + 2))).1)] rfl ?_
  have X := gX_out (z := z9) X
  have hI := gX_I X
  have SC := gSC_out (z := z9) SC
  have hMa := hM.cm hc9
  refine gG_n (n.1 + 1, n.2 + 6) rfl ?_
  refine g_istore X dL_law_936 [(5, .int (nI (oBox w (xs (7 * t + 1)) (xs (7 * t + 2))).1)), (0, .ref b), (1, .ref (B.2.1 0 0 0)), (2, .ref (B.2.1 20 0 0)), (3, .ref (B.2.1 28 0 0)), (4, .int (nI (7 * t)))] rfl (gnl_lt hnL (by decide)) ?_
  refine g_aload_n X 3 rfl dL_law_938 ?_
  refine g_aload_n X 1 rfl dL_law_939 ?_
  refine g_iload X 5 rfl dL_law_940 ?_
  refine g_iconst X 1 (by decide) dL_law_942 ?_
  refine g_iadd X dL_law_943 ?_
  refine gG_top (nI ((7 * t) + 1)) (nI_1 _) ?_
  refine g_sld X SC ((7 * t) + 1) rfl (by omega) (by omega) dL_law_944 ?_
  refine g_aload_n X 1 rfl dL_law_945 ?_
  refine g_iload X 5 rfl dL_law_946 ?_
  refine g_iconst X 2 (by decide) dL_law_948 ?_
  refine g_iadd X dL_law_949 ?_
  refine gG_top (nI ((7 * t) + 2)) (nI_add (7 * t) 2) ?_
  refine g_sld X SC ((7 * t) + 2) rfl (by omega) (by omega) dL_law_950 ?_
  refine g_callV X hR (rest := []) mX8_box lL_121 (k_Mbox hI V9 w (xs (7 * t + 1)) (xs (7 * t + 2)) hMa hv.1) rfl rfl (Nat.le_of_ble_eq_true rfl) ⟨by decide, by decide⟩ rfl rfl rfl ⟨Nat.le_of_ble_eq_true rfl, Nat.le_of_ble_eq_true rfl, by show n.1 + 1 + 0 ≤ 601024; omega, by show n.2 + 6 + 0 ≤ 7293034; omega⟩ dL_law_951 (fun r1 V2 hz_3 => ?_)
  refine gG_rv hz_3.1 ?_
  obtain ⟨-, hth9, hM9, hmm9⟩ := hz_3
  refine gG_st [.int ((oBox w (xs (7 * t + 1)) (xs (7 * t + 2))).2.1)] rfl ?_
  refine gG_n (n.1 + 1, n.2 + 6) rfl ?_
  refine g_istore X dL_law_954 [(6, .int ((oBox w (xs (7 * t + 1)) (xs (7 * t + 2))).2.1)), (5, .int (nI (oBox w (xs (7 * t + 1)) (xs (7 * t + 2))).1)), (0, .ref b), (1, .ref (B.2.1 0 0 0)), (2, .ref (B.2.1 20 0 0)), (3, .ref (B.2.1 28 0 0)), (4, .int (nI (7 * t)))] rfl (gnl_lt hnL (by decide)) ?_
  refine g_aload_n X 4 rfl dL_law_956 ?_
  refine g_callV X hR (rest := []) mX8_thrown lL_79 (k_thrown hI V2 ) rfl rfl (Nat.le_of_ble_eq_true rfl) ⟨by decide, by decide⟩ rfl rfl rfl ⟨Nat.le_of_ble_eq_true rfl, Nat.le_of_ble_eq_true rfl, by show n.1 + 1 + 0 ≤ 601024; omega, by show n.2 + 6 + 0 ≤ 7293034; omega⟩ dL_law_957 (fun r4 V5 hz_6 => ?_)
  refine gG_ret hz_6.1 hz_6.2 ?_
  refine gG_st [.int (V2 20 0 0 0)] rfl ?_
  refine gG_n (n.1 + 1, n.2 + 6) rfl ?_
  refine gG_top (nI (oBox w (xs (7 * t + 1)) (xs (7 * t + 2))).1) (hth9) ?_
  refine g_iload X 1 rfl dL_law_960 ?_
  refine g_icmp_eq X 967 (by decide) dL_law_962 (fun c7 => ?_) (fun c7 => ?_)
  · refine g_iload X 1 rfl dL_law_967 ?_
    by_cases ho9 : (oBox w (xs (7 * t + 1)) (xs (7 * t + 2))).1 = 0
    · skip
      refine g_if_ne X 984 (by decide) dL_law_969 (fun c8 => ?_) (fun c8 => ?_)
      · first | exact absurd (fun z => z (by rw [ho9]; rfl)) c8 | exact absurd c8 (fun z => z (by rw [ho9]; rfl))
      · refine g_aload_n X 5 rfl dL_law_972 ?_
        refine g_iconst X 0 (by decide) dL_law_973 ?_
        refine g_laldO X rfl dL_law_974 ?_
        refine gG_st [.long z9] rfl ?_
        refine g_iload X 0 rfl dL_law_975 ?_
        refine g_i2l X dL_law_977 ?_
        refine g_lcmp X dL_law_978 ?_
        refine g_if_eq X 984 (by decide) dL_law_979 (fun c9 => ?_) (fun c9 => ?_)
        · refine g_goto X 1347 (by decide) dL_law_984 ?_
          refine gG_L [2, 3, 4, 5, 6] (L' := [(0, .ref b), (1, .ref (B.2.1 0 0 0)), (2, .ref (B.2.1 20 0 0)), (3, .ref (B.2.1 28 0 0)), (4, .int (nI (7 * t)))]) rfl ?_
          refine g_widen (n.1 + 12, n.2 + 130) (by show n.1 + 1 ≤ n.1 + 12; omega) (by show n.2 + 6 ≤ n.2 + 130; omega) ?_
          exact kk _ _ z9 (hv.box (xs (7 * t + 1)) (xs (7 * t + 2))) (hq9.mm hmm9) hM9 (hn9.mm hmm9) (oBox_t w (xs (7 * t + 1)) (xs (7 * t + 2)))
        · first | exact absurd ((lg_cmp_eq _ _).mpr (hz9 ho9)) c9 | exact absurd c9 ((lg_cmp_eq _ _).mpr (hz9 ho9))
    · skip
      refine g_if_ne X 984 (by decide) dL_law_969 (fun c10 => ?_) (fun c10 => ?_)
      · refine g_goto X 1347 (by decide) dL_law_984 ?_
        refine gG_L [2, 3, 4, 5, 6] (L' := [(0, .ref b), (1, .ref (B.2.1 0 0 0)), (2, .ref (B.2.1 20 0 0)), (3, .ref (B.2.1 28 0 0)), (4, .int (nI (7 * t)))]) rfl ?_
        refine g_widen (n.1 + 12, n.2 + 130) (by show n.1 + 1 ≤ n.1 + 12; omega) (by show n.2 + 6 ≤ n.2 + 130; omega) ?_
        exact kk _ _ z9 (hv.box (xs (7 * t + 1)) (xs (7 * t + 2))) (hq9.mm hmm9) hM9 (hn9.mm hmm9) (oBox_t w (xs (7 * t + 1)) (xs (7 * t + 2)))
      · first | exact absurd (nI_ne0 (Nat.pos_of_ne_zero ho9) (by have := oBox_2 w (xs (7 * t + 1)) (xs (7 * t + 2)); omega)) c10 | exact absurd c10 (nI_ne0 (Nat.pos_of_ne_zero ho9) (by have := oBox_2 w (xs (7 * t + 1)) (xs (7 * t + 2)); omega))
  · first | exact absurd (rfl) c7 | exact absurd c7 (rfl)

set_option maxRecDepth 20000 in
theorem law_empty {Z : gZ} {B : gB} {b L : Nat} {xs : Nat → Int32} (X : gX Z B cL_law RL) (T : gTL Z B) (hR : gRm Z = room_1) (hnL : gnL Z = 9) (SC : gSC Z B b L xs) (h0 : B.2.2.2.2 = 0) {t : Nat} (ht : 7 * t + 7 ≤ L) (hL : L ≤ 3584) {n : Nat × Nat} (hn1 : n.1 + 12 ≤ 601024) (hn2 : n.2 + 130 ≤ 7293034) {V : gMem} {w : gWd} (hv : vOk w) (hQ : COk V w) (hM : MOk V w) (hN : N15 V) (ht20 : w.1.1 0 < 2 ^ 20) (kk : lawK Z B n b t w) : gG Z B n V 987 [(0, .ref b), (1, .ref (B.2.1 0 0 0)), (2, .ref (B.2.1 20 0 0)), (3, .ref (B.2.1 28 0 0)), (4, .int (nI (7 * t)))] [] := by
  have hI := gX_I X
  refine g_aload_n X 1 rfl dL_law_987 ?_
  refine g_aload_n X 0 rfl dL_law_988 ?_
  refine g_iload X 4 rfl dL_law_989 ?_
  refine g_iconst X 1 (by decide) dL_law_991 ?_
  refine g_iadd X dL_law_992 ?_
  refine gG_top (nI ((7 * t) + 1)) (nI_1 _) ?_
  refine g_sld X SC ((7 * t) + 1) rfl (by omega) (by omega) dL_law_993 ?_
  refine g_aload_n X 3 rfl dL_law_994 ?_
  refine g_callH X T hR (k := 3) (As := [.ref (B.2.1 0 0 0), .int (xs ((7 * t) + 1)), .ref (B.2.1 28 0 0)]) (rest := []) qT_yL_empty qC_yL_empty qN_L (by decide +kernel) (by decide +kernel) qL_L_122 (h_empty T.st hI V w (xs (7 * t + 1)) hQ hv.1 hN) rfl rfl (Nat.le_of_ble_eq_true rfl) ⟨Nat.le_of_ble_eq_true rfl, Nat.le_of_ble_eq_true rfl, by show n.1 + 1 ≤ 601024; omega, by show n.2 + 6 ≤ 7293034; omega⟩ dL_law_995 (fun v9 V9 z9 h9 => ?_)
  obtain ⟨e9, hz9, hq9, hn9, hc9⟩ := h9
  subst e9
  refine gG_st [.int (nI (oEmpty w (xs (7 * t + 1))).1)] rfl ?_
  have X := gX_out (z := z9) X
  have hI := gX_I X
  have SC := gSC_out (z := z9) SC
  have hMa := hM.cm hc9
  refine gG_n (n.1 + 1, n.2 + 6) rfl ?_
  refine g_istore X dL_law_998 [(5, .int (nI (oEmpty w (xs (7 * t + 1))).1)), (0, .ref b), (1, .ref (B.2.1 0 0 0)), (2, .ref (B.2.1 20 0 0)), (3, .ref (B.2.1 28 0 0)), (4, .int (nI (7 * t)))] rfl (gnl_lt hnL (by decide)) ?_
  refine g_aload_n X 3 rfl dL_law_1000 ?_
  refine g_aload_n X 1 rfl dL_law_1001 ?_
  refine g_iload X 5 rfl dL_law_1002 ?_
  refine g_iconst X 1 (by decide) dL_law_1004 ?_
  refine g_iadd X dL_law_1005 ?_
  refine gG_top (nI ((7 * t) + 1)) (nI_1 _) ?_
  refine g_sld X SC ((7 * t) + 1) rfl (by omega) (by omega) dL_law_1006 ?_
  refine g_callV X hR (rest := []) mX8_empty lL_124 (k_Mempty hI V9 w (xs (7 * t + 1)) hMa hv.1) rfl rfl (Nat.le_of_ble_eq_true rfl) ⟨by decide, by decide⟩ rfl rfl rfl ⟨Nat.le_of_ble_eq_true rfl, Nat.le_of_ble_eq_true rfl, by show n.1 + 1 + 0 ≤ 601024; omega, by show n.2 + 6 + 0 ≤ 7293034; omega⟩ dL_law_1007 (fun r1 V2 hz_3 => ?_)
  refine gG_rv hz_3.1 ?_
  obtain ⟨-, hth9, hM9, hmm9⟩ := hz_3
  refine gG_st [.int ((oEmpty w (xs (7 * t + 1))).2.1)] rfl ?_
  refine gG_n (n.1 + 1, n.2 + 6) rfl ?_
  refine g_istore X dL_law_1010 [(6, .int ((oEmpty w (xs (7 * t + 1))).2.1)), (5, .int (nI (oEmpty w (xs (7 * t + 1))).1)), (0, .ref b), (1, .ref (B.2.1 0 0 0)), (2, .ref (B.2.1 20 0 0)), (3, .ref (B.2.1 28 0 0)), (4, .int (nI (7 * t)))] rfl (gnl_lt hnL (by decide)) ?_
  refine g_aload_n X 4 rfl dL_law_1012 ?_
  refine g_callV X hR (rest := []) mX8_thrown lL_79 (k_thrown hI V2 ) rfl rfl (Nat.le_of_ble_eq_true rfl) ⟨by decide, by decide⟩ rfl rfl rfl ⟨Nat.le_of_ble_eq_true rfl, Nat.le_of_ble_eq_true rfl, by show n.1 + 1 + 0 ≤ 601024; omega, by show n.2 + 6 + 0 ≤ 7293034; omega⟩ dL_law_1013 (fun r4 V5 hz_6 => ?_)
  refine gG_ret hz_6.1 hz_6.2 ?_
  refine gG_st [.int (V2 20 0 0 0)] rfl ?_
  refine gG_n (n.1 + 1, n.2 + 6) rfl ?_
  refine gG_top (nI (oEmpty w (xs (7 * t + 1))).1) (hth9) ?_
  refine g_iload X 1 rfl dL_law_1016 ?_
  refine g_icmp_eq X 1023 (by decide) dL_law_1018 (fun c7 => ?_) (fun c7 => ?_)
  · refine g_iload X 1 rfl dL_law_1023 ?_
    by_cases ho9 : (oEmpty w (xs (7 * t + 1))).1 = 0
    · skip
      refine g_if_ne X 1040 (by decide) dL_law_1025 (fun c8 => ?_) (fun c8 => ?_)
      · first | exact absurd (fun z => z (by rw [ho9]; rfl)) c8 | exact absurd c8 (fun z => z (by rw [ho9]; rfl))
      · refine g_aload_n X 5 rfl dL_law_1028 ?_
        refine g_iconst X 0 (by decide) dL_law_1029 ?_
        refine g_laldO X rfl dL_law_1030 ?_
        refine gG_st [.long z9] rfl ?_
        refine g_iload X 0 rfl dL_law_1031 ?_
        refine g_i2l X dL_law_1033 ?_
        refine g_lcmp X dL_law_1034 ?_
        refine g_if_eq X 1040 (by decide) dL_law_1035 (fun c9 => ?_) (fun c9 => ?_)
        · refine g_goto X 1347 (by decide) dL_law_1040 ?_
          refine gG_L [2, 3, 4, 5, 6] (L' := [(0, .ref b), (1, .ref (B.2.1 0 0 0)), (2, .ref (B.2.1 20 0 0)), (3, .ref (B.2.1 28 0 0)), (4, .int (nI (7 * t)))]) rfl ?_
          refine g_widen (n.1 + 12, n.2 + 130) (by show n.1 + 1 ≤ n.1 + 12; omega) (by show n.2 + 6 ≤ n.2 + 130; omega) ?_
          exact kk _ _ z9 (hv.empty (xs (7 * t + 1))) (hq9.mm hmm9) hM9 (hn9.mm hmm9) (oEmpty_t w (xs (7 * t + 1)))
        · first | exact absurd ((lg_cmp_eq _ _).mpr (hz9 ho9)) c9 | exact absurd c9 ((lg_cmp_eq _ _).mpr (hz9 ho9))
    · skip
      refine g_if_ne X 1040 (by decide) dL_law_1025 (fun c10 => ?_) (fun c10 => ?_)
      · refine g_goto X 1347 (by decide) dL_law_1040 ?_
        refine gG_L [2, 3, 4, 5, 6] (L' := [(0, .ref b), (1, .ref (B.2.1 0 0 0)), (2, .ref (B.2.1 20 0 0)), (3, .ref (B.2.1 28 0 0)), (4, .int (nI (7 * t)))]) rfl ?_
        refine g_widen (n.1 + 12, n.2 + 130) (by show n.1 + 1 ≤ n.1 + 12; omega) (by show n.2 + 6 ≤ n.2 + 130; omega) ?_
        exact kk _ _ z9 (hv.empty (xs (7 * t + 1))) (hq9.mm hmm9) hM9 (hn9.mm hmm9) (oEmpty_t w (xs (7 * t + 1)))
      · first | exact absurd (nI_ne0 (Nat.pos_of_ne_zero ho9) (by have := oEmpty_2 w (xs (7 * t + 1)); omega)) c10 | exact absurd c10 (nI_ne0 (Nat.pos_of_ne_zero ho9) (by have := oEmpty_2 w (xs (7 * t + 1)); omega))
  · first | exact absurd (rfl) c7 | exact absurd c7 (rfl)

