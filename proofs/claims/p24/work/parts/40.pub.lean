/-! the class's calls, on valid arguments -/
abbrev rmX6_rebuild : Room := { frames := 1, cells := 0, slots := 0, locals := 22 }
set_option maxRecDepth 20000 in
theorem p_rebuild {l : Launch} {B : gB} (hI : gI B) (V : gMem) (w : gWd) (p : Int32) (q : Int32) (hQ : COk V w) (hw : wOk w) (hN : N15 V) (v1 : inB p 4 30) (v2 : inB q 10 500) (v3 : w.1.2.1 2 = []) : gM l B yX6_rebuild cX6_rebuild 4 (some .int) rmX6_rebuild [.ref (B.2.1 0 0 0), .int p, .int q] V (opo w (oBuild w p q) V) := by
  refine gM_of (own := RX6) (L := [(0, .ref (B.2.1 0 0 0)), (1, .int p), (2, .int q)]) (by decide +kernel) rfl hI (Nat.le_of_ble_eq_true rfl) rfl ?_
  intro Z hnL hR X F
  have hl16 : (w.1.2.1 2).length ≤ 16 := hQ.1.bnd (by decide)
  refine g_iload_n X 1 rfl dX6_rebuild_0 ?_
  refine g_iconst X 4 (by decide) dX6_rebuild_1 ?_
  refine g_bipush X 30 (by decide) dX6_rebuild_2 ?_
  refine g_callS X hR (As := [.int p, .int 4, .int 30]) (rest := []) mX6_isBetween lX6_39 (k_isBetween hI V p 4 30 ) rfl rfl (Nat.le_of_ble_eq_true rfl) ⟨Nat.le_of_ble_eq_true rfl, Nat.le_of_ble_eq_true rfl, Nat.le_of_ble_eq_true rfl, Nat.le_of_ble_eq_true rfl⟩ dX6_rebuild_4 (fun r1 V2 hz_3 => ?_)
  refine gG_ret hz_3.1 hz_3.2 ?_
  refine gG_st [.int (if inB p 4 30 then 1 else 0)] rfl ?_
  by_cases hP : inB p 4 30
  · refine gG_top 1 (if_pos (hP)) ?_
    refine g_if_eq X 22 (by decide) dX6_rebuild_7 (fun c4 => ?_) (fun c4 => ?_)
    ·  exact absurd c4 (by decide)
    · refine g_iload_n X 2 rfl dX6_rebuild_10 ?_
      refine g_bipush X 10 (by decide) dX6_rebuild_11 ?_
      refine g_sipush X 500 (by decide) dX6_rebuild_13 ?_
      refine g_callS X hR (As := [.int q, .int 10, .int 500]) (rest := []) mX6_isBetween lX6_39 (k_isBetween hI V q 10 500 ) rfl rfl (Nat.le_of_ble_eq_true rfl) ⟨Nat.le_of_ble_eq_true rfl, Nat.le_of_ble_eq_true rfl, Nat.le_of_ble_eq_true rfl, Nat.le_of_ble_eq_true rfl⟩ dX6_rebuild_16 (fun r5 V6 hz_7 => ?_)
      refine gG_ret hz_7.1 hz_7.2 ?_
      refine gG_st [.int (if inB q 10 500 then 1 else 0)] rfl ?_
      by_cases hW : inB q 10 500
      · refine gG_top 1 (if_pos (hW)) ?_
        refine g_if_ne X 32 (by decide) dX6_rebuild_19 (fun c8 => ?_) (fun c8 => ?_)
        · obtain ⟨j, j1, j2, jx⟩ := (inB_iff (a := 4) (n := 30) (by decide) (by decide)).mp hP
          subst jx
          obtain ⟨z, z1, z2, zx⟩ := (inB_iff (a := 10) (n := 500) (by decide) (by decide)).mp hW
          subst zx
          refine g_aload_n X 0 rfl dX6_rebuild_32 ?_
          refine gg_X6_bridge X ⟨by decide, by decide⟩ fX6_23 dX6_rebuild_33 ?_
          refine gg_X0_crossing X ⟨by decide, by decide⟩ fX6_110 dX6_rebuild_36 ?_
          refine gg_X5_size X ⟨by decide, by decide⟩ fX6_114 dX6_rebuild_39 ?_
          refine gG_top (nI (w.1.2.1 2).length) ((hQ.1.2.1 2 (by first | decide | omega)).1) ?_
          by_cases hon : w.1.2.1 2 = []
          · refine gG_top 0 (by rw [hon]; rfl) ?_
            refine g_if_le X 55 (by decide) dX6_rebuild_42 (fun c9 => ?_) (fun c9 => ?_)
            · refine g_aload_n X 0 rfl dX6_rebuild_55 ?_
              refine gg_X6_bridge X ⟨by decide, by decide⟩ fX6_23 dX6_rebuild_56 ?_
              refine gg_X0_bears X ⟨by decide, by decide⟩ fX6_119 dX6_rebuild_59 ?_
              refine gG_top (nI (w.1.1 3)) (hQ.1.1 3 (by decide)) ?_
              refine g_istore_n X rfl dX6_rebuild_62 [(3, .int (nI (w.1.1 3))), (0, .ref (B.2.1 0 0 0)), (1, .int (nI j)), (2, .int (nI z))] rfl (gnl_lt hnL (by decide)) ?_
              refine g_aload_n X 1 rfl dX6_rebuild_63 ?_
              refine gg_X6_bridge X ⟨by decide, by decide⟩ fX6_23 dX6_rebuild_64 ?_
              refine g_iload_n X 2 rfl dX6_rebuild_67 ?_
              refine gp_X0_places X ⟨by decide, by decide⟩ fX6_122 dX6_rebuild_68 ?_
              refine gG_nm (fun V10 hV10 => ?_)
              obtain ⟨S11, eS11⟩ : ∃ y, y = sN w.1 2 j := ⟨_, rfl⟩
              have hS11 : AbsC V10 0 S11 := by rw [eS11, hV10]; exact hQ.1.setN 2 j (by decide)
              have mS11 : brmod V V10 0 := by rw [hV10]; exact brmod.rf.up (by decide) (by decide)
              refine g_aload_n X 1 rfl dX6_rebuild_71 ?_
              refine gg_X6_bridge X ⟨by decide, by decide⟩ fX6_23 dX6_rebuild_72 ?_
              refine g_iload_n X 3 rfl dX6_rebuild_75 ?_
              refine gp_X0_bears X ⟨by decide, by decide⟩ fX6_119 dX6_rebuild_76 ?_
              refine gG_nm (fun V12 hV12 => ?_)
              obtain ⟨S13, eS13⟩ : ∃ y, y = sN S11 3 z := ⟨_, rfl⟩
              have hS13 : AbsC V12 0 S13 := by rw [eS13, hV12]; exact hS11.setN 3 z (by decide)
              have mS13 : brmod V V12 0 := by rw [hV12]; exact mS11.up (by decide) (by decide)
              refine g_iload_n X 0 rfl dX6_rebuild_79 ?_
              refine g_iret X F ?_ rfl dX6_rebuild_80
              have heq : S13 = sPB w.1 j z := by subst eS13 eS11; rfl
              rw [show oBuild w (nI j) (nI z) = (0, nI (w.1.1 3), (sPB w.1 j z, w.2)) from by unfold oBuild; rw [if_pos ⟨hP, hW⟩, if_pos hon, nI_clamp (by omega), nI_clamp (by omega)]]
              rw [heq] at hS13
              exact ⟨rfl, rfl, hQ.br mS13 hS13, hN.br mS13 hS13, mS13.cm⟩
            ·  exact absurd c9 (by decide)
          · skip
            refine g_if_le X 55 (by decide) dX6_rebuild_42 (fun c14 => ?_) (fun c14 => ?_)
            · first | exact absurd (nI_nle (List.length_pos_iff.mpr hon) (by omega)) c14 | exact absurd c14 (nI_nle (List.length_pos_iff.mpr hon) (by omega))
            · first | exact absurd v1 hP | exact absurd v2 hW | exact absurd v3 hon
        ·  exact absurd c8 (by decide)
      · refine gG_top 0 (if_neg (hW)) ?_
        refine g_if_ne X 32 (by decide) dX6_rebuild_19 (fun c15 => ?_) (fun c15 => ?_)
        ·  exact absurd c15 (by decide)
        · first | exact absurd v1 hP | exact absurd v2 hW | exact absurd v3 hon
  · refine gG_top 0 (if_neg (hP)) ?_
    refine g_if_eq X 22 (by decide) dX6_rebuild_7 (fun c16 => ?_) (fun c16 => ?_)
    · first | exact absurd v1 hP | exact absurd v2 hW | exact absurd v3 hon
    ·  exact absurd c16 (by decide)

abbrev rmX6_setToll : Room := { frames := 1, cells := 0, slots := 0, locals := 22 }
set_option maxRecDepth 20000 in
theorem p_setToll {l : Launch} {B : gB} (hI : gI B) (V : gMem) (w : gWd) (p : Int32) (q : Int32) (hQ : COk V w) (hw : wOk w) (hN : N15 V) (v1 : inB p 0 9) (v2 : inB q 0 9) : gM l B yX6_setToll cX6_setToll 4 (some .int) rmX6_setToll [.ref (B.2.1 0 0 0), .int p, .int q] V (opo w (oToll w p q) V) := by
  refine gM_of (own := RX6) (L := [(0, .ref (B.2.1 0 0 0)), (1, .int p), (2, .int q)]) (by decide +kernel) rfl hI (Nat.le_of_ble_eq_true rfl) rfl ?_
  intro Z hnL hR X F
  refine g_iload_n X 1 rfl dX6_setToll_0 ?_
  refine g_iconst X 0 (by decide) dX6_setToll_1 ?_
  refine g_bipush X 9 (by decide) dX6_setToll_2 ?_
  refine g_callS X hR (As := [.int p, .int 0, .int 9]) (rest := []) mX6_isBetween lX6_39 (k_isBetween hI V p 0 9 ) rfl rfl (Nat.le_of_ble_eq_true rfl) ⟨Nat.le_of_ble_eq_true rfl, Nat.le_of_ble_eq_true rfl, Nat.le_of_ble_eq_true rfl, Nat.le_of_ble_eq_true rfl⟩ dX6_setToll_4 (fun r1 V2 hz_3 => ?_)
  refine gG_ret hz_3.1 hz_3.2 ?_
  refine gG_st [.int (if inB p 0 9 then 1 else 0)] rfl ?_
  by_cases hP : inB p 0 9
  · refine gG_top 1 (if_pos (hP)) ?_
    refine g_if_eq X 20 (by decide) dX6_setToll_7 (fun c4 => ?_) (fun c4 => ?_)
    ·  exact absurd c4 (by decide)
    · refine g_iload_n X 2 rfl dX6_setToll_10 ?_
      refine g_iconst X 0 (by decide) dX6_setToll_11 ?_
      refine g_bipush X 9 (by decide) dX6_setToll_12 ?_
      refine g_callS X hR (As := [.int q, .int 0, .int 9]) (rest := []) mX6_isBetween lX6_39 (k_isBetween hI V q 0 9 ) rfl rfl (Nat.le_of_ble_eq_true rfl) ⟨Nat.le_of_ble_eq_true rfl, Nat.le_of_ble_eq_true rfl, Nat.le_of_ble_eq_true rfl, Nat.le_of_ble_eq_true rfl⟩ dX6_setToll_14 (fun r5 V6 hz_7 => ?_)
      refine gG_ret hz_7.1 hz_7.2 ?_
      refine gG_st [.int (if inB q 0 9 then 1 else 0)] rfl ?_
      by_cases hW : inB q 0 9
      · refine gG_top 1 (if_pos (hW)) ?_
        refine g_if_ne X 30 (by decide) dX6_setToll_17 (fun c8 => ?_) (fun c8 => ?_)
        · obtain ⟨j, j1, j2, jx⟩ := (inB_iff (a := 0) (n := 9) (by decide) (by decide)).mp hP
          subst jx
          obtain ⟨z, z1, z2, zx⟩ := (inB_iff (a := 0) (n := 9) (by decide) (by decide)).mp hW
          subst zx
          refine g_bipush X 10 (by decide) dX6_setToll_30 ?_
          refine g_aload_n X 0 rfl dX6_setToll_32 ?_
          refine gg_X6_bridge X ⟨by decide, by decide⟩ fX6_23 dX6_setToll_33 ?_
          refine gg_X0_axleToll X ⟨by decide, by decide⟩ fX6_127 dX6_setToll_36 ?_
          refine gG_top (nI (w.1.1 4)) (hQ.1.1 4 (by decide)) ?_
          refine g_imul X dX6_setToll_39 ?_
          refine gG_top (nI (10 * (w.1.1 4))) (pk_mul 10 (w.1.1 4)) ?_
          refine g_aload_n X 0 rfl dX6_setToll_40 ?_
          refine gg_X6_bridge X ⟨by decide, by decide⟩ fX6_23 dX6_setToll_41 ?_
          refine gg_X0_tenToll X ⟨by decide, by decide⟩ fX6_130 dX6_setToll_44 ?_
          refine gG_top (nI (w.1.1 5)) (hQ.1.1 5 (by decide)) ?_
          refine g_iadd X dX6_setToll_47 ?_
          refine gG_top (nI ((10 * (w.1.1 4)) + (w.1.1 5))) (nI_add (10 * (w.1.1 4)) (w.1.1 5)) ?_
          refine g_istore_n X rfl dX6_setToll_48 [(3, .int (nI ((10 * (w.1.1 4)) + (w.1.1 5)))), (0, .ref (B.2.1 0 0 0)), (1, .int (nI j)), (2, .int (nI z))] rfl (gnl_lt hnL (by decide)) ?_
          refine g_aload_n X 1 rfl dX6_setToll_49 ?_
          refine gg_X6_bridge X ⟨by decide, by decide⟩ fX6_23 dX6_setToll_50 ?_
          refine g_iload_n X 2 rfl dX6_setToll_53 ?_
          refine gp_X0_axleToll X ⟨by decide, by decide⟩ fX6_127 dX6_setToll_54 ?_
          refine gG_nm (fun V9 hV9 => ?_)
          obtain ⟨S10, eS10⟩ : ∃ y, y = sN w.1 4 j := ⟨_, rfl⟩
          have hS10 : AbsC V9 0 S10 := by rw [eS10, hV9]; exact hQ.1.setN 4 j (by decide)
          have mS10 : brmod V V9 0 := by rw [hV9]; exact brmod.rf.up (by decide) (by decide)
          refine g_aload_n X 1 rfl dX6_setToll_57 ?_
          refine gg_X6_bridge X ⟨by decide, by decide⟩ fX6_23 dX6_setToll_58 ?_
          refine g_iload_n X 3 rfl dX6_setToll_61 ?_
          refine gp_X0_tenToll X ⟨by decide, by decide⟩ fX6_130 dX6_setToll_62 ?_
          refine gG_nm (fun V11 hV11 => ?_)
          obtain ⟨S12, eS12⟩ : ∃ y, y = sN S10 5 z := ⟨_, rfl⟩
          have hS12 : AbsC V11 0 S12 := by rw [eS12, hV11]; exact hS10.setN 5 z (by decide)
          have mS12 : brmod V V11 0 := by rw [hV11]; exact mS10.up (by decide) (by decide)
          refine g_iload_n X 0 rfl dX6_setToll_65 ?_
          refine g_iret X F ?_ rfl dX6_setToll_66
          have heq : S12 = sN (sN w.1 4 j) 5 z := by subst eS12 eS10; rfl
          rw [show oToll w (nI j) (nI z) = (0, nI (10 * w.1.1 4 + w.1.1 5), (sN (sN w.1 4 j) 5 z, w.2)) from by unfold oToll; rw [if_pos ⟨hP, hW⟩, nI_clamp (by omega), nI_clamp (by omega)]]
          rw [heq] at hS12
          exact ⟨rfl, rfl, hQ.br mS12 hS12, hN.br mS12 hS12, mS12.cm⟩
        ·  exact absurd c8 (by decide)
      · refine gG_top 0 (if_neg (hW)) ?_
        refine g_if_ne X 30 (by decide) dX6_setToll_17 (fun c13 => ?_) (fun c13 => ?_)
        ·  exact absurd c13 (by decide)
        · first | exact absurd v1 hP | exact absurd v2 hW
  · refine gG_top 0 (if_neg (hP)) ?_
    refine g_if_eq X 20 (by decide) dX6_setToll_7 (fun c14 => ?_) (fun c14 => ?_)
    · first | exact absurd v1 hP | exact absurd v2 hW
    ·  exact absurd c14 (by decide)

abbrev rmX6_cart : Room := { frames := 2, cells := 0, slots := 0, locals := 44 }
set_option maxRecDepth 20000 in
theorem p_cart {l : Launch} {B : gB} (hI : gI B) (V : gMem) (w : gWd) (p : Int32) (q : Int32) (hQ : COk V w) (hw : wOk w) (hN : N15 V) (v1 : ixB p (nI (w.1.1 6))) (v2 : ixB q 9) : gM l B yX6_cart cX6_cart 4 (some .int) rmX6_cart [.ref (B.2.1 0 0 0), .int p, .int q] V (opo w (oCart w p q) V) := by
  refine gM_of (own := RX6) (L := [(0, .ref (B.2.1 0 0 0)), (1, .int p), (2, .int q)]) (by decide +kernel) rfl hI (Nat.le_of_ble_eq_true rfl) rfl ?_
  intro Z hnL hR X F
  have hN6 : w.1.1 6 ≤ 16 := hw.1.1.2.2.2.2.2
  refine g_aload_n X 0 rfl dX6_cart_0 ?_
  refine gg_X6_bridge X ⟨by decide, by decide⟩ fX6_23 dX6_cart_1 ?_
  refine g_iload_n X 1 rfl dX6_cart_4 ?_
  by_cases hP : ixB p (nI (w.1.1 6))
  · obtain ⟨j, j1, jx⟩ := (ixB_iff (n := w.1.1 6) (by omega)).mp hP
    subst jx
    refine g_callV X hR (rest := []) mX0_cartAt lX6_184 (k_cartAt hI V 0 w.1 j (by decide) hQ.1 hN6 j1) rfl rfl (Nat.le_of_ble_eq_true rfl) ⟨by decide, by decide⟩ rfl rfl rfl ⟨Nat.le_of_ble_eq_true rfl, Nat.le_of_ble_eq_true rfl, Nat.le_of_ble_eq_true rfl, Nat.le_of_ble_eq_true rfl⟩ dX6_cart_5 (fun r1 V2 hz_3 => ?_)
    refine gG_ret hz_3.1 hz_3.2 ?_
    refine gG_st [.ref (B.2.1 15 0 j)] rfl ?_
    refine g_astore_n X rfl dX6_cart_8 [(3, .ref (B.2.1 15 0 j)), (0, .ref (B.2.1 0 0 0)), (1, .int (nI j)), (2, .int q)] rfl (gnl_lt hnL (by decide)) ?_
    refine g_aload_n X 0 rfl dX6_cart_9 ?_
    refine g_ifnull X dX6_cart_10 ?_
    refine g_iload_n X 3 rfl dX6_cart_13 ?_
    refine g_bipush X 9 (by decide) dX6_cart_14 ?_
    refine g_callS X hR (As := [.int q, .int 9]) (rest := []) mX6_isIndex lX6_68 (k_isIndexD hI V q 9 ) rfl rfl (Nat.le_of_ble_eq_true rfl) ⟨Nat.le_of_ble_eq_true rfl, Nat.le_of_ble_eq_true rfl, Nat.le_of_ble_eq_true rfl, Nat.le_of_ble_eq_true rfl⟩ dX6_cart_16 (fun r4 V5 hz_6 => ?_)
    refine gG_ret hz_6.1 hz_6.2 ?_
    refine gG_st [.int (if ixB q 9 then 1 else 0)] rfl ?_
    by_cases hW : ixB q 9
    · refine gG_top 1 (if_pos (hW)) ?_
      refine g_if_ne X 32 (by decide) dX6_cart_19 (fun c7 => ?_) (fun c7 => ?_)
      · obtain ⟨z, z1, zx⟩ := (ixB_iff (n := 9) (by first | decide | omega)).mp hW
        subst zx
        refine g_aload_n X 1 rfl dX6_cart_32 ?_
        refine gg_X6_bridge X ⟨by decide, by decide⟩ fX6_23 dX6_cart_33 ?_
        refine g_aload_n X 0 rfl dX6_cart_36 ?_
        refine g_iload_n X 3 rfl dX6_cart_37 ?_
        refine g_callV X hR (rest := []) mX0_tellCart lX6_190 (k_tellCart hI V 0 w.1 j z (by decide) hQ.1 hN6 j1 (hw.1.2.1 j j1) (fun h8 => hw.1.2.2.2.2.2.1 j (hw.1.on j1 h8)) z1) rfl rfl (Nat.le_of_ble_eq_true rfl) ⟨by decide, by decide⟩ rfl rfl rfl ⟨Nat.le_of_ble_eq_true rfl, Nat.le_of_ble_eq_true rfl, Nat.le_of_ble_eq_true rfl, Nat.le_of_ble_eq_true rfl⟩ dX6_cart_38 (fun r8 V9 hz_10 => ?_)
        refine gG_ret hz_10.1 hz_10.2 ?_
        refine gG_st [.int (sTell w.1 j z)] rfl ?_
        refine g_iret X F ?_ rfl dX6_cart_41
        rw [show oCart w (nI j) (nI z) = (0, sTell w.1 j z, w) from by unfold oCart; rw [if_pos ⟨hP, hW⟩, nI_clamp (by omega), nI_clamp (by omega)]]
        exact ⟨rfl, rfl, hQ, hN, cmod.rf⟩
      ·  exact absurd c7 (by decide)
    · refine gG_top 0 (if_neg (hW)) ?_
      refine g_if_ne X 32 (by decide) dX6_cart_19 (fun c11 => ?_) (fun c11 => ?_)
      ·  exact absurd c11 (by decide)
      · first | exact absurd v1 hP | exact absurd v2 hW
  · skip
    refine g_callV X hR (rest := []) mX0_cartAt lX6_184 (k_cartAtout hI V 0 w.1 p (by decide) hQ.1 hN6 hP) rfl rfl (Nat.le_of_ble_eq_true rfl) ⟨by decide, by decide⟩ rfl rfl rfl ⟨Nat.le_of_ble_eq_true rfl, Nat.le_of_ble_eq_true rfl, Nat.le_of_ble_eq_true rfl, Nat.le_of_ble_eq_true rfl⟩ dX6_cart_5 (fun r12 V13 hz_14 => ?_)
    refine gG_ret hz_14.1 hz_14.2 ?_
    refine gG_st [.null] rfl ?_
    refine g_astore_nN X rfl dX6_cart_8 [(3, .null), (0, .ref (B.2.1 0 0 0)), (1, .int p), (2, .int q)] rfl (gnl_lt hnL (by decide)) ?_
    refine g_aload_nN X 0 rfl dX6_cart_9 ?_
    refine g_ifnullN X 22 (by decide) dX6_cart_10 ?_
    first | exact absurd v1 hP | exact absurd v2 hW

abbrev rmX6_queue : Room := { frames := 2, cells := 0, slots := 0, locals := 42 }
set_option maxRecDepth 20000 in
theorem p_queue {l : Launch} {B : gB} (hI : gI B) (V : gMem) (w : gWd) (p : Int32) (q : Int32) (hQ : COk V w) (hw : wOk w) (hN : N15 V) (v1 : ixB p 2) (v2 : ixB q (nI (w.1.2.1 p.toNatClampNeg).length)) : gM l B yX6_queue cX6_queue 3 (some .int) rmX6_queue [.ref (B.2.1 0 0 0), .int p, .int q] V (opo w (oQueue w p q) V) := by
  refine gM_of (own := RX6) (L := [(0, .ref (B.2.1 0 0 0)), (1, .int p), (2, .int q)]) (by decide +kernel) rfl hI (Nat.le_of_ble_eq_true rfl) rfl ?_
  intro Z hnL hR X F
  refine g_iload_n X 1 rfl dX6_queue_0 ?_
  refine g_iconst X 2 (by decide) dX6_queue_1 ?_
  refine g_callS X hR (As := [.int p, .int 2]) (rest := []) mX6_isIndex lX6_68 (k_isIndexD hI V p 2 ) rfl rfl (Nat.le_of_ble_eq_true rfl) ⟨Nat.le_of_ble_eq_true rfl, Nat.le_of_ble_eq_true rfl, Nat.le_of_ble_eq_true rfl, Nat.le_of_ble_eq_true rfl⟩ dX6_queue_2 (fun r1 V2 hz_3 => ?_)
  refine gG_ret hz_3.1 hz_3.2 ?_
  refine gG_st [.int (if ixB p 2 then 1 else 0)] rfl ?_
  by_cases hP : ixB p 2
  · refine gG_top 1 (if_pos (hP)) ?_
    refine g_if_eq X 29 (by decide) dX6_queue_5 (fun c4 => ?_) (fun c4 => ?_)
    ·  exact absurd c4 (by decide)
    · obtain ⟨j, j1, jx⟩ := (ixB_iff (n := 2) (by first | decide | omega)).mp hP
      subst jx
      have hl16 : (w.1.2.1 j).length ≤ 16 := hQ.1.bnd (by omega)
      refine g_iload_n X 2 rfl dX6_queue_8 ?_
      refine g_aload_n X 0 rfl dX6_queue_9 ?_
      refine gg_X6_bridge X ⟨by decide, by decide⟩ fX6_23 dX6_queue_10 ?_
      refine g_iload_n X 1 rfl dX6_queue_13 ?_
      refine g_callV X hR (rest := [.int q]) mX0_gateAt lX6_168 (k_gateAt hI V 0 j (by decide) j1) rfl rfl (Nat.le_of_ble_eq_true rfl) ⟨by decide, by decide⟩ rfl rfl rfl ⟨Nat.le_of_ble_eq_true rfl, Nat.le_of_ble_eq_true rfl, Nat.le_of_ble_eq_true rfl, Nat.le_of_ble_eq_true rfl⟩ dX6_queue_14 (fun r5 V6 hz_7 => ?_)
      refine gG_ret hz_7.1 hz_7.2 ?_
      refine gG_st [.ref (B.2.1 12 0 j), .int q] rfl ?_
      refine gg_X3_waiting X (gP_12 (by first | assumption | decide | omega) (by first | assumption | decide | omega)) fX6_172 dX6_queue_17 ?_
      refine gg_X5_size X (gP_13 (by first | assumption | decide | omega) (by first | assumption | decide | omega)) fX6_114 dX6_queue_20 ?_
      refine gG_top (nI (w.1.2.1 j).length) ((hQ.1.2.1 j (by first | decide | omega)).1) ?_
      refine g_callS X hR (As := [.int q, .int (nI (w.1.2.1 j).length)]) (rest := []) mX6_isIndex lX6_68 (k_isIndexD hI V q (nI (w.1.2.1 j).length) ) rfl rfl (Nat.le_of_ble_eq_true rfl) ⟨Nat.le_of_ble_eq_true rfl, Nat.le_of_ble_eq_true rfl, Nat.le_of_ble_eq_true rfl, Nat.le_of_ble_eq_true rfl⟩ dX6_queue_23 (fun r8 V9 hz_10 => ?_)
      refine gG_ret hz_10.1 hz_10.2 ?_
      refine gG_st [.int (if ixB q (nI (w.1.2.1 j).length) then 1 else 0)] rfl ?_
      by_cases hW : ixB q (nI (w.1.2.1 j).length)
      · refine gG_top 1 (if_pos (hW)) ?_
        refine g_if_ne X 39 (by decide) dX6_queue_26 (fun c11 => ?_) (fun c11 => ?_)
        · obtain ⟨z, z1, zx⟩ := (ixB_iff (n := (w.1.2.1 j).length) (by first | decide | omega)).mp hW
          subst zx
          refine g_aload_n X 0 rfl dX6_queue_39 ?_
          refine gg_X6_bridge X ⟨by decide, by decide⟩ fX6_23 dX6_queue_40 ?_
          refine g_iload_n X 1 rfl dX6_queue_43 ?_
          refine g_callV X hR (rest := []) mX0_gateAt lX6_168 (k_gateAt hI V 0 j (by decide) j1) rfl rfl (Nat.le_of_ble_eq_true rfl) ⟨by decide, by decide⟩ rfl rfl rfl ⟨Nat.le_of_ble_eq_true rfl, Nat.le_of_ble_eq_true rfl, Nat.le_of_ble_eq_true rfl, Nat.le_of_ble_eq_true rfl⟩ dX6_queue_44 (fun r12 V13 hz_14 => ?_)
          refine gG_ret hz_14.1 hz_14.2 ?_
          refine gG_st [.ref (B.2.1 12 0 j)] rfl ?_
          refine gg_X3_waiting X (gP_12 (by first | assumption | decide | omega) (by first | assumption | decide | omega)) fX6_172 dX6_queue_47 ?_
          refine g_iload_n X 2 rfl dX6_queue_50 ?_
          refine g_callV X hR (rest := []) mX5_at lX6_196 (k_at hI V 0 j (w.1.2.1 j) z (by decide) (by omega) (hQ.1.2.1 j (by omega)) (by omega)) rfl rfl (Nat.le_of_ble_eq_true rfl) (gP_13 (by first | assumption | decide | omega) (by first | assumption | decide | omega)) rfl rfl rfl ⟨Nat.le_of_ble_eq_true rfl, Nat.le_of_ble_eq_true rfl, Nat.le_of_ble_eq_true rfl, Nat.le_of_ble_eq_true rfl⟩ dX6_queue_51 (fun r15 V16 hz_17 => ?_)
          refine gG_ret hz_17.1 hz_17.2 ?_
          refine gG_st [.int (lat (w.1.2.1 j) z)] rfl ?_
          refine gG_top (nI ((w.1.2.1 j)[z]?.getD 0)) (by rw [lat_in z1, List.getElem?_eq_getElem z1]; rfl) ?_
          refine g_iret X F ?_ rfl dX6_queue_54
          rw [show oQueue w (nI j) (nI z) = (0, nI ((w.1.2.1 j)[z]?.getD 0), w) from by unfold oQueue; rw [nI_clamp (n := j) (by omega), if_pos ⟨hP, hW⟩, nI_clamp (by omega)]]
          exact ⟨rfl, rfl, hQ, hN, cmod.rf⟩
        ·  exact absurd c11 (by decide)
      · refine gG_top 0 (if_neg (hW)) ?_
        refine g_if_ne X 39 (by decide) dX6_queue_26 (fun c18 => ?_) (fun c18 => ?_)
        ·  exact absurd c18 (by decide)
        · first | exact absurd v1 hP | (rw [nI_clamp (by omega)] at v2; exact absurd v2 hW)
  · refine gG_top 0 (if_neg (hP)) ?_
    refine g_if_eq X 29 (by decide) dX6_queue_5 (fun c19 => ?_) (fun c19 => ?_)
    · first | exact absurd v1 hP | (rw [nI_clamp (by omega)] at v2; exact absurd v2 hW)
    ·  exact absurd c19 (by decide)

abbrev rmX6_box : Room := { frames := 1, cells := 0, slots := 0, locals := 21 }
set_option maxRecDepth 20000 in
theorem p_box {l : Launch} {B : gB} (hI : gI B) (V : gMem) (w : gWd) (p : Int32) (q : Int32) (hQ : COk V w) (hw : wOk w) (hN : N15 V) (v1 : ixB p 2) (v2 : ixB q 4) : gM l B yX6_box cX6_box 3 (some .int) rmX6_box [.ref (B.2.1 0 0 0), .int p, .int q] V (opo w (oBox w p q) V) := by
  refine gM_of (own := RX6) (L := [(0, .ref (B.2.1 0 0 0)), (1, .int p), (2, .int q)]) (by decide +kernel) rfl hI (Nat.le_of_ble_eq_true rfl) rfl ?_
  intro Z hnL hR X F
  refine g_iload_n X 1 rfl dX6_box_0 ?_
  refine g_iconst X 2 (by decide) dX6_box_1 ?_
  refine g_callS X hR (As := [.int p, .int 2]) (rest := []) mX6_isIndex lX6_68 (k_isIndexD hI V p 2 ) rfl rfl (Nat.le_of_ble_eq_true rfl) ⟨Nat.le_of_ble_eq_true rfl, Nat.le_of_ble_eq_true rfl, Nat.le_of_ble_eq_true rfl, Nat.le_of_ble_eq_true rfl⟩ dX6_box_2 (fun r1 V2 hz_3 => ?_)
  refine gG_ret hz_3.1 hz_3.2 ?_
  refine gG_st [.int (if ixB p 2 then 1 else 0)] rfl ?_
  by_cases hP : ixB p 2
  · refine gG_top 1 (if_pos (hP)) ?_
    refine g_if_eq X 16 (by decide) dX6_box_5 (fun c4 => ?_) (fun c4 => ?_)
    ·  exact absurd c4 (by decide)
    · obtain ⟨j, j1, jx⟩ := (ixB_iff (n := 2) (by first | decide | omega)).mp hP
      subst jx
      refine g_iload_n X 2 rfl dX6_box_8 ?_
      refine g_iconst X 4 (by decide) dX6_box_9 ?_
      refine g_callS X hR (As := [.int q, .int 4]) (rest := []) mX6_isIndex lX6_68 (k_isIndexD hI V q 4 ) rfl rfl (Nat.le_of_ble_eq_true rfl) ⟨Nat.le_of_ble_eq_true rfl, Nat.le_of_ble_eq_true rfl, Nat.le_of_ble_eq_true rfl, Nat.le_of_ble_eq_true rfl⟩ dX6_box_10 (fun r5 V6 hz_7 => ?_)
      refine gG_ret hz_7.1 hz_7.2 ?_
      refine gG_st [.int (if ixB q 4 then 1 else 0)] rfl ?_
      by_cases hW : ixB q 4
      · refine gG_top 1 (if_pos (hW)) ?_
        refine g_if_ne X 26 (by decide) dX6_box_13 (fun c8 => ?_) (fun c8 => ?_)
        · obtain ⟨z, z1, zx⟩ := (ixB_iff (n := 4) (by first | decide | omega)).mp hW
          subst zx
          refine g_aload_n X 0 rfl dX6_box_26 ?_
          refine gg_X6_bridge X ⟨by decide, by decide⟩ fX6_23 dX6_box_27 ?_
          refine g_iload_n X 1 rfl dX6_box_30 ?_
          refine g_callV X hR (rest := []) mX0_gateAt lX6_168 (k_gateAt hI V 0 j (by decide) j1) rfl rfl (Nat.le_of_ble_eq_true rfl) ⟨by decide, by decide⟩ rfl rfl rfl ⟨Nat.le_of_ble_eq_true rfl, Nat.le_of_ble_eq_true rfl, Nat.le_of_ble_eq_true rfl, Nat.le_of_ble_eq_true rfl⟩ dX6_box_31 (fun r9 V10 hz_11 => ?_)
          refine gG_ret hz_11.1 hz_11.2 ?_
          refine gG_st [.ref (B.2.1 12 0 j)] rfl ?_
          refine g_iload_n X 2 rfl dX6_box_34 ?_
          refine g_callV X hR (rest := []) mX3_tell lX6_201 (k_gtell hI V 0 w.1 j z (by decide) hQ.1 j1 z1) rfl rfl (Nat.le_of_ble_eq_true rfl) (gP_12 (by first | assumption | decide | omega) (by first | assumption | decide | omega)) rfl rfl rfl ⟨Nat.le_of_ble_eq_true rfl, Nat.le_of_ble_eq_true rfl, Nat.le_of_ble_eq_true rfl, Nat.le_of_ble_eq_true rfl⟩ dX6_box_35 (fun r12 V13 hz_14 => ?_)
          refine gG_ret hz_14.1 hz_14.2 ?_
          refine gG_st [.int (gTell w.1 j z)] rfl ?_
          refine g_iret X F ?_ rfl dX6_box_38
          rw [show oBox w (nI j) (nI z) = (0, gTell w.1 j z, w) from by unfold oBox; rw [if_pos ⟨hP, hW⟩, nI_clamp (by omega), nI_clamp (by omega)]]
          exact ⟨rfl, rfl, hQ, hN, cmod.rf⟩
        ·  exact absurd c8 (by decide)
      · refine gG_top 0 (if_neg (hW)) ?_
        refine g_if_ne X 26 (by decide) dX6_box_13 (fun c15 => ?_) (fun c15 => ?_)
        ·  exact absurd c15 (by decide)
        · first | exact absurd v1 hP | exact absurd v2 hW
  · refine gG_top 0 (if_neg (hP)) ?_
    refine g_if_eq X 16 (by decide) dX6_box_5 (fun c16 => ?_) (fun c16 => ?_)
    · first | exact absurd v1 hP | exact absurd v2 hW
    ·  exact absurd c16 (by decide)

abbrev rmX6_empty : Room := { frames := 1, cells := 0, slots := 0, locals := 21 }
set_option maxRecDepth 20000 in
theorem p_empty {l : Launch} {B : gB} (hI : gI B) (V : gMem) (w : gWd) (p : Int32) (hQ : COk V w) (hw : wOk w) (hN : N15 V) (v1 : ixB p 2) : gM l B yX6_empty cX6_empty 4 (some .int) rmX6_empty [.ref (B.2.1 0 0 0), .int p] V (opo w (oEmpty w p) V) := by
  refine gM_of (own := RX6) (L := [(0, .ref (B.2.1 0 0 0)), (1, .int p)]) (by decide +kernel) rfl hI (Nat.le_of_ble_eq_true rfl) rfl ?_
  intro Z hnL hR X F
  refine g_iload_n X 1 rfl dX6_empty_0 ?_
  refine g_iconst X 2 (by decide) dX6_empty_1 ?_
  refine g_callS X hR (As := [.int p, .int 2]) (rest := []) mX6_isIndex lX6_68 (k_isIndexD hI V p 2 ) rfl rfl (Nat.le_of_ble_eq_true rfl) ⟨Nat.le_of_ble_eq_true rfl, Nat.le_of_ble_eq_true rfl, Nat.le_of_ble_eq_true rfl, Nat.le_of_ble_eq_true rfl⟩ dX6_empty_2 (fun r1 V2 hz_3 => ?_)
  refine gG_ret hz_3.1 hz_3.2 ?_
  refine gG_st [.int (if ixB p 2 then 1 else 0)] rfl ?_
  by_cases hP : ixB p 2
  · refine gG_top 1 (if_pos (hP)) ?_
    refine g_if_ne X 18 (by decide) dX6_empty_5 (fun c4 => ?_) (fun c4 => ?_)
    · obtain ⟨j, j1, jx⟩ := (ixB_iff (n := 2) (by first | decide | omega)).mp hP
      subst jx
      refine g_aload_n X 0 rfl dX6_empty_18 ?_
      refine gg_X6_bridge X ⟨by decide, by decide⟩ fX6_23 dX6_empty_19 ?_
      refine g_iload_n X 1 rfl dX6_empty_22 ?_
      refine g_callV X hR (rest := []) mX0_gateAt lX6_168 (k_gateAt hI V 0 j (by decide) j1) rfl rfl (Nat.le_of_ble_eq_true rfl) ⟨by decide, by decide⟩ rfl rfl rfl ⟨Nat.le_of_ble_eq_true rfl, Nat.le_of_ble_eq_true rfl, Nat.le_of_ble_eq_true rfl, Nat.le_of_ble_eq_true rfl⟩ dX6_empty_23 (fun r5 V6 hz_7 => ?_)
      refine gG_ret hz_7.1 hz_7.2 ?_
      refine gG_st [.ref (B.2.1 12 0 j)] rfl ?_
      refine g_astore_n X rfl dX6_empty_26 [(2, .ref (B.2.1 12 0 j)), (0, .ref (B.2.1 0 0 0)), (1, .int (nI j))] rfl (gnl_lt hnL (by decide)) ?_
      refine g_aload_n X 0 rfl dX6_empty_27 ?_
      refine gg_X3_keptByCheats X (gP_12 (by first | assumption | decide | omega) (by first | assumption | decide | omega)) fX6_206 dX6_empty_28 ?_
      refine gG_top (nI (w.1.2.2.1 j 4)) (hQ.1.2.2.1 j (by first | assumption | decide | omega) 4 (by decide) (by decide)) ?_
      refine g_istore_n X rfl dX6_empty_31 [(3, .int (nI (w.1.2.2.1 j 4))), (2, .ref (B.2.1 12 0 j)), (0, .ref (B.2.1 0 0 0)), (1, .int (nI j))] rfl (gnl_lt hnL (by decide)) ?_
      refine g_aload_n X 1 rfl dX6_empty_32 ?_
      refine g_iconst X 0 (by decide) dX6_empty_33 ?_
      refine gp_X3_coins X (gP_12 (by first | assumption | decide | omega) (by first | assumption | decide | omega)) fX6_209 dX6_empty_34 ?_
      refine gG_nm (fun V8 hV8 => ?_)
      obtain ⟨S9, eS9⟩ : ∃ y, y = sG w.1 j 1 0 := ⟨_, rfl⟩
      have hS9 : AbsC V8 0 S9 := by rw [eS9, hV8]; exact hQ.1.setG j 1 0
      have mS9 : brmod V V8 0 := by rw [hV8]; exact brmod.rf.up (by decide) (by decide)
      have nS9 : S9.1 = w.1.1 := by rw [eS9]; exact rfl
      refine g_aload_n X 1 rfl dX6_empty_37 ?_
      refine g_iconst X 0 (by decide) dX6_empty_38 ?_
      refine gp_X3_keptByCheats X (gP_12 (by first | assumption | decide | omega) (by first | assumption | decide | omega)) fX6_206 dX6_empty_39 ?_
      refine gG_nm (fun V10 hV10 => ?_)
      obtain ⟨S11, eS11⟩ : ∃ y, y = sG S9 j 4 0 := ⟨_, rfl⟩
      have hS11 : AbsC V10 0 S11 := by rw [eS11, hV10]; exact hS9.setG j 4 0
      have mS11 : brmod V V10 0 := by rw [hV10]; exact mS9.up (by decide) (by decide)
      have nS11 : S11.1 = w.1.1 := by rw [eS11]; exact nS9
      refine g_iload_n X 0 rfl dX6_empty_42 ?_
      refine g_iret X F ?_ rfl dX6_empty_43
      have heq : S11 = sG (sG w.1 j 1 0) j 4 0 := by subst eS11 eS9; rfl
      rw [show oEmpty w (nI j) = (0, nI (w.1.2.2.1 j 4), (sG (sG w.1 j 1 0) j 4 0, w.2)) from by unfold oEmpty; rw [if_pos hP, nI_clamp (by omega)]]
      rw [heq] at hS11
      exact ⟨rfl, rfl, hQ.br mS11 hS11, hN.br mS11 hS11, mS11.cm⟩
    ·  exact absurd c4 (by decide)
  · refine gG_top 0 (if_neg (hP)) ?_
    refine g_if_ne X 18 (by decide) dX6_empty_5 (fun c12 => ?_) (fun c12 => ?_)
    ·  exact absurd c12 (by decide)
    · exact absurd v1 hP

abbrev rmX6_pass : Room := { frames := 6, cells := 0, slots := 0, locals := 133 }
set_option maxRecDepth 20000 in
theorem p_pass {l : Launch} {B : gB} (hI : gI B) (V : gMem) (w : gWd) (x : Int32) (hQ : COk V w) (hw : wOk w) (hN : N15 V) (v1 : inB x 1 200) : gM l B yX6_pass cX6_pass 2 (some .int) rmX6_pass [.ref (B.2.1 0 0 0), .int x] V (opo w (oPass w x) V) := by
  refine gM_of (own := RX6) (L := [(0, .ref (B.2.1 0 0 0)), (1, .int x)]) (by decide +kernel) rfl hI (Nat.le_of_ble_eq_true rfl) rfl ?_
  intro Z hnL hR X F
  refine g_iload_n X 1 rfl dX6_pass_0 ?_
  refine g_iconst X 1 (by decide) dX6_pass_1 ?_
  refine g_sipush X 200 (by decide) dX6_pass_2 ?_
  refine g_callS X hR (As := [.int x, .int 1, .int 200]) (rest := []) mX6_isBetween lX6_39 (k_isBetween hI V x 1 200 ) rfl rfl (Nat.le_of_ble_eq_true rfl) ⟨Nat.le_of_ble_eq_true rfl, Nat.le_of_ble_eq_true rfl, Nat.le_of_ble_eq_true rfl, Nat.le_of_ble_eq_true rfl⟩ dX6_pass_5 (fun r1 V2 hz_3 => ?_)
  refine gG_ret hz_3.1 hz_3.2 ?_
  refine gG_st [.int (if inB x 1 200 then 1 else 0)] rfl ?_
  by_cases hP : inB x 1 200
  · refine gG_top 1 (if_pos (hP)) ?_
    refine g_if_ne X 21 (by decide) dX6_pass_8 (fun c4 => ?_) (fun c4 => ?_)
    · obtain ⟨j, j1, j2, jx⟩ := (inB_iff (a := 1) (n := 200) (by decide) (by decide)).mp hP
      subst jx
      refine g_aload_n X 0 rfl dX6_pass_21 ?_
      refine gg_X6_bridge X ⟨by decide, by decide⟩ fX6_23 dX6_pass_22 ?_
      refine g_iload_n X 1 rfl dX6_pass_25 ?_
      refine g_callV X hR (rest := []) mX0_run lX6_212 (k_run hI V 0 w.1 j (by decide) hQ.1 hw.1 (by omega)) rfl rfl (Nat.le_of_ble_eq_true rfl) ⟨by decide, by decide⟩ rfl rfl rfl ⟨Nat.le_of_ble_eq_true rfl, Nat.le_of_ble_eq_true rfl, Nat.le_of_ble_eq_true rfl, Nat.le_of_ble_eq_true rfl⟩ dX6_pass_26 (fun r5 V6 hz_7 => ?_)
      refine gG_rv hz_7.1 ?_
      obtain ⟨-, haV6, hbV6⟩ := hz_7
      refine gG_st [.int (nI (sRun j w.1).2)] rfl ?_
      refine g_iret X F ?_ rfl dX6_pass_29
      rw [show oPass w (nI j) = (0, nI (sRun j w.1).2, ((sRun j w.1).1, w.2)) from by unfold oPass; rw [if_pos hP, nI_clamp (by omega)]]
      exact ⟨rfl, rfl, hQ.br hbV6 haV6, hN.br hbV6 haV6, hbV6.cm⟩
    ·  exact absurd c4 (by decide)
  · refine gG_top 0 (if_neg (hP)) ?_
    refine g_if_ne X 21 (by decide) dX6_pass_8 (fun c8 => ?_) (fun c8 => ?_)
    ·  exact absurd c8 (by decide)
    · exact absurd v1 hP

abbrev rmX6_count : Room := { frames := 4, cells := 0, slots := 0, locals := 87 }
set_option maxRecDepth 20000 in
theorem p_count {l : Launch} {B : gB} (hI : gI B) (V : gMem) (w : gWd) (x : Int32) (hQ : COk V w) (hw : wOk w) (hN : N15 V) (v1 : ixB x 11) : gM l B yX6_count cX6_count 2 (some .int) rmX6_count [.ref (B.2.1 0 0 0), .int x] V (opo w (oCount w x) V) := by
  refine gM_of (own := RX6) (L := [(0, .ref (B.2.1 0 0 0)), (1, .int x)]) (by decide +kernel) rfl hI (Nat.le_of_ble_eq_true rfl) rfl ?_
  intro Z hnL hR X F
  refine g_iload_n X 1 rfl dX6_count_0 ?_
  refine g_bipush X 11 (by decide) dX6_count_1 ?_
  refine g_callS X hR (As := [.int x, .int 11]) (rest := []) mX6_isIndex lX6_68 (k_isIndexD hI V x 11 ) rfl rfl (Nat.le_of_ble_eq_true rfl) ⟨Nat.le_of_ble_eq_true rfl, Nat.le_of_ble_eq_true rfl, Nat.le_of_ble_eq_true rfl, Nat.le_of_ble_eq_true rfl⟩ dX6_count_3 (fun r1 V2 hz_3 => ?_)
  refine gG_ret hz_3.1 hz_3.2 ?_
  refine gG_st [.int (if ixB x 11 then 1 else 0)] rfl ?_
  by_cases hP : ixB x 11
  · refine gG_top 1 (if_pos (hP)) ?_
    refine g_if_ne X 19 (by decide) dX6_count_6 (fun c4 => ?_) (fun c4 => ?_)
    · obtain ⟨j, j1, jx⟩ := (ixB_iff (n := 11) (by first | decide | omega)).mp hP
      subst jx
      refine g_aload_n X 0 rfl dX6_count_19 ?_
      refine g_iload_n X 1 rfl dX6_count_20 ?_
      refine g_callV X hR (rest := []) mX6_countOf lX6_217 (k_countOf hI V w j hQ hw j1) rfl rfl (Nat.le_of_ble_eq_true rfl) ⟨by decide, by decide⟩ rfl rfl rfl ⟨Nat.le_of_ble_eq_true rfl, Nat.le_of_ble_eq_true rfl, Nat.le_of_ble_eq_true rfl, Nat.le_of_ble_eq_true rfl⟩ dX6_count_21 (fun r5 V6 hz_7 => ?_)
      refine gG_ret hz_7.1 hz_7.2 ?_
      refine gG_st [.int (cntV w j)] rfl ?_
      refine g_iret X F ?_ rfl dX6_count_24
      rw [show oCount w (nI j) = (0, cntV w j, w) from by unfold oCount; rw [if_pos hP, nI_clamp (by omega)]]
      exact ⟨rfl, rfl, hQ, hN, cmod.rf⟩
    ·  exact absurd c4 (by decide)
  · refine gG_top 0 (if_neg (hP)) ?_
    refine g_if_ne X 19 (by decide) dX6_count_6 (fun c8 => ?_) (fun c8 => ?_)
    ·  exact absurd c8 (by decide)
    · exact absurd v1 hP
