/-! THE LAW'S BRIDGE, as cells choose it -/
/-- a bridge with n carts that nothing was done to -/
def Bst (S : gSt) (n : Nat) : Prop := S.1 0 = 0 ∧ S.1 6 = n ∧ (∀ i, i < n → S.2.2.2.1 i 7 = 0 ∧ S.2.2.2.1 i 8 = 0) ∧ (∀ e k, S.2.2.1 e k = 0) ∧ S.2.1 2 = [] ∧ (∀ i, i < n → S.2.2.2.2 i = -1)
theorem Bst.new {S : gSt} {n e : Nat} (h : Bst S n) (he : e < 2) (x g s c k : Nat) : Bst (sNew S e x g s c k) (n + 1) := by
  obtain ⟨h0, h6, h7, hg, h2, ho⟩ := h
  refine ⟨h0, by show S.1 6 + 1 = n + 1; rw [h6], fun i hi => ?_, hg, ?_, fun i hi => ?_⟩
  · show (if i = S.1 6 then nwC e x g s c k 7 else S.2.2.2.1 i 7) = 0 ∧ (if i = S.1 6 then nwC e x g s c k 8 else S.2.2.2.1 i 8) = 0
    by_cases q : i = S.1 6
    · rw [if_pos q, if_pos q]; exact ⟨rfl, rfl⟩
    · rw [if_neg q, if_neg q]; exact h7 i (by omega)
  · show (if 2 = e then S.2.1 e ++ [S.1 6] else S.2.1 2) = []
    rw [if_neg (by omega)]; exact h2
  · show (if i = S.1 6 then (-1 : Int32) else S.2.2.2.2 i) = -1
    by_cases q : i = S.1 6
    · rw [if_pos q]
    · rw [if_neg q]; exact ho i (by omega)
theorem vOk_come {w : gWd} {e x g s c k : Nat} (h : vOk w) (hn : w.1.1 6 < 16) (he : e < 2) (hx1 : 1 ≤ x) (hx2 : x ≤ 4) (hg1 : 1 ≤ g) (hg2 : g ≤ 200) (hs1 : 1 ≤ s) (hs2 : s ≤ 3) (hc : c ≤ 100) (hk : k ≤ 1) : vOk (sNew w.1 e x g s c k, w.2) := by
  have z := h.come (nI e) (nI x) (nI g) (nI s) (nI c) hk
  rw [show oCome w (nI e) (nI x) (nI g) (nI s) (nI c) (nI k) = (0, nI (w.1.1 6), (sNew w.1 e x g s c k, w.2)) from by unfold oCome; rw [if_pos ⟨ix_n he (by decide), in_n hx1 hx2 (by decide), in_n hg1 hg2 (by decide), in_n hs1 hs2 (by decide), in_n (Nat.zero_le c) hc (by decide)⟩, if_neg (by omega), nI_clamp (by omega), nI_clamp (by omega), nI_clamp (by omega), nI_clamp (by omega), nI_clamp (by omega), nI_clamp (by omega)]] at z
  exact z
abbrev rmL_bridge : Room := { frames := 6, cells := 83, slots := 858, locals := 110 }
set_option maxRecDepth 20000 in
set_option maxHeartbeats 1000000 in
theorem br_walk {Z : gZ} {B : gB} {b L : Nat} {xs : Nat → Int32} (X : gX Z B cL_bridge RL) (SC : gSC Z B b L xs) (hR : gRm Z = rmL_bridge) (hnL : gnL Z = 5) (hLb : L ≤ 260) {V : gMem} {w : gWd} {a : Nat → Nat → Int32} (hL : gLS V w a) (hv : vOk w) (hB : Bst w.1 0)
    (fin : ∀ (V : gMem) (w : gWd) (N : Nat) (L' : List (Nat × Value)), gLS V w a → vOk w → 1 ≤ N → Bst w.1 N → gG Z B (83, 858) V 234 L' [.ref (B.2.1 0 0 0)]) : gG Z B (83, 858) V 8 [(0, .ref b), (1, .ref (B.2.1 0 0 0))] [] := by
  have hI := gX_I X
  refine g_aload_n X 1 rfl dL_bridge_8 ?_
  refine g_iconst X (nI 4) (by decide) dL_bridge_9 ?_
  refine g_aload_n X 0 rfl dL_bridge_10 ?_
  refine g_iconst X (nI 0) (by decide) dL_bridge_11 ?_
  refine g_callCell X SC (by omega) hR (k := 0) (by omega) (Nat.le_of_ble_eq_true rfl) ⟨Nat.le_of_ble_eq_true rfl, Nat.le_of_ble_eq_true rfl, Nat.le_of_ble_eq_true rfl, Nat.le_of_ble_eq_true rfl⟩ dL_bridge_12 (fun x1 => ?_)
  refine g_aload_n X 0 rfl dL_bridge_15 ?_
  refine g_iconst X (nI 0) (by decide) dL_bridge_16 ?_
  refine g_callCell X SC (by omega) hR (k := 0) (by omega) (Nat.le_of_ble_eq_true rfl) ⟨Nat.le_of_ble_eq_true rfl, Nat.le_of_ble_eq_true rfl, Nat.le_of_ble_eq_true rfl, Nat.le_of_ble_eq_true rfl⟩ dL_bridge_17 (fun x2 => ?_)
  refine g_bipush X (nI 8) (by decide) dL_bridge_20 ?_
  refine g_ishr X dL_bridge_22 ?_
  refine g_iconst X (nI 2) (by decide) dL_bridge_23 ?_
  refine g_callS X hR (As := [.int (x2 >>> ((nI 8) &&& 31)), .int (nI 2)]) (rest := [.int x1, .int (nI 4), .ref (B.2.1 0 0 0)]) mL_below lL_18 (k_below hI V (x2 >>> ((nI 8) &&& 31)) 2 (by first | assumption | decide | omega) (by first | assumption | decide | omega)) rfl rfl (Nat.le_of_ble_eq_true rfl) ⟨Nat.le_of_ble_eq_true rfl, Nat.le_of_ble_eq_true rfl, Nat.le_of_ble_eq_true rfl, Nat.le_of_ble_eq_true rfl⟩ dL_bridge_24 (fun r3 V4 hz_5 => ?_)
  obtain ⟨⟨j6, hj6, qj6⟩, zj6⟩ := hz_5
  refine gG_ret qj6 zj6 ?_
  refine gG_n (83, 858) rfl ?_
  refine gG_st [.int (nI j6), .int x1, .int (nI 4), .ref (B.2.1 0 0 0)] rfl ?_
  have j37 : ∀ kk : Nat, 0 < kk → kk ≤ 27 → gG Z B (83, 858) V 37 [(0, .ref b), (1, .ref (B.2.1 0 0 0))] [.int (nI kk), .int x1, .int (nI 4), .ref (B.2.1 0 0 0)] := by
    intro kk kk0 kk1
    refine g_callS X hR (As := [.int x1, .int (nI kk)]) (rest := [.int (nI 4), .ref (B.2.1 0 0 0)]) mL_below lL_18 (k_below hI V x1 kk (by first | assumption | decide | omega) (by first | assumption | decide | omega)) rfl rfl (Nat.le_of_ble_eq_true rfl) ⟨Nat.le_of_ble_eq_true rfl, Nat.le_of_ble_eq_true rfl, Nat.le_of_ble_eq_true rfl, Nat.le_of_ble_eq_true rfl⟩ dL_bridge_37 (fun r7 V8 hz_9 => ?_)
    obtain ⟨⟨j10, hj10, qj10⟩, zj10⟩ := hz_9
    refine gG_ret qj10 zj10 ?_
    refine gG_n (83, 858) rfl ?_
    refine gG_st [.int (nI j10), .int (nI 4), .ref (B.2.1 0 0 0)] rfl ?_
    refine g_iadd X dL_bridge_40 ?_
    refine gG_top (nI (4 + j10)) (nI_add 4 j10) ?_
    refine g_aload_n X 0 rfl dL_bridge_41 ?_
    refine g_iconst X (nI 1) (by decide) dL_bridge_42 ?_
    refine g_callCell X SC (by omega) hR (k := 1) (by omega) (Nat.le_of_ble_eq_true rfl) ⟨Nat.le_of_ble_eq_true rfl, Nat.le_of_ble_eq_true rfl, Nat.le_of_ble_eq_true rfl, Nat.le_of_ble_eq_true rfl⟩ dL_bridge_43 (fun x11 => ?_)
    refine g_iconst X (nI 2) (by decide) dL_bridge_46 ?_
    refine g_callS X hR (As := [.int x11, .int (nI 2)]) (rest := [.int (nI (4 + j10)), .ref (B.2.1 0 0 0)]) mL_below lL_18 (k_below hI V x11 2 (by first | assumption | decide | omega) (by first | assumption | decide | omega)) rfl rfl (Nat.le_of_ble_eq_true rfl) ⟨Nat.le_of_ble_eq_true rfl, Nat.le_of_ble_eq_true rfl, Nat.le_of_ble_eq_true rfl, Nat.le_of_ble_eq_true rfl⟩ dL_bridge_47 (fun r12 V13 hz_14 => ?_)
    obtain ⟨⟨j15, hj15, qj15⟩, zj15⟩ := hz_14
    refine gG_ret qj15 zj15 ?_
    refine gG_n (83, 858) rfl ?_
    refine gG_st [.int (nI j15), .int (nI (4 + j10)), .ref (B.2.1 0 0 0)] rfl ?_
    have j75 : ∀ qq : Nat, 10 ≤ qq → qq ≤ 500 → gG Z B (83, 858) V 75 [(0, .ref b), (1, .ref (B.2.1 0 0 0))] [.int (nI qq), .int (nI (4 + j10)), .ref (B.2.1 0 0 0)] := by
      intro qq qq0 qq1
      refine g_callV X hR (rest := []) mX6_rebuild lL_22 (c_rebuild hI V w a (4 + j10) qq hL hv.1 (by first | assumption | decide | omega) (by first | assumption | decide | omega) (by first | assumption | decide | omega) (by first | assumption | decide | omega) hB.2.2.2.2.1) rfl rfl (Nat.le_of_ble_eq_true rfl) ⟨by decide, by decide⟩ rfl rfl rfl ⟨Nat.le_of_ble_eq_true rfl, Nat.le_of_ble_eq_true rfl, Nat.le_of_ble_eq_true rfl, Nat.le_of_ble_eq_true rfl⟩ dL_bridge_75 (fun r16 V17 hz_18 => ?_)
      refine gG_rv hz_18.1 ?_
      have hL19 := hz_18.2
      refine gG_n (83, 858) rfl ?_
      have hvw20 : vOk (sPB w.1 (4 + j10) qq, w.2) := ⟨⟨hv.1.1.build hB.2.2.2.2.1 ⟨by omega, by omega⟩ (by omega), hv.1.2⟩, hv.2⟩
      have hBw20 : Bst ((sPB w.1 (4 + j10) qq, w.2) : gWd).1 0 := hB
      generalize (sPB w.1 (4 + j10) qq, w.2) = w20 at hL19 hvw20 hBw20
      refine gG_st [.int (nI (w.1.1 3))] rfl ?_
      refine g_pop X rfl dL_bridge_78 ?_
      refine g_aload_n X 1 rfl dL_bridge_79 ?_
      refine g_aload_n X 0 rfl dL_bridge_80 ?_
      refine g_iconst X (nI 2) (by decide) dL_bridge_81 ?_
      refine g_callCell X SC (by omega) hR (k := 2) (by omega) (Nat.le_of_ble_eq_true rfl) ⟨Nat.le_of_ble_eq_true rfl, Nat.le_of_ble_eq_true rfl, Nat.le_of_ble_eq_true rfl, Nat.le_of_ble_eq_true rfl⟩ dL_bridge_82 (fun x21 => ?_)
      refine g_bipush X (nI 10) (by decide) dL_bridge_85 ?_
      refine g_callS X hR (As := [.int x21, .int (nI 10)]) (rest := [.ref (B.2.1 0 0 0)]) mL_below lL_18 (k_below hI V17 x21 10 (by first | assumption | decide | omega) (by first | assumption | decide | omega)) rfl rfl (Nat.le_of_ble_eq_true rfl) ⟨Nat.le_of_ble_eq_true rfl, Nat.le_of_ble_eq_true rfl, Nat.le_of_ble_eq_true rfl, Nat.le_of_ble_eq_true rfl⟩ dL_bridge_87 (fun r22 V23 hz_24 => ?_)
      obtain ⟨⟨j25, hj25, qj25⟩, zj25⟩ := hz_24
      refine gG_ret qj25 zj25 ?_
      refine gG_n (83, 858) rfl ?_
      refine gG_st [.int (nI j25), .ref (B.2.1 0 0 0)] rfl ?_
      refine g_aload_n X 0 rfl dL_bridge_90 ?_
      refine g_iconst X (nI 2) (by decide) dL_bridge_91 ?_
      refine g_callCell X SC (by omega) hR (k := 2) (by omega) (Nat.le_of_ble_eq_true rfl) ⟨Nat.le_of_ble_eq_true rfl, Nat.le_of_ble_eq_true rfl, Nat.le_of_ble_eq_true rfl, Nat.le_of_ble_eq_true rfl⟩ dL_bridge_92 (fun x26 => ?_)
      refine g_iconst X (nI 4) (by decide) dL_bridge_95 ?_
      refine g_ishr X dL_bridge_96 ?_
      refine g_iconst X (nI 4) (by decide) dL_bridge_97 ?_
      refine g_callS X hR (As := [.int (x26 >>> ((nI 4) &&& 31)), .int (nI 4)]) (rest := [.int (nI j25), .ref (B.2.1 0 0 0)]) mL_below lL_18 (k_below hI V17 (x26 >>> ((nI 4) &&& 31)) 4 (by first | assumption | decide | omega) (by first | assumption | decide | omega)) rfl rfl (Nat.le_of_ble_eq_true rfl) ⟨Nat.le_of_ble_eq_true rfl, Nat.le_of_ble_eq_true rfl, Nat.le_of_ble_eq_true rfl, Nat.le_of_ble_eq_true rfl⟩ dL_bridge_98 (fun r27 V28 hz_29 => ?_)
      obtain ⟨⟨j30, hj30, qj30⟩, zj30⟩ := hz_29
      refine gG_ret qj30 zj30 ?_
      refine gG_n (83, 858) rfl ?_
      refine gG_st [.int (nI j30), .int (nI j25), .ref (B.2.1 0 0 0)] rfl ?_
      refine g_callV X hR (rest := []) mX6_setToll lL_25 (c_setToll hI V17 w20 a j25 j30 hL19 hvw20.1 (by first | assumption | decide | omega) (by first | assumption | decide | omega)) rfl rfl (Nat.le_of_ble_eq_true rfl) ⟨by decide, by decide⟩ rfl rfl rfl ⟨Nat.le_of_ble_eq_true rfl, Nat.le_of_ble_eq_true rfl, Nat.le_of_ble_eq_true rfl, Nat.le_of_ble_eq_true rfl⟩ dL_bridge_101 (fun r31 V32 hz_33 => ?_)
      refine gG_rv hz_33.1 ?_
      have hL34 := hz_33.2
      refine gG_n (83, 858) rfl ?_
      have hvw35 : vOk (sN (sN w20.1 4 j25) 5 j30, w20.2) := ⟨⟨hvw20.1.1.toll (by omega) (by omega), hvw20.1.2⟩, hvw20.2⟩
      have hBw35 : Bst ((sN (sN w20.1 4 j25) 5 j30, w20.2) : gWd).1 0 := hBw20
      generalize (sN (sN w20.1 4 j25) 5 j30, w20.2) = w35 at hL34 hvw35 hBw35
      refine gG_st [.int (nI (10 * w20.1.1 4 + w20.1.1 5))] rfl ?_
      refine g_pop X rfl dL_bridge_104 ?_
      refine g_iconst X (nI 1) (by decide) dL_bridge_105 ?_
      refine g_aload_n X 0 rfl dL_bridge_106 ?_
      refine g_iconst X (nI 3) (by decide) dL_bridge_107 ?_
      refine g_callCell X SC (by omega) hR (k := 3) (by omega) (Nat.le_of_ble_eq_true rfl) ⟨Nat.le_of_ble_eq_true rfl, Nat.le_of_ble_eq_true rfl, Nat.le_of_ble_eq_true rfl, Nat.le_of_ble_eq_true rfl⟩ dL_bridge_108 (fun x36 => ?_)
      refine g_bipush X (nI 16) (by decide) dL_bridge_111 ?_
      refine g_callS X hR (As := [.int x36, .int (nI 16)]) (rest := [.int (nI 1)]) mL_below lL_18 (k_below hI V32 x36 16 (by first | assumption | decide | omega) (by first | assumption | decide | omega)) rfl rfl (Nat.le_of_ble_eq_true rfl) ⟨Nat.le_of_ble_eq_true rfl, Nat.le_of_ble_eq_true rfl, Nat.le_of_ble_eq_true rfl, Nat.le_of_ble_eq_true rfl⟩ dL_bridge_113 (fun r37 V38 hz_39 => ?_)
      obtain ⟨⟨j40, hj40, qj40⟩, zj40⟩ := hz_39
      refine gG_ret qj40 zj40 ?_
      refine gG_n (83, 858) rfl ?_
      refine gG_st [.int (nI j40), .int (nI 1)] rfl ?_
      refine g_iadd X dL_bridge_116 ?_
      refine gG_top (nI (1 + j40)) (nI_add 1 j40) ?_
      refine g_istore_n X rfl dL_bridge_117 [(2, .int (nI (1 + j40))), (0, .ref b), (1, .ref (B.2.1 0 0 0))] rfl (gnl_lt hnL (by decide)) ?_
      obtain ⟨N, hN⟩ : ∃ N, N = 1 + j40 := ⟨_, rfl⟩
      refine gG_Le [(2, .int (nI N)), (0, .ref b), (1, .ref (B.2.1 0 0 0))] (by rw [hN]) ?_
      refine g_iconst X (nI 0) (by decide) dL_bridge_118 ?_
      refine g_istore_n X rfl dL_bridge_119 [(3, .int (nI 0)), (2, .int (nI N)), (0, .ref b), (1, .ref (B.2.1 0 0 0))] rfl (gnl_lt hnL (by decide)) ?_
      refine gG_L [2, 3, 1, 0] (L' := [(0, .ref b), (1, .ref (B.2.1 0 0 0)), (2, .int (nI N)), (3, .int (nI 0))]) rfl ?_
      have lp : ∀ (f c : Nat) (V : gMem) (w : gWd), c + f = N → gLS V w a → vOk w → Bst w.1 c → gG Z B (83, 858) V 120 [(0, .ref b), (1, .ref (B.2.1 0 0 0)), (2, .int (nI N)), (3, .int (nI c))] [] := by
        intro f
        induction f with
        | zero =>
          intro c V w hcf hL hv hB
          refine g_iload_n X 3 rfl dL_bridge_120 ?_
          refine g_iload_n X 2 rfl dL_bridge_121 ?_
          refine g_icmp_ge X 233 (by decide) dL_bridge_122 (fun c41 => ?_) (fun c41 => ?_)
          · refine g_aload_n X 1 rfl dL_bridge_233 ?_
            exact fin V w N _ hL hv (by omega) (by rw [show N = c by omega]; exact hB)
          · first | exact absurd (nI_le (by omega) (by omega)) c41 | exact absurd c41 (nI_le (by omega) (by omega))
        | succ f ih =>
          intro c V w hcf hL hv hB
          refine g_iload_n X 3 rfl dL_bridge_120 ?_
          refine g_iload_n X 2 rfl dL_bridge_121 ?_
          refine g_icmp_ge X 233 (by decide) dL_bridge_122 (fun c42 => ?_) (fun c42 => ?_)
          · first | exact absurd (nI_ge (by omega) (by omega)) c42 | exact absurd c42 (nI_ge (by omega) (by omega))
          · refine g_aload_n X 0 rfl dL_bridge_125 ?_
            refine g_iconst X (nI 4) (by decide) dL_bridge_126 ?_
            refine g_iload_n X 3 rfl dL_bridge_127 ?_
            refine g_iconst X (nI 5) (by decide) dL_bridge_128 ?_
            refine g_irem X (by decide) dL_bridge_129 ?_
            refine gG_top (nI (c % 5)) (pk_rem (d := 5) (by omega) (by decide) (by decide)) ?_
            refine g_iadd X dL_bridge_130 ?_
            refine gG_top (nI (4 + (c % 5))) (nI_add 4 (c % 5)) ?_
            refine g_callCell X SC (by omega) hR (k := (4 + (c % 5))) (by omega) (Nat.le_of_ble_eq_true rfl) ⟨Nat.le_of_ble_eq_true rfl, Nat.le_of_ble_eq_true rfl, Nat.le_of_ble_eq_true rfl, Nat.le_of_ble_eq_true rfl⟩ dL_bridge_131 (fun x43 => ?_)
            refine g_iload_n X 3 rfl dL_bridge_134 ?_
            refine g_iconst X (nI 5) (by decide) dL_bridge_135 ?_
            refine g_idiv X (by decide) dL_bridge_136 ?_
            refine gG_top (nI (c / 5)) (pk_div (d := 5) (by omega) (by decide) (by decide)) ?_
            refine g_iconst X (nI 5) (by decide) dL_bridge_137 ?_
            refine g_imul X dL_bridge_138 ?_
            refine gG_top (nI ((c / 5) * 5)) (pk_mul (c / 5) 5) ?_
            refine g_ishr X dL_bridge_139 ?_
            refine gG_nmi (fun x _ => ?_)
            refine g_istore X dL_bridge_140 [(4, .int x), (0, .ref b), (1, .ref (B.2.1 0 0 0)), (2, .int (nI N)), (3, .int (nI c))] rfl (gnl_lt hnL (by decide)) ?_
            refine g_aload_n X 2 rfl dL_bridge_142 ?_
            refine g_iload X 0 rfl dL_bridge_143 ?_
            refine g_iconst X (nI 2) (by decide) dL_bridge_145 ?_
            refine g_callS X hR (As := [.int x, .int (nI 2)]) (rest := [.ref (B.2.1 0 0 0)]) mL_below lL_18 (k_below hI V x 2 (by first | assumption | decide | omega) (by first | assumption | decide | omega)) rfl rfl (Nat.le_of_ble_eq_true rfl) ⟨Nat.le_of_ble_eq_true rfl, Nat.le_of_ble_eq_true rfl, Nat.le_of_ble_eq_true rfl, Nat.le_of_ble_eq_true rfl⟩ dL_bridge_146 (fun r44 V45 hz_46 => ?_)
            obtain ⟨⟨j47, hj47, qj47⟩, zj47⟩ := hz_46
            refine gG_ret qj47 zj47 ?_
            refine gG_n (83, 858) rfl ?_
            refine gG_st [.int (nI j47), .ref (B.2.1 0 0 0)] rfl ?_
            refine g_iconst X (nI 1) (by decide) dL_bridge_149 ?_
            refine g_iload X 0 rfl dL_bridge_150 ?_
            refine g_iconst X (nI 1) (by decide) dL_bridge_152 ?_
            refine g_ishr X dL_bridge_153 ?_
            refine g_iconst X (nI 4) (by decide) dL_bridge_154 ?_
            refine g_callS X hR (As := [.int (x >>> ((nI 1) &&& 31)), .int (nI 4)]) (rest := [.int (nI 1), .int (nI j47), .ref (B.2.1 0 0 0)]) mL_below lL_18 (k_below hI V (x >>> ((nI 1) &&& 31)) 4 (by first | assumption | decide | omega) (by first | assumption | decide | omega)) rfl rfl (Nat.le_of_ble_eq_true rfl) ⟨Nat.le_of_ble_eq_true rfl, Nat.le_of_ble_eq_true rfl, Nat.le_of_ble_eq_true rfl, Nat.le_of_ble_eq_true rfl⟩ dL_bridge_155 (fun r48 V49 hz_50 => ?_)
            obtain ⟨⟨j51, hj51, qj51⟩, zj51⟩ := hz_50
            refine gG_ret qj51 zj51 ?_
            refine gG_n (83, 858) rfl ?_
            refine gG_st [.int (nI j51), .int (nI 1), .int (nI j47), .ref (B.2.1 0 0 0)] rfl ?_
            refine g_iadd X dL_bridge_158 ?_
            refine gG_top (nI (1 + j51)) (nI_add 1 j51) ?_
            refine g_iconst X (nI 1) (by decide) dL_bridge_159 ?_
            refine g_iload X 0 rfl dL_bridge_160 ?_
            refine g_iconst X (nI 3) (by decide) dL_bridge_162 ?_
            refine g_ishr X dL_bridge_163 ?_
            refine g_sipush X (nI 200) (by decide) dL_bridge_164 ?_
            refine g_callS X hR (As := [.int (x >>> ((nI 3) &&& 31)), .int (nI 200)]) (rest := [.int (nI 1), .int (nI (1 + j51)), .int (nI j47), .ref (B.2.1 0 0 0)]) mL_below lL_18 (k_below hI V (x >>> ((nI 3) &&& 31)) 200 (by first | assumption | decide | omega) (by first | assumption | decide | omega)) rfl rfl (Nat.le_of_ble_eq_true rfl) ⟨Nat.le_of_ble_eq_true rfl, Nat.le_of_ble_eq_true rfl, Nat.le_of_ble_eq_true rfl, Nat.le_of_ble_eq_true rfl⟩ dL_bridge_167 (fun r52 V53 hz_54 => ?_)
            obtain ⟨⟨j55, hj55, qj55⟩, zj55⟩ := hz_54
            refine gG_ret qj55 zj55 ?_
            refine gG_n (83, 858) rfl ?_
            refine gG_st [.int (nI j55), .int (nI 1), .int (nI (1 + j51)), .int (nI j47), .ref (B.2.1 0 0 0)] rfl ?_
            refine g_iadd X dL_bridge_170 ?_
            refine gG_top (nI (1 + j55)) (nI_add 1 j55) ?_
            refine g_iconst X (nI 1) (by decide) dL_bridge_171 ?_
            refine g_iload X 0 rfl dL_bridge_172 ?_
            refine g_iconst X (nI 5) (by decide) dL_bridge_174 ?_
            refine g_ishr X dL_bridge_175 ?_
            refine g_iconst X (nI 3) (by decide) dL_bridge_176 ?_
            refine g_callS X hR (As := [.int (x >>> ((nI 5) &&& 31)), .int (nI 3)]) (rest := [.int (nI 1), .int (nI (1 + j55)), .int (nI (1 + j51)), .int (nI j47), .ref (B.2.1 0 0 0)]) mL_below lL_18 (k_below hI V (x >>> ((nI 5) &&& 31)) 3 (by first | assumption | decide | omega) (by first | assumption | decide | omega)) rfl rfl (Nat.le_of_ble_eq_true rfl) ⟨Nat.le_of_ble_eq_true rfl, Nat.le_of_ble_eq_true rfl, Nat.le_of_ble_eq_true rfl, Nat.le_of_ble_eq_true rfl⟩ dL_bridge_177 (fun r56 V57 hz_58 => ?_)
            obtain ⟨⟨j59, hj59, qj59⟩, zj59⟩ := hz_58
            refine gG_ret qj59 zj59 ?_
            refine gG_n (83, 858) rfl ?_
            refine gG_st [.int (nI j59), .int (nI 1), .int (nI (1 + j55)), .int (nI (1 + j51)), .int (nI j47), .ref (B.2.1 0 0 0)] rfl ?_
            refine g_iadd X dL_bridge_180 ?_
            refine gG_top (nI (1 + j59)) (nI_add 1 j59) ?_
            refine g_iload X 0 rfl dL_bridge_181 ?_
            refine g_iconst X (nI 4) (by decide) dL_bridge_183 ?_
            refine g_ishr X dL_bridge_184 ?_
            refine g_iconst X (nI 4) (by decide) dL_bridge_185 ?_
            refine g_callS X hR (As := [.int (x >>> ((nI 4) &&& 31)), .int (nI 4)]) (rest := [.int (nI (1 + j59)), .int (nI (1 + j55)), .int (nI (1 + j51)), .int (nI j47), .ref (B.2.1 0 0 0)]) mL_below lL_18 (k_below hI V (x >>> ((nI 4) &&& 31)) 4 (by first | assumption | decide | omega) (by first | assumption | decide | omega)) rfl rfl (Nat.le_of_ble_eq_true rfl) ⟨Nat.le_of_ble_eq_true rfl, Nat.le_of_ble_eq_true rfl, Nat.le_of_ble_eq_true rfl, Nat.le_of_ble_eq_true rfl⟩ dL_bridge_186 (fun r60 V61 hz_62 => ?_)
            obtain ⟨⟨j63, hj63, qj63⟩, zj63⟩ := hz_62
            refine gG_ret qj63 zj63 ?_
            refine gG_n (83, 858) rfl ?_
            refine gG_st [.int (nI j63), .int (nI (1 + j59)), .int (nI (1 + j55)), .int (nI (1 + j51)), .int (nI j47), .ref (B.2.1 0 0 0)] rfl ?_
            have j207 : ∀ cc : Nat, cc ≤ 100 → gG Z B (83, 858) V 207 [(4, .int x), (0, .ref b), (1, .ref (B.2.1 0 0 0)), (2, .int (nI N)), (3, .int (nI c))] [.int (nI cc), .int (nI (1 + j59)), .int (nI (1 + j55)), .int (nI (1 + j51)), .int (nI j47), .ref (B.2.1 0 0 0)] := by
              intro cc cc1
              refine g_iload X 0 rfl dL_bridge_207 ?_
              refine g_iconst X (nI 2) (by decide) dL_bridge_209 ?_
              refine g_ishr X dL_bridge_210 ?_
              refine g_iconst X (nI 3) (by decide) dL_bridge_211 ?_
              refine g_callS X hR (As := [.int (x >>> ((nI 2) &&& 31)), .int (nI 3)]) (rest := [.int (nI cc), .int (nI (1 + j59)), .int (nI (1 + j55)), .int (nI (1 + j51)), .int (nI j47), .ref (B.2.1 0 0 0)]) mL_below lL_18 (k_below hI V (x >>> ((nI 2) &&& 31)) 3 (by first | assumption | decide | omega) (by first | assumption | decide | omega)) rfl rfl (Nat.le_of_ble_eq_true rfl) ⟨Nat.le_of_ble_eq_true rfl, Nat.le_of_ble_eq_true rfl, Nat.le_of_ble_eq_true rfl, Nat.le_of_ble_eq_true rfl⟩ dL_bridge_212 (fun r64 V65 hz_66 => ?_)
              obtain ⟨⟨j67, hj67, qj67⟩, zj67⟩ := hz_66
              refine gG_ret qj67 zj67 ?_
              refine gG_n (83, 858) rfl ?_
              refine gG_st [.int (nI j67), .int (nI cc), .int (nI (1 + j59)), .int (nI (1 + j55)), .int (nI (1 + j51)), .int (nI j47), .ref (B.2.1 0 0 0)] rfl ?_
              have j223 : ∀ ch : Nat, ch ≤ 1 → gG Z B (83, 858) V 223 [(4, .int x), (0, .ref b), (1, .ref (B.2.1 0 0 0)), (2, .int (nI N)), (3, .int (nI c))] [.int (nI ch), .int (nI cc), .int (nI (1 + j59)), .int (nI (1 + j55)), .int (nI (1 + j51)), .int (nI j47), .ref (B.2.1 0 0 0)] := by
                intro ch ch1
                refine g_callV X hR (rest := []) mX6_come lL_28 (c_come hI V w a j47 (1 + j51) (1 + j55) (1 + j59) cc ch hL hv.1 hv.2 (by first | assumption | decide | omega) (by first | assumption | decide | omega) (by first | assumption | decide | omega) (by first | assumption | decide | omega) (by first | assumption | decide | omega) (by first | assumption | decide | omega) (by first | assumption | decide | omega) (by first | assumption | decide | omega) (by first | assumption | decide | omega) (by rw [hB.2.1]; omega)) rfl rfl (Nat.le_of_ble_eq_true rfl) ⟨by decide, by decide⟩ rfl rfl rfl ⟨Nat.le_of_ble_eq_true rfl, Nat.le_of_ble_eq_true rfl, Nat.le_of_ble_eq_true rfl, Nat.le_of_ble_eq_true rfl⟩ dL_bridge_223 (fun r68 V69 hz_70 => ?_)
                refine gG_rv hz_70.1 ?_
                have hL71 := hz_70.2
                refine gG_n (83, 858) rfl ?_
                have hvw72 : vOk (sNew w.1 j47 (1 + j51) (1 + j55) (1 + j59) cc ch, w.2) := vOk_come hv (by rw [hB.2.1]; omega) (by omega) (by omega) (by omega) (by omega) (by omega) (by omega) (by omega) (by omega) (by omega)
                have hBw72 : Bst ((sNew w.1 j47 (1 + j51) (1 + j55) (1 + j59) cc ch, w.2) : gWd).1 (c + 1) := hB.new (by omega) _ _ _ _ _
                generalize (sNew w.1 j47 (1 + j51) (1 + j55) (1 + j59) cc ch, w.2) = w72 at hL71 hvw72 hBw72
                refine gG_st [.int (nI (w.1.1 6))] rfl ?_
                refine g_pop X rfl dL_bridge_226 ?_
                refine g_iinc X 4 rfl (nI (c + 1)) (iinc_1 _) dL_bridge_227 [(3, .int (nI (c + 1))), (4, .int x), (0, .ref b), (1, .ref (B.2.1 0 0 0)), (2, .int (nI N))] rfl (gnl_lt hnL (by decide)) ?_
                refine g_goto X 120 (by decide) dL_bridge_230 ?_
                refine gG_L [2, 3, 4, 0] (L' := [(0, .ref b), (1, .ref (B.2.1 0 0 0)), (2, .int (nI N)), (3, .int (nI (c + 1)))]) rfl ?_
                exact ih (c + 1) V69 w72 (by omega) hL71 hvw72 hBw72
              by_cases hz215 : j67 = 0
              · skip
                refine g_if_ne X 222 (by decide) dL_bridge_215 (fun c73 => ?_) (fun c73 => ?_)
                · first | exact absurd (by rw [hz215]; exact rfl) c73 | exact absurd c73 (by rw [hz215]; exact rfl)
                · refine g_iconst X (nI 1) (by decide) dL_bridge_218 ?_
                  refine g_goto X 223 (by decide) dL_bridge_219 ?_
                  exact j223 1 (by decide)
              · skip
                refine g_if_ne X 222 (by decide) dL_bridge_215 (fun c74 => ?_) (fun c74 => ?_)
                · refine g_iconst X (nI 0) (by decide) dL_bridge_222 ?_
                  exact j223 0 (by decide)
                · first | exact absurd (nI_ne0 (by omega) (by omega)) c74 | exact absurd c74 (nI_ne0 (by omega) (by omega))
            by_cases hz189 : j63 = 0
            · skip
              refine g_if_le X 197 (by decide) dL_bridge_189 (fun c75 => ?_) (fun c75 => ?_)
              · refine g_iload X 0 rfl dL_bridge_197 ?_
                refine g_bipush X (nI 6) (by decide) dL_bridge_199 ?_
                refine g_ishr X dL_bridge_201 ?_
                refine g_bipush X (nI 60) (by decide) dL_bridge_202 ?_
                refine g_callS X hR (As := [.int (x >>> ((nI 6) &&& 31)), .int (nI 60)]) (rest := [.int (nI (1 + j59)), .int (nI (1 + j55)), .int (nI (1 + j51)), .int (nI j47), .ref (B.2.1 0 0 0)]) mL_below lL_18 (k_below hI V (x >>> ((nI 6) &&& 31)) 60 (by first | assumption | decide | omega) (by first | assumption | decide | omega)) rfl rfl (Nat.le_of_ble_eq_true rfl) ⟨Nat.le_of_ble_eq_true rfl, Nat.le_of_ble_eq_true rfl, Nat.le_of_ble_eq_true rfl, Nat.le_of_ble_eq_true rfl⟩ dL_bridge_204 (fun r76 V77 hz_78 => ?_)
                obtain ⟨⟨j79, hj79, qj79⟩, zj79⟩ := hz_78
                refine gG_ret qj79 zj79 ?_
                refine gG_n (83, 858) rfl ?_
                refine gG_st [.int (nI j79), .int (nI (1 + j59)), .int (nI (1 + j55)), .int (nI (1 + j51)), .int (nI j47), .ref (B.2.1 0 0 0)] rfl ?_
                exact j207 j79 (by omega)
              · first | exact absurd (by rw [hz189]; decide) c75 | exact absurd c75 (by rw [hz189]; decide)
            · skip
              refine g_if_le X 197 (by decide) dL_bridge_189 (fun c80 => ?_) (fun c80 => ?_)
              · first | exact absurd (nI_nle (by omega) (by omega)) c80 | exact absurd c80 (nI_nle (by omega) (by omega))
              · refine g_bipush X (nI 100) (by decide) dL_bridge_192 ?_
                refine g_goto X 207 (by decide) dL_bridge_194 ?_
                exact j207 100 (by omega)
      exact lp N 0 V32 w35 (Nat.zero_add N) hL34 hvw35 hBw35
    by_cases hz50 : j15 = 0
    · skip
      refine g_if_ne X 59 (by decide) dL_bridge_50 (fun c81 => ?_) (fun c81 => ?_)
      · first | exact absurd (by rw [hz50]; exact rfl) c81 | exact absurd c81 (by rw [hz50]; exact rfl)
      · refine g_sipush X (nI 500) (by decide) dL_bridge_53 ?_
        refine g_goto X 75 (by decide) dL_bridge_56 ?_
        exact j75 500 (by omega) (by omega)
    · skip
      refine g_if_ne X 59 (by decide) dL_bridge_50 (fun c82 => ?_) (fun c82 => ?_)
      · refine g_bipush X (nI 60) (by decide) dL_bridge_59 ?_
        refine g_aload_n X 0 rfl dL_bridge_61 ?_
        refine g_iconst X (nI 1) (by decide) dL_bridge_62 ?_
        refine g_callCell X SC (by omega) hR (k := 1) (by omega) (Nat.le_of_ble_eq_true rfl) ⟨Nat.le_of_ble_eq_true rfl, Nat.le_of_ble_eq_true rfl, Nat.le_of_ble_eq_true rfl, Nat.le_of_ble_eq_true rfl⟩ dL_bridge_63 (fun x83 => ?_)
        refine g_iconst X (nI 3) (by decide) dL_bridge_66 ?_
        refine g_ishr X dL_bridge_67 ?_
        refine g_sipush X (nI 300) (by decide) dL_bridge_68 ?_
        refine g_callS X hR (As := [.int (x83 >>> ((nI 3) &&& 31)), .int (nI 300)]) (rest := [.int (nI 60), .int (nI (4 + j10)), .ref (B.2.1 0 0 0)]) mL_below lL_18 (k_below hI V (x83 >>> ((nI 3) &&& 31)) 300 (by first | assumption | decide | omega) (by first | assumption | decide | omega)) rfl rfl (Nat.le_of_ble_eq_true rfl) ⟨Nat.le_of_ble_eq_true rfl, Nat.le_of_ble_eq_true rfl, Nat.le_of_ble_eq_true rfl, Nat.le_of_ble_eq_true rfl⟩ dL_bridge_71 (fun r84 V85 hz_86 => ?_)
        obtain ⟨⟨j87, hj87, qj87⟩, zj87⟩ := hz_86
        refine gG_ret qj87 zj87 ?_
        refine gG_n (83, 858) rfl ?_
        refine gG_st [.int (nI j87), .int (nI 60), .int (nI (4 + j10)), .ref (B.2.1 0 0 0)] rfl ?_
        refine g_iadd X dL_bridge_74 ?_
        refine gG_top (nI (60 + j87)) (nI_add 60 j87) ?_
        exact j75 (60 + j87) (by omega) (by omega)
      · first | exact absurd (nI_ne0 (by omega) (by omega)) c82 | exact absurd c82 (nI_ne0 (by omega) (by omega))
  by_cases hz27 : j6 = 0
  · skip
    refine g_if_ne X 35 (by decide) dL_bridge_27 (fun c88 => ?_) (fun c88 => ?_)
    · first | exact absurd (by rw [hz27]; exact rfl) c88 | exact absurd c88 (by rw [hz27]; exact rfl)
    · refine g_bipush X (nI 27) (by decide) dL_bridge_30 ?_
      refine g_goto X 37 (by decide) dL_bridge_32 ?_
      exact j37 27 (by decide) (by decide)
  · skip
    refine g_if_ne X 35 (by decide) dL_bridge_27 (fun c89 => ?_) (fun c89 => ?_)
    · refine g_bipush X (nI 7) (by decide) dL_bridge_35 ?_
      exact j37 7 (by decide) (by decide)
    · first | exact absurd (nI_ne0 (by omega) (by omega)) c89 | exact absurd c89 (nI_ne0 (by omega) (by omega))
