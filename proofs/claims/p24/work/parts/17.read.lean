/-! what is told of a bridge, and copies of it -/
def cntF (f : Nat → Bool) : Nat → Nat
  | 0 => 0
  | n + 1 => cntF f n + if f n then 1 else 0
theorem cntF_le (f : Nat → Bool) : ∀ n, cntF f n ≤ n
  | 0 => Nat.le_refl _
  | n + 1 => by have := cntF_le f n; unfold cntF; split <;> omega
def sCnt (S : gSt) (st : Nat) : Nat := cntF (fun i => decide (S.2.2.2.1 i 8 = st)) (S.1 6)
def sPlc (S : gSt) (i : Nat) : Int32 := if S.2.2.2.1 i 8 = 1 then (if S.2.2.2.1 i 1 = 0 then nI (S.2.2.2.1 i 9) else nI (S.1 2 - 1 - S.2.2.2.1 i 9)) else -1
def sTell (S : gSt) (i k : Nat) : Int32 := match k with
  | 0 => nI (S.2.2.2.1 i 2)
  | 1 => nI (S.2.2.2.1 i 3)
  | 2 => nI (S.2.2.2.1 i 4)
  | 3 => nI (S.2.2.2.1 i 5)
  | 4 => nI (S.2.2.2.1 i 1)
  | 5 => nI (S.2.2.2.1 i 8)
  | 6 => sPlc S i
  | 7 => nI (sToll S (S.2.2.2.1 i 2) (S.2.2.2.1 i 3))
  | _ => S.2.2.2.2 i
theorem boolN {c : Nat} (h : c ≤ 1) : narrow .boolean (.int (nI c)) = .int (nI c) ∧ fits .boolean (.int (nI c)) = true := by
  rcases (show c = 0 ∨ c = 1 by omega) with rfl | rfl <;> exact ⟨rfl, rfl⟩

abbrev rmX0_isOver : Room := { frames := 2, cells := 0, slots := 0, locals := 42 }
set_option maxRecDepth 20000 in
theorem k_isOver {l : Launch} {B : gB} (hI : gI B) (V : gMem) (b : Nat) (S : gSt) (i : Nat) (hb : b < 3) (hS : AbsC V b S) (hn : S.1 6 ≤ 16) (hi : i < S.1 6) (h8 : S.2.2.2.1 i 8 ≤ 3) : gM l B yX0_isOver cX0_isOver 3 (some .boolean) rmX0_isOver [.ref (B.2.1 10 b 0), .int (nI i)] V (fun v V' => v = some (.int (if S.2.2.2.1 i 8 = 2 then 1 else 0)) ∧ V' = V) := by
  refine gM_of (own := RX0) (L := [(0, .ref (B.2.1 10 b 0)), (1, .int (nI i))]) (by decide +kernel) rfl hI (Nat.le_of_ble_eq_true rfl) rfl ?_
  intro Z hnL hR X F
  refine g_aload_n X 0 rfl dX0_isOver_0 ?_
  refine g_iload_n X 1 rfl dX0_isOver_1 ?_
  refine g_callV X hR (rest := []) mX0_cartAt lX0_57 (k_cartAt hI V b S i (by first | assumption | decide | omega) hS (by first | assumption | decide | omega) (by first | assumption | decide | omega)) rfl rfl (Nat.le_of_ble_eq_true rfl) (gP_10 (by first | assumption | decide | omega)) rfl rfl rfl ⟨Nat.le_of_ble_eq_true rfl, Nat.le_of_ble_eq_true rfl, Nat.le_of_ble_eq_true rfl, Nat.le_of_ble_eq_true rfl⟩ dX0_isOver_2 (fun r1 V2 hz_3 => ?_)
  refine gG_ret hz_3.1 hz_3.2 ?_
  refine gG_st [.ref (B.2.1 15 b i)] rfl ?_
  refine g_astore_n X rfl dX0_isOver_5 [(2, .ref (B.2.1 15 b i)), (0, .ref (B.2.1 10 b 0)), (1, .int (nI i))] rfl (gnl_lt hnL (by decide)) ?_
  refine g_aload_n X 0 rfl dX0_isOver_6 ?_
  refine g_ifnull X dX0_isOver_7 ?_
  refine g_aload_n X 0 rfl dX0_isOver_10 ?_
  refine gg_X1_state X (gP_15 (by first | assumption | decide | omega) (by first | assumption | decide | omega)) fX0_74 dX0_isOver_11 ?_
  refine gG_top (nI (S.2.2.2.1 i 8)) (hS.2.2.2.1 i (by first | assumption | omega) 8 (by decide) (by decide)) ?_
  refine g_iconst X 2 (by decide) dX0_isOver_14 ?_
  refine g_icmp_ne X 22 (by decide) dX0_isOver_15 (fun c4 => ?_) (fun c4 => ?_)
  · refine g_iconst X 0 (by decide) dX0_isOver_22 ?_
    refine g_zret X F rfl ?_ rfl dX0_isOver_23
    exact ⟨by rw [if_neg (fun q => c4 (by rw [q]; rfl))], rfl⟩
  · refine g_iconst X 1 (by decide) dX0_isOver_18 ?_
    refine g_goto X 23 (by decide) dX0_isOver_19 ?_
    refine g_zret X F rfl ?_ rfl dX0_isOver_23
    exact ⟨by rw [if_pos ((nI_eq (b := 2) (by omega) (by decide)).mp c4)], rfl⟩

abbrev rmX0_coinsInBoxes : Room := { frames := 0, cells := 0, slots := 0, locals := 0 }
set_option maxRecDepth 20000 in
theorem k_coins {l : Launch} {B : gB} (hI : gI B) (V : gMem) (b : Nat) (S : gSt) (hb : b < 3) (hS : AbsC V b S) : gM l B yX0_coinsInBoxes cX0_coinsInBoxes 1 (some .int) rmX0_coinsInBoxes [.ref (B.2.1 10 b 0)] V (fun v V' => v = some (.int (nI (S.2.2.1 0 1 + S.2.2.1 1 1))) ∧ V' = V) := by
  refine gM_of (own := RX0) (L := [(0, .ref (B.2.1 10 b 0))]) (by decide +kernel) rfl hI (Nat.le_of_ble_eq_true rfl) rfl ?_
  intro Z hnL hR X F
  refine g_aload_n X 0 rfl dX0_coinsInBoxes_0 ?_
  refine gg_X0_firstGate X (gP_10 (by first | assumption | decide | omega)) fX0_33 dX0_coinsInBoxes_1 ?_
  refine gg_X3_coins X (gP_12 (by first | assumption | decide | omega) (by first | assumption | decide | omega)) fX0_77 dX0_coinsInBoxes_4 ?_
  refine gG_top (nI (S.2.2.1 0 1)) (hS.2.2.1 0 (by first | assumption | decide | omega) 1 (by decide) (by decide)) ?_
  refine g_aload_n X 0 rfl dX0_coinsInBoxes_7 ?_
  refine gg_X0_secondGate X (gP_10 (by first | assumption | decide | omega)) fX0_37 dX0_coinsInBoxes_8 ?_
  refine gg_X3_coins X (gP_12 (by first | assumption | decide | omega) (by first | assumption | decide | omega)) fX0_77 dX0_coinsInBoxes_11 ?_
  refine gG_top (nI (S.2.2.1 1 1)) (hS.2.2.1 1 (by first | assumption | decide | omega) 1 (by decide) (by decide)) ?_
  refine g_iadd X dX0_coinsInBoxes_14 ?_
  refine gG_top (nI ((S.2.2.1 0 1) + (S.2.2.1 1 1))) (nI_add (S.2.2.1 0 1) (S.2.2.1 1 1)) ?_
  refine g_iret X F ?_ rfl dX0_coinsInBoxes_15
  exact ⟨rfl, rfl⟩

abbrev rmX0_cartsIn : Room := { frames := 2, cells := 0, slots := 0, locals := 42 }
set_option maxRecDepth 20000 in
theorem k_cartsIn {l : Launch} {B : gB} (hI : gI B) (V : gMem) (b : Nat) (S : gSt) (st : Nat) (hb : b < 3) (hS : AbsC V b S) (hn : S.1 6 ≤ 16) (h8 : ∀ i, i < S.1 6 → S.2.2.2.1 i 8 ≤ 3) (hst : st ≤ 3) : gM l B yX0_cartsIn cX0_cartsIn 5 (some .int) rmX0_cartsIn [.ref (B.2.1 10 b 0), .int (nI st)] V (fun v V' => v = some (.int (nI (sCnt S st))) ∧ V' = V) := by
  refine gM_of (own := RX0) (L := [(0, .ref (B.2.1 10 b 0)), (1, .int (nI st))]) (by decide +kernel) rfl hI (Nat.le_of_ble_eq_true rfl) rfl ?_
  intro Z hnL hR X F
  refine g_iconst X 0 (by decide) dX0_cartsIn_0 ?_
  refine g_istore_n X rfl dX0_cartsIn_1 [(2, .int 0), (0, .ref (B.2.1 10 b 0)), (1, .int (nI st))] rfl (gnl_lt hnL (by decide)) ?_
  refine g_iconst X 0 (by decide) dX0_cartsIn_2 ?_
  refine g_istore_n X rfl dX0_cartsIn_3 [(3, .int 0), (2, .int 0), (0, .ref (B.2.1 10 b 0)), (1, .int (nI st))] rfl (gnl_lt hnL (by decide)) ?_
  refine gG_L [2, 3, 1, 0] (L' := [(0, .ref (B.2.1 10 b 0)), (1, .int (nI st)), (2, .int 0), (3, .int 0)]) rfl ?_
  have loop : ∀ (f : Nat) (i : Nat) , i + f = S.1 6 →  gG Z B (0, 0) V 4 [(0, .ref (B.2.1 10 b 0)), (1, .int (nI st)), (2, .int (nI (cntF (fun i => decide (S.2.2.2.1 i 8 = st)) i))), (3, .int (nI i))] [] := by
    intro f
    induction f with
    | zero =>
      intro i  hf 
      refine g_iload_n X 3 rfl dX0_cartsIn_4 ?_
      refine g_aload_n X 0 rfl dX0_cartsIn_5 ?_
      refine gg_X0_cartCount X (gP_10 (by first | assumption | decide | omega)) fX0_50 dX0_cartsIn_6 ?_
      refine gG_top (nI (S.1 6)) (hS.1 6 (by decide)) ?_
      refine g_icmp_ge X 42 (by decide) dX0_cartsIn_9 (fun c1 => ?_) (fun c1 => ?_)
      · refine g_iload_n X 2 rfl dX0_cartsIn_42 ?_
        refine g_iret X F ?_ rfl dX0_cartsIn_43
        exact ⟨by rw [show i = S.1 6 by omega]; rfl, rfl⟩
      · first | exact absurd (nI_le (by omega) (by omega)) c1 | exact absurd c1 (nI_le (by omega) (by omega))
    | succ f ih =>
      intro i  hf 
      have hc3 := h8 i (by omega)
      have hiN : i < S.1 6 := by omega
      refine g_iload_n X 3 rfl dX0_cartsIn_4 ?_
      refine g_aload_n X 0 rfl dX0_cartsIn_5 ?_
      refine gg_X0_cartCount X (gP_10 (by first | assumption | decide | omega)) fX0_50 dX0_cartsIn_6 ?_
      refine gG_top (nI (S.1 6)) (hS.1 6 (by decide)) ?_
      refine g_icmp_ge X 42 (by decide) dX0_cartsIn_9 (fun c2 => ?_) (fun c2 => ?_)
      · first | exact absurd (nI_ge (by omega) (by omega)) c2 | exact absurd c2 (nI_ge (by omega) (by omega))
      · refine g_aload_n X 0 rfl dX0_cartsIn_12 ?_
        refine g_iload_n X 3 rfl dX0_cartsIn_13 ?_
        refine g_callV X hR (rest := []) mX0_cartAt lX0_57 (k_cartAt hI V b S i (by first | assumption | decide | omega) hS (by first | assumption | decide | omega) (by omega)) rfl rfl (Nat.le_of_ble_eq_true rfl) (gP_10 (by first | assumption | decide | omega)) rfl rfl rfl ⟨Nat.le_of_ble_eq_true rfl, Nat.le_of_ble_eq_true rfl, Nat.le_of_ble_eq_true rfl, Nat.le_of_ble_eq_true rfl⟩ dX0_cartsIn_14 (fun r3 V4 hz_5 => ?_)
        refine gG_ret hz_5.1 hz_5.2 ?_
        refine gG_st [.ref (B.2.1 15 b i)] rfl ?_
        refine g_astore X dX0_cartsIn_17 [(4, .ref (B.2.1 15 b i)), (0, .ref (B.2.1 10 b 0)), (1, .int (nI st)), (2, .int (nI (cntF (fun i => decide (S.2.2.2.1 i 8 = st)) i))), (3, .int (nI i))] rfl (gnl_lt hnL (by decide)) ?_
        refine g_aload X 0 rfl dX0_cartsIn_19 ?_
        refine g_ifnull X dX0_cartsIn_21 ?_
        refine g_aload X 0 rfl dX0_cartsIn_24 ?_
        refine gg_X1_state X (gP_15 (by first | assumption | decide | omega) (by first | assumption | decide | omega)) fX0_74 dX0_cartsIn_26 ?_
        refine gG_top (nI (S.2.2.2.1 i 8)) (hS.2.2.2.1 i (by first | assumption | omega) 8 (by decide) (by decide)) ?_
        refine g_iload_n X 2 rfl dX0_cartsIn_29 ?_
        by_cases hc : S.2.2.2.1 i 8 = st
        · skip
          refine g_icmp_ne X 36 (by decide) dX0_cartsIn_30 (fun c6 => ?_) (fun c6 => ?_)
          · first | exact absurd (fun z => z (by rw [hc])) c6 | exact absurd c6 (fun z => z (by rw [hc]))
          · refine g_iinc X 3 rfl (nI ((cntF (fun i => decide (S.2.2.2.1 i 8 = st)) i) + 1)) (iinc_1 _) dX0_cartsIn_33 [(2, .int (nI ((cntF (fun i => decide (S.2.2.2.1 i 8 = st)) i) + 1))), (4, .ref (B.2.1 15 b i)), (0, .ref (B.2.1 10 b 0)), (1, .int (nI st)), (3, .int (nI i))] rfl (gnl_lt hnL (by decide)) ?_
            refine gG_L [2, 3, 0, 4, 1] (L' := [(0, .ref (B.2.1 10 b 0)), (1, .int (nI st)), (2, .int (nI ((cntF (fun i => decide (S.2.2.2.1 i 8 = st)) i) + 1))), (3, .int (nI i)), (4, .ref (B.2.1 15 b i))]) rfl ?_
            refine gG_Le [(0, .ref (B.2.1 10 b 0)), (1, .int (nI st)), (2, .int (nI (cntF (fun i => decide (S.2.2.2.1 i 8 = st)) (i + 1)))), (3, .int (nI i)), (4, .ref (B.2.1 15 b i))] (by rw [show cntF (fun i => decide (S.2.2.2.1 i 8 = st)) (i + 1) = cntF (fun i => decide (S.2.2.2.1 i 8 = st)) i + 1 by show cntF (fun i => decide (S.2.2.2.1 i 8 = st)) i + (if decide (S.2.2.2.1 i 8 = st) = true then 1 else 0) = _; rw [if_pos (by simp [hc])]]) ?_
            refine g_iinc X 3 rfl (nI (i + 1)) (iinc_1 _) dX0_cartsIn_36 [(3, .int (nI (i + 1))), (0, .ref (B.2.1 10 b 0)), (1, .int (nI st)), (2, .int (nI (cntF (fun i => decide (S.2.2.2.1 i 8 = st)) (i + 1)))), (4, .ref (B.2.1 15 b i))] rfl (gnl_lt hnL (by decide)) ?_
            refine g_goto X 4 (by decide) dX0_cartsIn_39 ?_
            refine gG_L [1, 2, 3, 0] (L' := [(0, .ref (B.2.1 10 b 0)), (1, .int (nI st)), (2, .int (nI (cntF (fun i => decide (S.2.2.2.1 i 8 = st)) (i + 1)))), (3, .int (nI (i + 1)))]) rfl ?_
            refine ih (i + 1) (by omega)
        · skip
          refine g_icmp_ne X 36 (by decide) dX0_cartsIn_30 (fun c7 => ?_) (fun c7 => ?_)
          · refine gG_L [1, 2, 3, 4, 0] (L' := [(0, .ref (B.2.1 10 b 0)), (1, .int (nI st)), (2, .int (nI (cntF (fun i => decide (S.2.2.2.1 i 8 = st)) i))), (3, .int (nI i)), (4, .ref (B.2.1 15 b i))]) rfl ?_
            refine gG_Le [(0, .ref (B.2.1 10 b 0)), (1, .int (nI st)), (2, .int (nI (cntF (fun i => decide (S.2.2.2.1 i 8 = st)) (i + 1)))), (3, .int (nI i)), (4, .ref (B.2.1 15 b i))] (by rw [show cntF (fun i => decide (S.2.2.2.1 i 8 = st)) (i + 1) = cntF (fun i => decide (S.2.2.2.1 i 8 = st)) i by show cntF (fun i => decide (S.2.2.2.1 i 8 = st)) i + (if decide (S.2.2.2.1 i 8 = st) = true then 1 else 0) = _; rw [if_neg (by simp [hc]), Nat.add_zero]]) ?_
            refine g_iinc X 3 rfl (nI (i + 1)) (iinc_1 _) dX0_cartsIn_36 [(3, .int (nI (i + 1))), (0, .ref (B.2.1 10 b 0)), (1, .int (nI st)), (2, .int (nI (cntF (fun i => decide (S.2.2.2.1 i 8 = st)) (i + 1)))), (4, .ref (B.2.1 15 b i))] rfl (gnl_lt hnL (by decide)) ?_
            refine g_goto X 4 (by decide) dX0_cartsIn_39 ?_
            refine gG_L [1, 2, 3, 0] (L' := [(0, .ref (B.2.1 10 b 0)), (1, .int (nI st)), (2, .int (nI (cntF (fun i => decide (S.2.2.2.1 i 8 = st)) (i + 1)))), (3, .int (nI (i + 1)))]) rfl ?_
            refine ih (i + 1) (by omega)
          · first | exact absurd (fun z => hc ((nI_eq (by omega) (by omega)).mp z)) c7 | exact absurd c7 (fun z => hc ((nI_eq (by omega) (by omega)).mp z))
  exact loop (S.1 6) 0 (by omega)

abbrev rmX0_placeOf : Room := { frames := 0, cells := 0, slots := 0, locals := 0 }
set_option maxRecDepth 20000 in
theorem k_placeOf {l : Launch} {B : gB} (hI : gI B) (V : gMem) (b : Nat) (S : gSt) (i : Nat) (hb : b < 3) (hS : AbsC V b S) (hn : S.1 6 ≤ 16) (hi : i < S.1 6) (hc : sCartOk S i) (hpl : S.2.2.2.1 i 8 = 1 → S.2.2.2.1 i 9 < S.1 2) : gM l B yX0_placeOf cX0_placeOf 2 (some .int) rmX0_placeOf [.ref (B.2.1 10 b 0), .ref (B.2.1 15 b i)] V (fun v V' => v = some (.int (sPlc S i)) ∧ V' = V) := by
  refine gM_of (own := RX0) (L := [(0, .ref (B.2.1 10 b 0)), (1, .ref (B.2.1 15 b i))]) (by decide +kernel) rfl hI (Nat.le_of_ble_eq_true rfl) rfl ?_
  intro Z hnL hR X F
  have h88 := hc.2.2.2.2.2.2.2
  have h11 := hc.1
  refine g_aload_n X 1 rfl dX0_placeOf_0 ?_
  refine gg_X1_state X (gP_15 (by first | assumption | decide | omega) (by first | assumption | decide | omega)) fX0_74 dX0_placeOf_1 ?_
  refine gG_top (nI (S.2.2.2.1 i 8)) (hS.2.2.2.1 i (by first | assumption | omega) 8 (by decide) (by decide)) ?_
  refine g_iconst X 1 (by decide) dX0_placeOf_4 ?_
  refine g_icmp_eq X 10 (by decide) dX0_placeOf_5 (fun c1 => ?_) (fun c1 => ?_)
  · have h1 : S.2.2.2.1 i 8 = 1 := (nI_eq (b := 1) (by omega) (by decide)).mp c1
    refine g_aload_n X 1 rfl dX0_placeOf_10 ?_
    refine gg_X1_end X (gP_15 (by first | assumption | decide | omega) (by first | assumption | decide | omega)) fX0_100 dX0_placeOf_11 ?_
    refine gG_top (nI (S.2.2.2.1 i 1)) (hS.2.2.2.1 i (by first | assumption | omega) 1 (by decide) (by decide)) ?_
    by_cases h0 : S.2.2.2.1 i 1 = 0
    · skip
      refine g_if_ne X 24 (by decide) dX0_placeOf_14 (fun c2 => ?_) (fun c2 => ?_)
      · first | exact absurd (fun q => q (by rw [h0]; rfl)) c2 | exact absurd c2 (fun q => q (by rw [h0]; rfl))
      · refine g_aload_n X 1 rfl dX0_placeOf_17 ?_
        refine gg_X1_way X (gP_15 (by first | assumption | decide | omega) (by first | assumption | decide | omega)) fX0_133 dX0_placeOf_18 ?_
        refine gG_top (nI (S.2.2.2.1 i 9)) (hS.2.2.2.1 i (by first | assumption | omega) 9 (by decide) (by decide)) ?_
        refine g_goto X 35 (by decide) dX0_placeOf_21 ?_
        refine g_iret X F ?_ rfl dX0_placeOf_35
        exact ⟨by rw [show sPlc S i = _ from if_pos h1, if_pos h0], rfl⟩
    · skip
      refine g_if_ne X 24 (by decide) dX0_placeOf_14 (fun c3 => ?_) (fun c3 => ?_)
      · refine g_aload_n X 0 rfl dX0_placeOf_24 ?_
        refine gg_X0_places X (gP_10 (by first | assumption | decide | omega)) fX0_9 dX0_placeOf_25 ?_
        refine gG_top (nI (S.1 2)) (hS.1 2 (by decide)) ?_
        refine g_iconst X 1 (by decide) dX0_placeOf_28 ?_
        refine g_isub X dX0_placeOf_29 ?_
        refine gG_top (nI (S.1 2 - 1)) (nI_dec (by have := hpl h1; omega)) ?_
        refine g_aload_n X 1 rfl dX0_placeOf_30 ?_
        refine gg_X1_way X (gP_15 (by first | assumption | decide | omega) (by first | assumption | decide | omega)) fX0_133 dX0_placeOf_31 ?_
        refine gG_top (nI (S.2.2.2.1 i 9)) (hS.2.2.2.1 i (by first | assumption | omega) 9 (by decide) (by decide)) ?_
        refine g_isub X dX0_placeOf_34 ?_
        refine gG_top (nI (S.1 2 - 1 - S.2.2.2.1 i 9)) (pk_sub (by have := hpl h1; omega)) ?_
        refine g_iret X F ?_ rfl dX0_placeOf_35
        exact ⟨by rw [show sPlc S i = _ from if_pos h1, if_neg h0], rfl⟩
      · first | exact absurd (nI_ne0 (by omega) (by omega)) c3 | exact absurd c3 (nI_ne0 (by omega) (by omega))
  · refine g_iconst X (-1) (by decide) dX0_placeOf_8 ?_
    refine g_iret X F ?_ rfl dX0_placeOf_9
    exact ⟨by rw [show sPlc S i = -1 from if_neg (fun q => c1 (by rw [q]; rfl))], rfl⟩

abbrev rmX0_tellCart : Room := { frames := 1, cells := 0, slots := 0, locals := 22 }
set_option maxRecDepth 20000 in
theorem k_tellCart {l : Launch} {B : gB} (hI : gI B) (V : gMem) (b : Nat) (S : gSt) (i : Nat) (k : Nat) (hb : b < 3) (hS : AbsC V b S) (hn : S.1 6 ≤ 16) (hi : i < S.1 6) (hc : sCartOk S i) (hpl : S.2.2.2.1 i 8 = 1 → S.2.2.2.1 i 9 < S.1 2) (hk : k < 9) : gM l B yX0_tellCart cX0_tellCart 3 (some .int) rmX0_tellCart [.ref (B.2.1 10 b 0), .ref (B.2.1 15 b i), .int (nI k)] V (fun v V' => v = some (.int (sTell S i k)) ∧ V' = V) := by
  refine gM_of (own := RX0) (L := [(0, .ref (B.2.1 10 b 0)), (1, .ref (B.2.1 15 b i)), (2, .int (nI k))]) (by decide +kernel) rfl hI (Nat.le_of_ble_eq_true rfl) rfl ?_
  intro Z hnL hR X F
  have h33 := hc.2.2.1
  refine g_iload_n X 2 rfl dX0_tellCart_0 ?_
  rcases (show k = 0 ∨ k = 1 ∨ k = 2 ∨ k = 3 ∨ k = 4 ∨ k = 5 ∨ k = 6 ∨ k = 7 ∨ k = 8 by omega) with rfl | rfl | rfl | rfl | rfl | rfl | rfl | rfl | rfl
  · refine gG_top 0 rfl ?_
    refine g_tableIn X (47) 48 (by decide) (by decide) (by decide) (by decide) dX0_tellCart_1 ?_
    refine g_aload_n X 1 rfl dX0_tellCart_48 ?_
    refine gg_X1_axles X (gP_15 (by first | assumption | decide | omega) (by first | assumption | decide | omega)) fX0_93 dX0_tellCart_49 ?_
    refine gG_top (nI (S.2.2.2.1 i 2)) (hS.2.2.2.1 i (by first | assumption | omega) 2 (by decide) (by decide)) ?_
    refine g_iret X F ?_ rfl dX0_tellCart_52
    exact ⟨rfl, rfl⟩
  · refine gG_top 1 rfl ?_
    refine g_tableIn X (52) 53 (by decide) (by decide) (by decide) (by decide) dX0_tellCart_1 ?_
    refine g_aload_n X 1 rfl dX0_tellCart_53 ?_
    refine gg_X1_weight X (gP_15 (by first | assumption | decide | omega) (by first | assumption | decide | omega)) fX0_87 dX0_tellCart_54 ?_
    refine gG_top (nI (S.2.2.2.1 i 3)) (hS.2.2.2.1 i (by first | assumption | omega) 3 (by decide) (by decide)) ?_
    refine g_iret X F ?_ rfl dX0_tellCart_57
    exact ⟨rfl, rfl⟩
  · refine gG_top 2 rfl ?_
    refine g_tableIn X (57) 58 (by decide) (by decide) (by decide) (by decide) dX0_tellCart_1 ?_
    refine g_aload_n X 1 rfl dX0_tellCart_58 ?_
    refine gg_X1_pace X (gP_15 (by first | assumption | decide | omega) (by first | assumption | decide | omega)) fX0_96 dX0_tellCart_59 ?_
    refine gG_top (nI (S.2.2.2.1 i 4)) (hS.2.2.2.1 i (by first | assumption | omega) 4 (by decide) (by decide)) ?_
    refine g_iret X F ?_ rfl dX0_tellCart_62
    exact ⟨rfl, rfl⟩
  · refine gG_top 3 rfl ?_
    refine g_tableIn X (62) 63 (by decide) (by decide) (by decide) (by decide) dX0_tellCart_1 ?_
    refine g_aload_n X 1 rfl dX0_tellCart_63 ?_
    refine gg_X1_coins X (gP_15 (by first | assumption | decide | omega) (by first | assumption | decide | omega)) fX0_99 dX0_tellCart_64 ?_
    refine gG_top (nI (S.2.2.2.1 i 5)) (hS.2.2.2.1 i (by first | assumption | omega) 5 (by decide) (by decide)) ?_
    refine g_iret X F ?_ rfl dX0_tellCart_67
    exact ⟨rfl, rfl⟩
  · refine gG_top 4 rfl ?_
    refine g_tableIn X (67) 68 (by decide) (by decide) (by decide) (by decide) dX0_tellCart_1 ?_
    refine g_aload_n X 1 rfl dX0_tellCart_68 ?_
    refine gg_X1_end X (gP_15 (by first | assumption | decide | omega) (by first | assumption | decide | omega)) fX0_100 dX0_tellCart_69 ?_
    refine gG_top (nI (S.2.2.2.1 i 1)) (hS.2.2.2.1 i (by first | assumption | omega) 1 (by decide) (by decide)) ?_
    refine g_iret X F ?_ rfl dX0_tellCart_72
    exact ⟨rfl, rfl⟩
  · refine gG_top 5 rfl ?_
    refine g_tableIn X (72) 73 (by decide) (by decide) (by decide) (by decide) dX0_tellCart_1 ?_
    refine g_aload_n X 1 rfl dX0_tellCart_73 ?_
    refine gg_X1_state X (gP_15 (by first | assumption | decide | omega) (by first | assumption | decide | omega)) fX0_74 dX0_tellCart_74 ?_
    refine gG_top (nI (S.2.2.2.1 i 8)) (hS.2.2.2.1 i (by first | assumption | omega) 8 (by decide) (by decide)) ?_
    refine g_iret X F ?_ rfl dX0_tellCart_77
    exact ⟨rfl, rfl⟩
  · refine gG_top 6 rfl ?_
    refine g_tableIn X (77) 78 (by decide) (by decide) (by decide) (by decide) dX0_tellCart_1 ?_
    refine g_aload_n X 0 rfl dX0_tellCart_78 ?_
    refine g_aload_n X 1 rfl dX0_tellCart_79 ?_
    refine g_callV X hR (rest := []) mX0_placeOf lX0_103 (k_placeOf hI V b S i (by first | assumption | decide | omega) hS (by first | assumption | decide | omega) (by first | assumption | decide | omega) (by first | assumption | decide | omega) (by first | assumption | decide | omega)) rfl rfl (Nat.le_of_ble_eq_true rfl) (gP_10 (by first | assumption | decide | omega)) rfl rfl rfl ⟨Nat.le_of_ble_eq_true rfl, Nat.le_of_ble_eq_true rfl, Nat.le_of_ble_eq_true rfl, Nat.le_of_ble_eq_true rfl⟩ dX0_tellCart_80 (fun r1 V2 hz_3 => ?_)
    refine gG_ret hz_3.1 hz_3.2 ?_
    refine gG_st [.int (sPlc S i)] rfl ?_
    refine g_iret X F ?_ rfl dX0_tellCart_83
    exact ⟨rfl, rfl⟩
  · refine gG_top 7 rfl ?_
    refine g_tableIn X (83) 84 (by decide) (by decide) (by decide) (by decide) dX0_tellCart_1 ?_
    refine g_aload_n X 0 rfl dX0_tellCart_84 ?_
    refine g_aload_n X 1 rfl dX0_tellCart_85 ?_
    refine gg_X1_axles X (gP_15 (by first | assumption | decide | omega) (by first | assumption | decide | omega)) fX0_93 dX0_tellCart_86 ?_
    refine gG_top (nI (S.2.2.2.1 i 2)) (hS.2.2.2.1 i (by first | assumption | omega) 2 (by decide) (by decide)) ?_
    refine g_aload_n X 1 rfl dX0_tellCart_89 ?_
    refine gg_X1_weight X (gP_15 (by first | assumption | decide | omega) (by first | assumption | decide | omega)) fX0_87 dX0_tellCart_90 ?_
    refine gG_top (nI (S.2.2.2.1 i 3)) (hS.2.2.2.1 i (by first | assumption | omega) 3 (by decide) (by decide)) ?_
    refine g_callV X hR (rest := []) mX0_tollFor lX0_107 (k_tollFor hI V b S (S.2.2.2.1 i 2) (S.2.2.2.1 i 3) (by first | assumption | decide | omega) hS (by omega)) rfl rfl (Nat.le_of_ble_eq_true rfl) (gP_10 (by first | assumption | decide | omega)) rfl rfl rfl ⟨Nat.le_of_ble_eq_true rfl, Nat.le_of_ble_eq_true rfl, Nat.le_of_ble_eq_true rfl, Nat.le_of_ble_eq_true rfl⟩ dX0_tellCart_93 (fun r4 V5 hz_6 => ?_)
    refine gG_ret hz_6.1 hz_6.2 ?_
    refine gG_st [.int (nI (sToll S (S.2.2.2.1 i 2) (S.2.2.2.1 i 3)))] rfl ?_
    refine g_iret X F ?_ rfl dX0_tellCart_96
    exact ⟨rfl, rfl⟩
  · refine gG_top 8 rfl ?_
    refine g_tableOut X 97 (by decide) (by decide) dX0_tellCart_1 ?_
    refine g_aload_n X 1 rfl dX0_tellCart_97 ?_
    refine gg_X1_overTick X (gP_15 (by first | assumption | decide | omega) (by first | assumption | decide | omega)) fX0_90 dX0_tellCart_98 ?_
    refine gG_top (S.2.2.2.2 i) (hS.2.2.2.2.1 i (by first | assumption | omega)) ?_
    refine g_iret X F ?_ rfl dX0_tellCart_101
    exact ⟨rfl, rfl⟩

def gTell (S : gSt) (e k : Nat) : Int32 := match k with
  | 0 => nI (S.2.2.1 e 1)
  | 1 => nI (S.2.2.1 e 2)
  | 2 => nI (S.2.2.1 e 3)
  | _ => nI (S.2.1 e).length

abbrev rmX3_tell : Room := { frames := 0, cells := 0, slots := 0, locals := 0 }
set_option maxRecDepth 20000 in
theorem k_gtell {l : Launch} {B : gB} (hI : gI B) (V : gMem) (b : Nat) (S : gSt) (e : Nat) (k : Nat) (hb : b < 3) (hS : AbsC V b S) (he : e < 2) (hk : k < 4) : gM l B yX3_tell cX3_tell 2 (some .int) rmX3_tell [.ref (B.2.1 12 b e), .int (nI k)] V (fun v V' => v = some (.int (gTell S e k)) ∧ V' = V) := by
  refine gM_of (own := RX3) (L := [(0, .ref (B.2.1 12 b e)), (1, .int (nI k))]) (by decide +kernel) rfl hI (Nat.le_of_ble_eq_true rfl) rfl ?_
  intro Z hnL hR X F
  refine g_iload_n X 1 rfl dX3_tell_0 ?_
  rcases (show k = 0 ∨ k = 1 ∨ k = 2 ∨ k = 3 by omega) with rfl | rfl | rfl | rfl
  · refine gG_top 0 rfl ?_
    refine g_tableIn X (27) 28 (by decide) (by decide) (by decide) (by decide) dX3_tell_1 ?_
    refine g_aload_n X 0 rfl dX3_tell_28 ?_
    refine gg_X3_coins X (gP_12 (by first | assumption | decide | omega) (by first | assumption | decide | omega)) fX3_18 dX3_tell_29 ?_
    refine gG_top (nI (S.2.2.1 e 1)) (hS.2.2.1 e (by first | assumption | decide | omega) 1 (by decide) (by decide)) ?_
    refine g_iret X F ?_ rfl dX3_tell_32
    exact ⟨rfl, rfl⟩
  · refine gG_top 1 rfl ?_
    refine g_tableIn X (32) 33 (by decide) (by decide) (by decide) (by decide) dX3_tell_1 ?_
    refine g_aload_n X 0 rfl dX3_tell_33 ?_
    refine gg_X3_payers X (gP_12 (by first | assumption | decide | omega) (by first | assumption | decide | omega)) fX3_22 dX3_tell_34 ?_
    refine gG_top (nI (S.2.2.1 e 2)) (hS.2.2.1 e (by first | assumption | decide | omega) 2 (by decide) (by decide)) ?_
    refine g_iret X F ?_ rfl dX3_tell_37
    exact ⟨rfl, rfl⟩
  · refine gG_top 2 rfl ?_
    refine g_tableIn X (37) 38 (by decide) (by decide) (by decide) (by decide) dX3_tell_1 ?_
    refine g_aload_n X 0 rfl dX3_tell_38 ?_
    refine gg_X3_axles X (gP_12 (by first | assumption | decide | omega) (by first | assumption | decide | omega)) fX3_25 dX3_tell_39 ?_
    refine gG_top (nI (S.2.2.1 e 3)) (hS.2.2.1 e (by first | assumption | decide | omega) 3 (by decide) (by decide)) ?_
    refine g_iret X F ?_ rfl dX3_tell_42
    exact ⟨rfl, rfl⟩
  · refine gG_top 3 rfl ?_
    refine g_tableOut X 43 (by decide) (by decide) dX3_tell_1 ?_
    refine g_aload_n X 0 rfl dX3_tell_43 ?_
    refine gg_X3_waiting X (gP_12 (by first | assumption | decide | omega) (by first | assumption | decide | omega)) fX3_12 dX3_tell_44 ?_
    refine gg_X5_size X (gP_13 (by first | assumption | decide | omega) (by first | assumption | decide | omega)) fX3_34 dX3_tell_47 ?_
    refine gG_top (nI (S.2.1 e).length) ((hS.2.1 e (by first | decide | omega)).1) ?_
    refine g_iret X F ?_ rfl dX3_tell_50
    exact ⟨rfl, rfl⟩

/-- one cart's numbers are another's -/
def cartmod (V V' : gMem) (b i : Nat) : Prop := ∀ K b' i', ¬ (K = 15 ∧ b' = b ∧ i' = i) → V' K b' i' = V K b' i'

abbrev rmX1_copyFrom : Room := { frames := 0, cells := 0, slots := 0, locals := 0 }
set_option maxRecDepth 20000 in
theorem k_cartCopy {l : Launch} {B : gB} (hI : gI B) (V : gMem) (b : Nat) (b2 : Nat) (i : Nat) (hb : b < 3) (hb2 : b2 < 3) (hi : i < 16) (hne : b ≠ b2) (h6 : narrow .boolean (.int (V 15 b2 i 6)) = .int (V 15 b2 i 6)) (h6f : fits .boolean (.int (V 15 b2 i 6)) = true) (h7 : narrow .boolean (.int (V 15 b2 i 7)) = .int (V 15 b2 i 7)) (h7f : fits .boolean (.int (V 15 b2 i 7)) = true) : gM l B yX1_copyFrom cX1_copyFrom 2 none rmX1_copyFrom [.ref (B.2.1 15 b i), .ref (B.2.1 15 b2 i)] V (fun v V' => v = none ∧ (∀ k, 1 ≤ k → k ≤ 10 → V' 15 b i k = V 15 b2 i k) ∧ V' 15 b i 0 = V 15 b i 0 ∧ cartmod V V' b i) := by
  refine gM_of (own := RX1) (L := [(0, .ref (B.2.1 15 b i)), (1, .ref (B.2.1 15 b2 i))]) (by decide +kernel) rfl hI (Nat.le_of_ble_eq_true rfl) rfl ?_
  intro Z hnL hR X F
  refine g_aload_n X 0 rfl dX1_copyFrom_0 ?_
  refine g_aload_n X 1 rfl dX1_copyFrom_1 ?_
  refine gg_X1_end X (gP_15 (by first | assumption | decide | omega) (by first | assumption | decide | omega)) fX1_21 dX1_copyFrom_2 ?_
  refine gp_X1_end X (gP_15 (by first | assumption | decide | omega) (by first | assumption | decide | omega)) fX1_21 dX1_copyFrom_5 ?_
  refine gG_nm (fun V1 hV1 => ?_)
  refine g_aload_n X 0 rfl dX1_copyFrom_8 ?_
  refine g_aload_n X 1 rfl dX1_copyFrom_9 ?_
  refine gg_X1_axles X (gP_15 (by first | assumption | decide | omega) (by first | assumption | decide | omega)) fX1_24 dX1_copyFrom_10 ?_
  refine gG_top (V 15 b2 i 2) (by rw [hV1, gup_ne (fun q => hne q.2.1.symm)]) ?_
  refine gp_X1_axles X (gP_15 (by first | assumption | decide | omega) (by first | assumption | decide | omega)) fX1_24 dX1_copyFrom_13 ?_
  refine gG_nm (fun V2 hV2 => ?_)
  refine g_aload_n X 0 rfl dX1_copyFrom_16 ?_
  refine g_aload_n X 1 rfl dX1_copyFrom_17 ?_
  refine gg_X1_weight X (gP_15 (by first | assumption | decide | omega) (by first | assumption | decide | omega)) fX1_27 dX1_copyFrom_18 ?_
  refine gG_top (V 15 b2 i 3) (by rw [hV2, gup_ne (fun q => hne q.2.1.symm), hV1, gup_ne (fun q => hne q.2.1.symm)]) ?_
  refine gp_X1_weight X (gP_15 (by first | assumption | decide | omega) (by first | assumption | decide | omega)) fX1_27 dX1_copyFrom_21 ?_
  refine gG_nm (fun V3 hV3 => ?_)
  refine g_aload_n X 0 rfl dX1_copyFrom_24 ?_
  refine g_aload_n X 1 rfl dX1_copyFrom_25 ?_
  refine gg_X1_pace X (gP_15 (by first | assumption | decide | omega) (by first | assumption | decide | omega)) fX1_30 dX1_copyFrom_26 ?_
  refine gG_top (V 15 b2 i 4) (by rw [hV3, gup_ne (fun q => hne q.2.1.symm), hV2, gup_ne (fun q => hne q.2.1.symm), hV1, gup_ne (fun q => hne q.2.1.symm)]) ?_
  refine gp_X1_pace X (gP_15 (by first | assumption | decide | omega) (by first | assumption | decide | omega)) fX1_30 dX1_copyFrom_29 ?_
  refine gG_nm (fun V4 hV4 => ?_)
  refine g_aload_n X 0 rfl dX1_copyFrom_32 ?_
  refine g_aload_n X 1 rfl dX1_copyFrom_33 ?_
  refine gg_X1_coins X (gP_15 (by first | assumption | decide | omega) (by first | assumption | decide | omega)) fX1_33 dX1_copyFrom_34 ?_
  refine gG_top (V 15 b2 i 5) (by rw [hV4, gup_ne (fun q => hne q.2.1.symm), hV3, gup_ne (fun q => hne q.2.1.symm), hV2, gup_ne (fun q => hne q.2.1.symm), hV1, gup_ne (fun q => hne q.2.1.symm)]) ?_
  refine gp_X1_coins X (gP_15 (by first | assumption | decide | omega) (by first | assumption | decide | omega)) fX1_33 dX1_copyFrom_37 ?_
  refine gG_nm (fun V5 hV5 => ?_)
  refine g_aload_n X 0 rfl dX1_copyFrom_40 ?_
  refine g_aload_n X 1 rfl dX1_copyFrom_41 ?_
  refine gg_X1_isCheat X (gP_15 (by first | assumption | decide | omega) (by first | assumption | decide | omega)) fX1_36 dX1_copyFrom_42 ?_
  refine gG_top (V 15 b2 i 6) (by rw [hV5, gup_ne (fun q => hne q.2.1.symm), hV4, gup_ne (fun q => hne q.2.1.symm), hV3, gup_ne (fun q => hne q.2.1.symm), hV2, gup_ne (fun q => hne q.2.1.symm), hV1, gup_ne (fun q => hne q.2.1.symm)]) ?_
  refine gp_X1_isCheat X h6 h6f (gP_15 (by first | assumption | decide | omega) (by first | assumption | decide | omega)) fX1_36 dX1_copyFrom_45 ?_
  refine gG_nm (fun V6 hV6 => ?_)
  refine g_aload_n X 0 rfl dX1_copyFrom_48 ?_
  refine g_aload_n X 1 rfl dX1_copyFrom_49 ?_
  refine gg_X1_hasPaid X (gP_15 (by first | assumption | decide | omega) (by first | assumption | decide | omega)) fX1_40 dX1_copyFrom_50 ?_
  refine gG_top (V 15 b2 i 7) (by rw [hV6, gup_ne (fun q => hne q.2.1.symm), hV5, gup_ne (fun q => hne q.2.1.symm), hV4, gup_ne (fun q => hne q.2.1.symm), hV3, gup_ne (fun q => hne q.2.1.symm), hV2, gup_ne (fun q => hne q.2.1.symm), hV1, gup_ne (fun q => hne q.2.1.symm)]) ?_
  refine gp_X1_hasPaid X h7 h7f (gP_15 (by first | assumption | decide | omega) (by first | assumption | decide | omega)) fX1_40 dX1_copyFrom_53 ?_
  refine gG_nm (fun V7 hV7 => ?_)
  refine g_aload_n X 0 rfl dX1_copyFrom_56 ?_
  refine g_aload_n X 1 rfl dX1_copyFrom_57 ?_
  refine gg_X1_state X (gP_15 (by first | assumption | decide | omega) (by first | assumption | decide | omega)) fX1_9 dX1_copyFrom_58 ?_
  refine gG_top (V 15 b2 i 8) (by rw [hV7, gup_ne (fun q => hne q.2.1.symm), hV6, gup_ne (fun q => hne q.2.1.symm), hV5, gup_ne (fun q => hne q.2.1.symm), hV4, gup_ne (fun q => hne q.2.1.symm), hV3, gup_ne (fun q => hne q.2.1.symm), hV2, gup_ne (fun q => hne q.2.1.symm), hV1, gup_ne (fun q => hne q.2.1.symm)]) ?_
  refine gp_X1_state X (gP_15 (by first | assumption | decide | omega) (by first | assumption | decide | omega)) fX1_9 dX1_copyFrom_61 ?_
  refine gG_nm (fun V8 hV8 => ?_)
  refine g_aload_n X 0 rfl dX1_copyFrom_64 ?_
  refine g_aload_n X 1 rfl dX1_copyFrom_65 ?_
  refine gg_X1_way X (gP_15 (by first | assumption | decide | omega) (by first | assumption | decide | omega)) fX1_43 dX1_copyFrom_66 ?_
  refine gG_top (V 15 b2 i 9) (by rw [hV8, gup_ne (fun q => hne q.2.1.symm), hV7, gup_ne (fun q => hne q.2.1.symm), hV6, gup_ne (fun q => hne q.2.1.symm), hV5, gup_ne (fun q => hne q.2.1.symm), hV4, gup_ne (fun q => hne q.2.1.symm), hV3, gup_ne (fun q => hne q.2.1.symm), hV2, gup_ne (fun q => hne q.2.1.symm), hV1, gup_ne (fun q => hne q.2.1.symm)]) ?_
  refine gp_X1_way X (gP_15 (by first | assumption | decide | omega) (by first | assumption | decide | omega)) fX1_43 dX1_copyFrom_69 ?_
  refine gG_nm (fun V9 hV9 => ?_)
  refine g_aload_n X 0 rfl dX1_copyFrom_72 ?_
  refine g_aload_n X 1 rfl dX1_copyFrom_73 ?_
  refine gg_X1_overTick X (gP_15 (by first | assumption | decide | omega) (by first | assumption | decide | omega)) fX1_15 dX1_copyFrom_74 ?_
  refine gG_top (V 15 b2 i 10) (by rw [hV9, gup_ne (fun q => hne q.2.1.symm), hV8, gup_ne (fun q => hne q.2.1.symm), hV7, gup_ne (fun q => hne q.2.1.symm), hV6, gup_ne (fun q => hne q.2.1.symm), hV5, gup_ne (fun q => hne q.2.1.symm), hV4, gup_ne (fun q => hne q.2.1.symm), hV3, gup_ne (fun q => hne q.2.1.symm), hV2, gup_ne (fun q => hne q.2.1.symm), hV1, gup_ne (fun q => hne q.2.1.symm)]) ?_
  refine gp_X1_overTick X (gP_15 (by first | assumption | decide | omega) (by first | assumption | decide | omega)) fX1_15 dX1_copyFrom_77 ?_
  refine gG_nm (fun V10 hV10 => ?_)
  refine g_vret X F ?_ rfl dX1_copyFrom_80
  refine ⟨rfl, fun k h1 h2 => ?_, ?_, fun K b' i' hn => ?_⟩
  · have hr : ∀ k, V 15 b2 i k = V 15 b2 i k := fun _ => rfl
    rcases (show k = 1 ∨ k = 2 ∨ k = 3 ∨ k = 4 ∨ k = 5 ∨ k = 6 ∨ k = 7 ∨ k = 8 ∨ k = 9 ∨ k = 10 by omega) with rfl | rfl | rfl | rfl | rfl | rfl | rfl | rfl | rfl | rfl <;> simp [hV10, hV9, hV8, hV7, hV6, hV5, hV4, hV3, hV2, hV1, gup, hne]
  · simp [hV10, hV9, hV8, hV7, hV6, hV5, hV4, hV3, hV2, hV1, gup]
  · rw [hV10, gup_off _ _ hn]
    rw [hV9, gup_off _ _ hn]
    rw [hV8, gup_off _ _ hn]
    rw [hV7, gup_off _ _ hn]
    rw [hV6, gup_off _ _ hn]
    rw [hV5, gup_off _ _ hn]
    rw [hV4, gup_off _ _ hn]
    rw [hV3, gup_off _ _ hn]
    rw [hV2, gup_off _ _ hn]
    rw [hV1, gup_off _ _ hn]

def gmod (V V' : gMem) (b e : Nat) : Prop := ∀ K b' i', ¬ ((K = 12 ∨ K = 13 ∨ K = 14) ∧ b' = b ∧ i' = e) → V' K b' i' = V K b' i'
theorem gmod.br {V V' : gMem} {b e : Nat} (h : gmod V V' b e) : brmod V V' b := fun K b' i' hn => h K b' i' (fun q => hn ⟨by omega, by omega, q.2.1⟩)
theorem cartmod.br {V V' : gMem} {b i : Nat} (h : cartmod V V' b i) : brmod V V' b := fun K b' i' hn => h K b' i' (fun q => hn ⟨by omega, by omega, q.2.1⟩)

abbrev rmX3_copyFrom : Room := { frames := 3, cells := 0, slots := 0, locals := 64 }
set_option maxRecDepth 20000 in
theorem k_gateCopy {l : Launch} {B : gB} (hI : gI B) (V : gMem) (b : Nat) (b2 : Nat) (e : Nat) (S : gSt) (hb : b < 3) (hb2 : b2 < 3) (he : e < 2) (hne : b ≠ b2) (hS : AbsC V b2 S) : gM l B yX3_copyFrom cX3_copyFrom 2 none rmX3_copyFrom [.ref (B.2.1 12 b e), .ref (B.2.1 12 b2 e)] V (fun v V' => v = none ∧ RowIs V' b e (S.2.1 e) ∧ (∀ k, 1 ≤ k → k ≤ 4 → V' 12 b e k = nI (S.2.2.1 e k)) ∧ gmod V V' b e) := by
  refine gM_of (own := RX3) (L := [(0, .ref (B.2.1 12 b e)), (1, .ref (B.2.1 12 b2 e))]) (by decide +kernel) rfl hI (Nat.le_of_ble_eq_true rfl) rfl ?_
  intro Z hnL hR X F
  refine g_aload_n X 0 rfl dX3_copyFrom_0 ?_
  refine gg_X3_waiting X (gP_12 (by first | assumption | decide | omega) (by first | assumption | decide | omega)) fX3_12 dX3_copyFrom_1 ?_
  refine g_aload_n X 1 rfl dX3_copyFrom_4 ?_
  refine gg_X3_waiting X (gP_12 (by first | assumption | decide | omega) (by first | assumption | decide | omega)) fX3_12 dX3_copyFrom_5 ?_
  refine g_callV X hR (rest := []) mX5_copyFrom lX3_48 (k_rowCopy hI V b e b2 e (S.2.1 e) (by first | assumption | decide | omega) (by omega) (by first | assumption | decide | omega) (by omega) (fun q => hne q.1.symm) (hS.2.1 e (by omega))) rfl rfl (Nat.le_of_ble_eq_true rfl) (gP_13 (by first | assumption | decide | omega) (by first | assumption | decide | omega)) rfl rfl rfl ⟨Nat.le_of_ble_eq_true rfl, Nat.le_of_ble_eq_true rfl, Nat.le_of_ble_eq_true rfl, Nat.le_of_ble_eq_true rfl⟩ dX3_copyFrom_8 (fun r1 V2 hz_3 => ?_)
  refine gG_rv hz_3.1 ?_
  obtain ⟨-, hrowV2, hmodV2⟩ := hz_3
  have k4 : AbsC V2 b2 S := hS.other hmodV2.br (Ne.symm hne)
  refine gG_st [] rfl ?_
  refine g_aload_n X 0 rfl dX3_copyFrom_11 ?_
  refine g_aload_n X 1 rfl dX3_copyFrom_12 ?_
  refine gg_X3_coins X (gP_12 (by first | assumption | decide | omega) (by first | assumption | decide | omega)) fX3_18 dX3_copyFrom_13 ?_
  refine gG_top (nI (S.2.2.1 e 1)) (k4.2.2.1 e (by first | assumption | decide | omega) 1 (by decide) (by decide)) ?_
  refine gp_X3_coins X (gP_12 (by first | assumption | decide | omega) (by first | assumption | decide | omega)) fX3_18 dX3_copyFrom_16 ?_
  refine gG_nm (fun V5 hV5 => ?_)
  have k6 : AbsC V5 b2 S := by rw [hV5]; exact k4.other (brmod.rf.up (by decide) (by decide)) (Ne.symm hne)
  refine g_aload_n X 0 rfl dX3_copyFrom_19 ?_
  refine g_aload_n X 1 rfl dX3_copyFrom_20 ?_
  refine gg_X3_payers X (gP_12 (by first | assumption | decide | omega) (by first | assumption | decide | omega)) fX3_22 dX3_copyFrom_21 ?_
  refine gG_top (nI (S.2.2.1 e 2)) (k6.2.2.1 e (by first | assumption | decide | omega) 2 (by decide) (by decide)) ?_
  refine gp_X3_payers X (gP_12 (by first | assumption | decide | omega) (by first | assumption | decide | omega)) fX3_22 dX3_copyFrom_24 ?_
  refine gG_nm (fun V7 hV7 => ?_)
  have k8 : AbsC V7 b2 S := by rw [hV7]; exact k6.other (brmod.rf.up (by decide) (by decide)) (Ne.symm hne)
  refine g_aload_n X 0 rfl dX3_copyFrom_27 ?_
  refine g_aload_n X 1 rfl dX3_copyFrom_28 ?_
  refine gg_X3_axles X (gP_12 (by first | assumption | decide | omega) (by first | assumption | decide | omega)) fX3_25 dX3_copyFrom_29 ?_
  refine gG_top (nI (S.2.2.1 e 3)) (k8.2.2.1 e (by first | assumption | decide | omega) 3 (by decide) (by decide)) ?_
  refine gp_X3_axles X (gP_12 (by first | assumption | decide | omega) (by first | assumption | decide | omega)) fX3_25 dX3_copyFrom_32 ?_
  refine gG_nm (fun V9 hV9 => ?_)
  have k10 : AbsC V9 b2 S := by rw [hV9]; exact k8.other (brmod.rf.up (by decide) (by decide)) (Ne.symm hne)
  refine g_aload_n X 0 rfl dX3_copyFrom_35 ?_
  refine g_aload_n X 1 rfl dX3_copyFrom_36 ?_
  refine gg_X3_keptByCheats X (gP_12 (by first | assumption | decide | omega) (by first | assumption | decide | omega)) fX3_31 dX3_copyFrom_37 ?_
  refine gG_top (nI (S.2.2.1 e 4)) (k10.2.2.1 e (by first | assumption | decide | omega) 4 (by decide) (by decide)) ?_
  refine gp_X3_keptByCheats X (gP_12 (by first | assumption | decide | omega) (by first | assumption | decide | omega)) fX3_31 dX3_copyFrom_40 ?_
  refine gG_nm (fun V11 hV11 => ?_)
  have k12 : AbsC V11 b2 S := by rw [hV11]; exact k10.other (brmod.rf.up (by decide) (by decide)) (Ne.symm hne)
  refine g_vret X F ?_ rfl dX3_copyFrom_43
  refine ⟨rfl, ?_, fun k h1 h2 => ?_, fun K b' i' hn => ?_⟩
  · refine hrowV2.same ?_ ?_ <;> rw [hV11, gup_off _ _ (by simp), hV9, gup_off _ _ (by simp), hV7, gup_off _ _ (by simp), hV5, gup_off _ _ (by simp)]
  · rcases (show k = 1 ∨ k = 2 ∨ k = 3 ∨ k = 4 by omega) with rfl | rfl | rfl | rfl <;> simp [hV11, hV9, hV7, hV5, gup]
  · rw [hV11, gup_off _ _ (fun q => hn ⟨Or.inl q.1, q.2⟩), hV9, gup_off _ _ (fun q => hn ⟨Or.inl q.1, q.2⟩), hV7, gup_off _ _ (fun q => hn ⟨Or.inl q.1, q.2⟩), hV5, gup_off _ _ (fun q => hn ⟨Or.inl q.1, q.2⟩)]
    exact hmodV2 K b' i' (fun q => hn ⟨by omega, q.2⟩)

set_option maxRecDepth 20000 in
theorem k_cartAtN {l : Launch} {B : gB} (hI : gI B) (V : gMem) (b : Nat) (n : Nat) (i : Nat) (hb : b < 3) (hN : V 10 b 0 6 = nI n) (hn : n ≤ 16) (hi : i < n) : gM l B yX0_cartAt cX0_cartAt 2 (some (.object "FogBridge$Cart")) rmX0_cartAt [.ref (B.2.1 10 b 0), .int (nI i)] V (fun v V' => v = some (.ref (B.2.1 15 b i)) ∧ V' = V) := by
  refine gM_of (own := RX0) (L := [(0, .ref (B.2.1 10 b 0)), (1, .int (nI i))]) (by decide +kernel) rfl hI (Nat.le_of_ble_eq_true rfl) rfl ?_
  intro Z hnL hR X F
  refine g_iload_n X 1 rfl dX0_cartAt_0 ?_
  refine g_aload_n X 0 rfl dX0_cartAt_1 ?_
  refine gg_X0_cartCount X (gP_10 (by first | assumption | decide | omega)) fX0_50 dX0_cartAt_2 ?_
  refine gG_top (nI n) (hN) ?_
  refine g_icmp_ge X 29 (by decide) dX0_cartAt_5 (fun c1 => ?_) (fun c1 => ?_)
  · first | exact absurd (nI_ge hi (by omega)) c1 | exact absurd c1 (nI_ge hi (by omega))
  · have hi16 : i < 16 := by omega
    refine g_iload_n X 1 rfl dX0_cartAt_8 ?_
    refine g_aload_n X 0 rfl dX0_cartAt_9 ?_
    refine gg_X0_carts X (gP_10 (by first | assumption | decide | omega)) fX0_26 dX0_cartAt_10 ?_
    refine g_alenC X (by first | assumption | decide | omega) dX0_cartAt_13 ?_
    refine g_callS X hR (As := [.int (nI i), .int 16]) (rest := []) mX6_isIndex lX0_53 (k_isIndex1 hI V (nI i) 16 (nI_pos' (by omega)) (nI_lt (b := 16) hi16 (by decide))) rfl rfl (Nat.le_of_ble_eq_true rfl) ⟨Nat.le_of_ble_eq_true rfl, Nat.le_of_ble_eq_true rfl, Nat.le_of_ble_eq_true rfl, Nat.le_of_ble_eq_true rfl⟩ dX0_cartAt_14 (fun r2 V3 hz_4 => ?_)
    refine gG_ret hz_4.1 hz_4.2 ?_
    refine gG_st [.int 1] rfl ?_
    refine g_if_eq X 29 (by decide) dX0_cartAt_17 (fun c5 => ?_) (fun c5 => ?_)
    ·  exact absurd c5 (by decide)
    · refine g_aload_n X 0 rfl dX0_cartAt_20 ?_
      refine gg_X0_carts X (gP_10 (by first | assumption | decide | omega)) fX0_26 dX0_cartAt_21 ?_
      refine g_iload_n X 1 rfl dX0_cartAt_24 ?_
      refine g_aaldC X (i) rfl hi16 (by first | assumption | decide | omega) dX0_cartAt_25 ?_
      refine g_goto X 30 (by decide) dX0_cartAt_26 ?_
      refine g_aret X F (Or.inr ⟨_, rfl⟩) ?_ rfl dX0_cartAt_30
      exact ⟨rfl, rfl⟩

abbrev rmX0_copyFrom : Room := { frames := 4, cells := 0, slots := 0, locals := 85 }
set_option maxRecDepth 20000 in
theorem k_copyFrom {l : Launch} {B : gB} (hI : gI B) (V : gMem) (b : Nat) (b2 : Nat) (S : gSt) (hb : b < 3) (hb2 : b2 < 3) (hne : b ≠ b2) (hS : AbsC V b2 S) (hn : S.1 6 ≤ 16) (hc : ∀ i, i < S.1 6 → sCartOk S i) (h00 : ∀ j, j < 16 → V 15 b j 0 = nI j) (hb0 : b ≠ 0) : gM l B yX0_copyFrom cX0_copyFrom 5 none rmX0_copyFrom [.ref (B.2.1 10 b 0), .ref (B.2.1 10 b2 0)] V (fun v V' => v = none ∧ AbsC V' b S ∧ brmod V V' b) := by
  refine gM_of (own := RX0) (L := [(0, .ref (B.2.1 10 b 0)), (1, .ref (B.2.1 10 b2 0))]) (by decide +kernel) rfl hI (Nat.le_of_ble_eq_true rfl) rfl ?_
  intro Z hnL hR X F
  refine g_aload_n X 0 rfl dX0_copyFrom_0 ?_
  refine g_aload_n X 1 rfl dX0_copyFrom_1 ?_
  refine gg_X0_tick X (gP_10 (by first | assumption | decide | omega)) fX0_71 dX0_copyFrom_2 ?_
  refine gG_top (nI (S.1 0)) (hS.1 0 (by decide)) ?_
  refine gp_X0_tick X (gP_10 (by first | assumption | decide | omega)) fX0_71 dX0_copyFrom_5 ?_
  refine gG_nm (fun V1 hV1 => ?_)
  have k2 : AbsC V1 b2 S := by rw [hV1]; exact hS.other (brmod.rf.up (by decide) (by decide)) (Ne.symm hne)
  refine g_aload_n X 0 rfl dX0_copyFrom_8 ?_
  refine g_aload_n X 1 rfl dX0_copyFrom_9 ?_
  refine gg_X0_direction X (gP_10 (by first | assumption | decide | omega)) fX0_61 dX0_copyFrom_10 ?_
  refine gG_top (nI (S.1 1)) (k2.1 1 (by decide)) ?_
  refine gp_X0_direction X (gP_10 (by first | assumption | decide | omega)) fX0_61 dX0_copyFrom_13 ?_
  refine gG_nm (fun V3 hV3 => ?_)
  have k4 : AbsC V3 b2 S := by rw [hV3]; exact k2.other (brmod.rf.up (by decide) (by decide)) (Ne.symm hne)
  refine g_aload_n X 0 rfl dX0_copyFrom_16 ?_
  refine g_aload_n X 1 rfl dX0_copyFrom_17 ?_
  refine gg_X0_places X (gP_10 (by first | assumption | decide | omega)) fX0_9 dX0_copyFrom_18 ?_
  refine gG_top (nI (S.1 2)) (k4.1 2 (by decide)) ?_
  refine gp_X0_places X (gP_10 (by first | assumption | decide | omega)) fX0_9 dX0_copyFrom_21 ?_
  refine gG_nm (fun V5 hV5 => ?_)
  have k6 : AbsC V5 b2 S := by rw [hV5]; exact k4.other (brmod.rf.up (by decide) (by decide)) (Ne.symm hne)
  refine g_aload_n X 0 rfl dX0_copyFrom_24 ?_
  refine g_aload_n X 1 rfl dX0_copyFrom_25 ?_
  refine gg_X0_bears X (gP_10 (by first | assumption | decide | omega)) fX0_15 dX0_copyFrom_26 ?_
  refine gG_top (nI (S.1 3)) (k6.1 3 (by decide)) ?_
  refine gp_X0_bears X (gP_10 (by first | assumption | decide | omega)) fX0_15 dX0_copyFrom_29 ?_
  refine gG_nm (fun V7 hV7 => ?_)
  have k8 : AbsC V7 b2 S := by rw [hV7]; exact k6.other (brmod.rf.up (by decide) (by decide)) (Ne.symm hne)
  refine g_aload_n X 0 rfl dX0_copyFrom_32 ?_
  refine g_aload_n X 1 rfl dX0_copyFrom_33 ?_
  refine gg_X0_axleToll X (gP_10 (by first | assumption | decide | omega)) fX0_18 dX0_copyFrom_34 ?_
  refine gG_top (nI (S.1 4)) (k8.1 4 (by decide)) ?_
  refine gp_X0_axleToll X (gP_10 (by first | assumption | decide | omega)) fX0_18 dX0_copyFrom_37 ?_
  refine gG_nm (fun V9 hV9 => ?_)
  have k10 : AbsC V9 b2 S := by rw [hV9]; exact k8.other (brmod.rf.up (by decide) (by decide)) (Ne.symm hne)
  refine g_aload_n X 0 rfl dX0_copyFrom_40 ?_
  refine g_aload_n X 1 rfl dX0_copyFrom_41 ?_
  refine gg_X0_tenToll X (gP_10 (by first | assumption | decide | omega)) fX0_21 dX0_copyFrom_42 ?_
  refine gG_top (nI (S.1 5)) (k10.1 5 (by decide)) ?_
  refine gp_X0_tenToll X (gP_10 (by first | assumption | decide | omega)) fX0_21 dX0_copyFrom_45 ?_
  refine gG_nm (fun V11 hV11 => ?_)
  have k12 : AbsC V11 b2 S := by rw [hV11]; exact k10.other (brmod.rf.up (by decide) (by decide)) (Ne.symm hne)
  refine g_aload_n X 0 rfl dX0_copyFrom_48 ?_
  refine g_aload_n X 1 rfl dX0_copyFrom_49 ?_
  refine gg_X0_cartCount X (gP_10 (by first | assumption | decide | omega)) fX0_50 dX0_copyFrom_50 ?_
  refine gG_top (nI (S.1 6)) (k12.1 6 (by decide)) ?_
  refine gp_X0_cartCount X (gP_10 (by first | assumption | decide | omega)) fX0_50 dX0_copyFrom_53 ?_
  refine gG_nm (fun V13 hV13 => ?_)
  have k14 : AbsC V13 b2 S := by rw [hV13]; exact k12.other (brmod.rf.up (by decide) (by decide)) (Ne.symm hne)
  have hNm : ∀ k, k < 7 → V13 10 b 0 k = nI (S.1 k) := by
    intro k hk
    rcases (show k = 0 ∨ k = 1 ∨ k = 2 ∨ k = 3 ∨ k = 4 ∨ k = 5 ∨ k = 6 by omega) with rfl | rfl | rfl | rfl | rfl | rfl | rfl <;> simp [hV13, hV11, hV9, hV7, hV5, hV3, hV1, gup]
  have hBm : brmod V V13 b := by
    rw [hV13, hV11, hV9, hV7, hV5, hV3, hV1]
    exact (((((((brmod.rf).up (by decide) (by decide)).up (by decide) (by decide)).up (by decide) (by decide)).up (by decide) (by decide)).up (by decide) (by decide)).up (by decide) (by decide)).up (by decide) (by decide)
  have h15 : V13 15 b = V 15 b := by
    funext i
    rw [hV13, gup_off _ _ (by simp), hV11, gup_off _ _ (by simp), hV9, gup_off _ _ (by simp), hV7, gup_off _ _ (by simp), hV5, gup_off _ _ (by simp), hV3, gup_off _ _ (by simp), hV1, gup_off _ _ (by simp)]
  refine g_iconst X 0 (by decide) dX0_copyFrom_56 ?_
  refine g_istore_n X rfl dX0_copyFrom_57 [(2, .int 0), (0, .ref (B.2.1 10 b 0)), (1, .ref (B.2.1 10 b2 0))] rfl (gnl_lt hnL (by decide)) ?_
  refine gG_L [1, 2, 0] (L' := [(0, .ref (B.2.1 10 b 0)), (1, .ref (B.2.1 10 b2 0)), (2, .int 0)]) rfl ?_
  have loop : ∀ (f : Nat) (i : Nat) (V1 : gMem), i + f = S.1 6 → AbsC V1 b2 S → brmod V V1 b → (∀ k, k < 7 → V1 10 b 0 k = nI (S.1 k)) → (∀ j, j < i → ∀ k, 1 ≤ k → k ≤ 10 → V1 15 b j k = V1 15 b2 j k) → (∀ j, j < 16 → V1 15 b j 0 = nI j) → gG Z B (0, 0) V1 58 [(0, .ref (B.2.1 10 b 0)), (1, .ref (B.2.1 10 b2 0)), (2, .int (nI i))] [] := by
    intro f
    induction f with
    | zero =>
      intro i V1 hf hA hm hN1 hcp h0
      refine g_iload_n X 2 rfl dX0_copyFrom_58 ?_
      refine g_aload_n X 0 rfl dX0_copyFrom_59 ?_
      refine gg_X0_cartCount X (gP_10 (by first | assumption | decide | omega)) fX0_50 dX0_copyFrom_60 ?_
      refine gG_top (nI (S.1 6)) (hN1 6 (by decide)) ?_
      refine g_icmp_ge X 100 (by decide) dX0_copyFrom_63 (fun c15 => ?_) (fun c15 => ?_)
      · have hiN : i = S.1 6 := by omega
        refine g_aload_n X 0 rfl dX0_copyFrom_100 ?_
        refine gg_X0_firstGate X (gP_10 (by first | assumption | decide | omega)) fX0_33 dX0_copyFrom_101 ?_
        refine g_aload_n X 1 rfl dX0_copyFrom_104 ?_
        refine gg_X0_firstGate X (gP_10 (by first | assumption | decide | omega)) fX0_33 dX0_copyFrom_105 ?_
        refine g_callV X hR (rest := []) mX3_copyFrom lX0_127 (k_gateCopy hI V1 b b2 0 S (by first | assumption | decide | omega) (by first | assumption | decide | omega) (by first | assumption | decide | omega) (by first | assumption | decide | omega) hA) rfl rfl (Nat.le_of_ble_eq_true rfl) (gP_12 (by first | assumption | decide | omega) (by first | assumption | decide | omega)) rfl rfl rfl ⟨Nat.le_of_ble_eq_true rfl, Nat.le_of_ble_eq_true rfl, Nat.le_of_ble_eq_true rfl, Nat.le_of_ble_eq_true rfl⟩ dX0_copyFrom_108 (fun r16 V17 hz_18 => ?_)
        refine gG_rv hz_18.1 ?_
        obtain ⟨-, hrowV17, hgV17, hmodV17⟩ := hz_18
        have k19 : AbsC V17 b2 S := hA.other hmodV17.br (Ne.symm hne)
        refine gG_st [] rfl ?_
        refine g_aload_n X 0 rfl dX0_copyFrom_111 ?_
        refine gg_X0_secondGate X (gP_10 (by first | assumption | decide | omega)) fX0_37 dX0_copyFrom_112 ?_
        refine g_aload_n X 1 rfl dX0_copyFrom_115 ?_
        refine gg_X0_secondGate X (gP_10 (by first | assumption | decide | omega)) fX0_37 dX0_copyFrom_116 ?_
        refine g_callV X hR (rest := []) mX3_copyFrom lX0_127 (k_gateCopy hI V17 b b2 1 S (by first | assumption | decide | omega) (by first | assumption | decide | omega) (by first | assumption | decide | omega) (by first | assumption | decide | omega) k19) rfl rfl (Nat.le_of_ble_eq_true rfl) (gP_12 (by first | assumption | decide | omega) (by first | assumption | decide | omega)) rfl rfl rfl ⟨Nat.le_of_ble_eq_true rfl, Nat.le_of_ble_eq_true rfl, Nat.le_of_ble_eq_true rfl, Nat.le_of_ble_eq_true rfl⟩ dX0_copyFrom_119 (fun r20 V21 hz_22 => ?_)
        refine gG_rv hz_22.1 ?_
        obtain ⟨-, hrowV21, hgV21, hmodV21⟩ := hz_22
        have k23 : AbsC V21 b2 S := k19.other hmodV21.br (Ne.symm hne)
        refine gG_st [] rfl ?_
        refine g_aload_n X 0 rfl dX0_copyFrom_122 ?_
        refine gg_X0_crossing X (gP_10 (by first | assumption | decide | omega)) fX0_43 dX0_copyFrom_123 ?_
        refine g_aload_n X 1 rfl dX0_copyFrom_126 ?_
        refine gg_X0_crossing X (gP_10 (by first | assumption | decide | omega)) fX0_43 dX0_copyFrom_127 ?_
        refine g_callV X hR (rest := []) mX5_copyFrom lX0_130 (k_rowCopy hI V21 b 2 b2 2 (S.2.1 2) (by first | assumption | decide | omega) (by first | assumption | decide | omega) (by first | assumption | decide | omega) (by first | assumption | decide | omega) (fun q => hne q.1.symm) (k23.2.1 2 (by decide))) rfl rfl (Nat.le_of_ble_eq_true rfl) (gP_13 (by first | assumption | decide | omega) (by first | assumption | decide | omega)) rfl rfl rfl ⟨Nat.le_of_ble_eq_true rfl, Nat.le_of_ble_eq_true rfl, Nat.le_of_ble_eq_true rfl, Nat.le_of_ble_eq_true rfl⟩ dX0_copyFrom_130 (fun r24 V25 hz_26 => ?_)
        refine gG_rv hz_26.1 ?_
        obtain ⟨-, hrowV25, hmodV25⟩ := hz_26
        have k27 : AbsC V25 b2 S := k23.other hmodV25.br (Ne.symm hne)
        refine gG_st [] rfl ?_
        refine g_vret X F ?_ rfl dX0_copyFrom_133
        refine ⟨rfl, ⟨fun k hk => ?_, fun r hr => ?_, fun e he k h1 h2 => ?_, fun j hj k h1 h2 => ?_, fun j hj => ?_, fun j hj => ?_, fun q => absurd q hb0⟩, ((hm.trans hmodV17.br).trans hmodV21.br).trans hmodV25.br⟩
        · rw [hmodV25 10 b 0 (by simp), hmodV21 10 b 0 (by simp), hmodV17 10 b 0 (by simp)]; exact hN1 k hk
        · rcases (show r = 0 ∨ r = 1 ∨ r = 2 by omega) with rfl | rfl | rfl
          · exact (hrowV17.same (hmodV21 13 b 0 (by simp)) (hmodV21 14 b 0 (by simp))).mod hmodV25 (by simp)
          · exact hrowV21.mod hmodV25 (by simp)
          · exact hrowV25
        · rw [hmodV25 12 b e (by simp)]
          rcases (show e = 0 ∨ e = 1 by omega) with rfl | rfl
          · rw [hmodV21 12 b 0 (by simp)]; exact hgV17 k h1 h2
          · exact hgV21 k h1 h2
        · rw [hmodV25 15 b j (by simp), hmodV21 15 b j (by simp), hmodV17 15 b j (by simp), hcp j (by omega) k h1 (by omega)]; exact hA.2.2.2.1 j hj k h1 h2
        · rw [hmodV25 15 b j (by simp), hmodV21 15 b j (by simp), hmodV17 15 b j (by simp), hcp j (by omega) 10 (by decide) (by decide)]; exact hA.2.2.2.2.1 j hj
        · rw [hmodV25 15 b j (by simp), hmodV21 15 b j (by simp), hmodV17 15 b j (by simp)]; exact h0 j hj
      · first | exact absurd (nI_le (by omega) (by omega)) c15 | exact absurd c15 (nI_le (by omega) (by omega))
    | succ f ih =>
      intro i V1 hf hA hm hN1 hcp h0
      have hiN : i < S.1 6 := by omega
      have hci := hc i hiN
      have bw6 := boolN hci.2.2.2.2.2.1
      rw [← hA.2.2.2.1 i hiN 6 (by decide) (by decide)] at bw6
      have bw7 := boolN hci.2.2.2.2.2.2.1
      rw [← hA.2.2.2.1 i hiN 7 (by decide) (by decide)] at bw7
      refine g_iload_n X 2 rfl dX0_copyFrom_58 ?_
      refine g_aload_n X 0 rfl dX0_copyFrom_59 ?_
      refine gg_X0_cartCount X (gP_10 (by first | assumption | decide | omega)) fX0_50 dX0_copyFrom_60 ?_
      refine gG_top (nI (S.1 6)) (hN1 6 (by decide)) ?_
      refine g_icmp_ge X 100 (by decide) dX0_copyFrom_63 (fun c28 => ?_) (fun c28 => ?_)
      · first | exact absurd (nI_ge (by omega) (by omega)) c28 | exact absurd c28 (nI_ge (by omega) (by omega))
      · refine g_aload_n X 0 rfl dX0_copyFrom_66 ?_
        refine g_iload_n X 2 rfl dX0_copyFrom_67 ?_
        refine g_callV X hR (rest := []) mX0_cartAt lX0_57 (k_cartAtN hI V1 b (S.1 6) i (by first | assumption | decide | omega) (hN1 6 (by decide)) (by first | assumption | decide | omega) (by omega)) rfl rfl (Nat.le_of_ble_eq_true rfl) (gP_10 (by first | assumption | decide | omega)) rfl rfl rfl ⟨Nat.le_of_ble_eq_true rfl, Nat.le_of_ble_eq_true rfl, Nat.le_of_ble_eq_true rfl, Nat.le_of_ble_eq_true rfl⟩ dX0_copyFrom_68 (fun r29 V30 hz_31 => ?_)
        refine gG_ret hz_31.1 hz_31.2 ?_
        refine gG_st [.ref (B.2.1 15 b i)] rfl ?_
        refine g_astore_n X rfl dX0_copyFrom_71 [(3, .ref (B.2.1 15 b i)), (0, .ref (B.2.1 10 b 0)), (1, .ref (B.2.1 10 b2 0)), (2, .int (nI i))] rfl (gnl_lt hnL (by decide)) ?_
        refine g_aload_n X 2 rfl dX0_copyFrom_72 ?_
        refine g_iload_n X 3 rfl dX0_copyFrom_73 ?_
        refine g_callV X hR (rest := []) mX0_cartAt lX0_57 (k_cartAt hI V1 b2 S i (by first | assumption | decide | omega) hA (by first | assumption | decide | omega) (by omega)) rfl rfl (Nat.le_of_ble_eq_true rfl) (gP_10 (by first | assumption | decide | omega)) rfl rfl rfl ⟨Nat.le_of_ble_eq_true rfl, Nat.le_of_ble_eq_true rfl, Nat.le_of_ble_eq_true rfl, Nat.le_of_ble_eq_true rfl⟩ dX0_copyFrom_74 (fun r32 V33 hz_34 => ?_)
        refine gG_ret hz_34.1 hz_34.2 ?_
        refine gG_st [.ref (B.2.1 15 b2 i)] rfl ?_
        refine g_astore X dX0_copyFrom_77 [(4, .ref (B.2.1 15 b2 i)), (3, .ref (B.2.1 15 b i)), (0, .ref (B.2.1 10 b 0)), (1, .ref (B.2.1 10 b2 0)), (2, .int (nI i))] rfl (gnl_lt hnL (by decide)) ?_
        refine g_aload_n X 1 rfl dX0_copyFrom_79 ?_
        refine g_ifnull X dX0_copyFrom_80 ?_
        refine g_aload X 0 rfl dX0_copyFrom_83 ?_
        refine g_ifnull X dX0_copyFrom_85 ?_
        refine g_aload_n X 1 rfl dX0_copyFrom_88 ?_
        refine g_aload X 0 rfl dX0_copyFrom_89 ?_
        refine g_callV X hR (rest := []) mX1_copyFrom lX0_123 (k_cartCopy hI V1 b b2 i (by first | assumption | decide | omega) (by first | assumption | decide | omega) (by first | assumption | decide | omega) (by first | assumption | decide | omega) bw6.1 bw6.2 bw7.1 bw7.2) rfl rfl (Nat.le_of_ble_eq_true rfl) (gP_15 (by first | assumption | decide | omega) (by first | assumption | decide | omega)) rfl rfl rfl ⟨Nat.le_of_ble_eq_true rfl, Nat.le_of_ble_eq_true rfl, Nat.le_of_ble_eq_true rfl, Nat.le_of_ble_eq_true rfl⟩ dX0_copyFrom_91 (fun r35 V36 hz_37 => ?_)
        refine gG_rv hz_37.1 ?_
        obtain ⟨-, hcpV36, hc0V36, hcmV36⟩ := hz_37
        have k38 : AbsC V36 b2 S := hA.other hcmV36.br (Ne.symm hne)
        refine gG_st [] rfl ?_
        refine g_iinc X 4 rfl (nI (i + 1)) (iinc_1 _) dX0_copyFrom_94 [(2, .int (nI (i + 1))), (4, .ref (B.2.1 15 b2 i)), (3, .ref (B.2.1 15 b i)), (0, .ref (B.2.1 10 b 0)), (1, .ref (B.2.1 10 b2 0))] rfl (gnl_lt hnL (by decide)) ?_
        refine g_goto X 58 (by decide) dX0_copyFrom_97 ?_
        refine gG_L [3, 4, 0] (L' := [(0, .ref (B.2.1 10 b 0)), (1, .ref (B.2.1 10 b2 0)), (2, .int (nI (i + 1)))]) rfl ?_
        refine ih (i + 1) V36 (by omega) k38 (hm.trans hcmV36.br) (fun k hk => ?_) (fun j hj k h1 h2 => ?_) (fun j hj => ?_)
        · rw [hcmV36 10 b 0 (by simp)]; exact hN1 k hk
        · by_cases hji : j = i
          · subst hji
            rw [hcpV36 k h1 h2, hcmV36 15 b2 j (fun q => hne q.2.1.symm)]
          · rw [hcmV36 15 b j (fun q => hji q.2.2), hcmV36 15 b2 j (fun q => hji q.2.2)]
            exact hcp j (by omega) k h1 h2
        · by_cases hji : j = i
          · subst hji; rw [hc0V36]; exact h0 j hj
          · rw [hcmV36 15 b j (fun q => hji q.2.2)]; exact h0 j hj
  exact loop (S.1 6) 0 V13 (by omega) k14 hBm hNm (fun j hj => absurd hj (by omega)) (fun j hj => by rw [h15]; exact h00 j hj)

