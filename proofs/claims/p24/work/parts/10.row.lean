/-! rows of cart numbers -/
theorem ix1 {j k : Nat} (h : j < k) (hk : k < 2 ^ 31) : 0 ≤ nI j ∧ nI j < nI k := ⟨nI_pos' (by omega), nI_lt h hk⟩
theorem ixle {j k : Nat} (h : nI k ≤ nI j) (hj : j < 2 ^ 31) (hk : k < 2 ^ 31) : k ≤ j := (nI_leI hk hj).mp h
theorem ixnle {j k : Nat} (h : ¬ nI k ≤ nI j) (hj : j < 2 ^ 31) (hk : k < 2 ^ 31) : j < k := Nat.lt_of_not_le fun q => h ((nI_leI hk hj).mpr q)
theorem ixlt {j k : Nat} (h : nI j < nI k) (hj : j < 2 ^ 31) (hk : k < 2 ^ 31) : j < k := (nI_ltI hj hk).mp h
theorem ixnlt {j k : Nat} (h : ¬ nI j < nI k) (hj : j < 2 ^ 31) (hk : k < 2 ^ 31) : k ≤ j := Nat.le_of_not_lt fun q => h ((nI_ltI hj hk).mpr q)
theorem ixle0 {j : Nat} (h : nI j ≤ 0) (hj : j < 2 ^ 31) : j = 0 := Nat.le_zero.mp (ixle (j := 0) (k := j) h (by decide) hj)
theorem ixnle0 {j : Nat} (h : ¬ nI j ≤ 0) (hj : j < 2 ^ 31) : 0 < j := ixnle (j := 0) (k := j) h (by decide) hj
def RowIs (V : gMem) (b r : Nat) (xs : List Nat) : Prop := V 13 b r 1 = nI xs.length ∧ xs.length ≤ 16 ∧ ∀ (j : Nat) (h : j < xs.length), V 14 b r j = nI xs[j]
/-- nothing but one row of a bridge is another one -/
def rowmod (V V' : gMem) (b r : Nat) : Prop := ∀ K b' i', ¬ ((K = 13 ∨ K = 14) ∧ b' = b ∧ i' = r) → V' K b' i' = V K b' i'
def lat (xs : List Nat) (j : Nat) : Int32 := match xs[j]? with
  | some c => nI c
  | none => -1
theorem lat_in {xs : List Nat} {j : Nat} (h : j < xs.length) : lat xs j = nI xs[j] := by simp [lat, h]
theorem lat_out {xs : List Nat} {j : Nat} (h : xs.length ≤ j) : lat xs j = -1 := by simp [lat, h]

abbrev rmX6_isIndex : Room := { frames := 0, cells := 0, slots := 0, locals := 0 }
set_option maxRecDepth 20000 in
theorem k_isIndex1 {l : Launch} {B : gB} (hI : gI B) (V : gMem) (x : Int32) (y : Int32) (h0 : 0 ≤ x) (h1 : x < y) : gM l B yX6_isIndex cX6_isIndex 2 (some .boolean) rmX6_isIndex [.int x, .int y] V (fun v V' => v = some (.int 1) ∧ V' = V) := by
  refine gM_of (own := RX6) (L := [(0, .int x), (1, .int y)]) (by decide +kernel) rfl hI (Nat.le_of_ble_eq_true rfl) rfl ?_
  intro Z hnL hR X F
  refine g_iload_n X 0 rfl dX6_isIndex_0 ?_
  refine g_if_lt X 13 (by decide) dX6_isIndex_1 (fun c1 => ?_) (fun c1 => ?_)
  · first | exact absurd (Int32.not_lt.mpr h0) c1 | exact absurd c1 (Int32.not_lt.mpr h0)
  · refine g_iload_n X 0 rfl dX6_isIndex_4 ?_
    refine g_iload_n X 1 rfl dX6_isIndex_5 ?_
    refine g_icmp_ge X 13 (by decide) dX6_isIndex_6 (fun c2 => ?_) (fun c2 => ?_)
    · first | exact absurd (Int32.not_le.mpr h1) c2 | exact absurd c2 (Int32.not_le.mpr h1)
    · refine g_iconst X 1 (by decide) dX6_isIndex_9 ?_
      refine g_goto X 14 (by decide) dX6_isIndex_10 ?_
      refine g_zret X F rfl ?_ rfl dX6_isIndex_14
      exact ⟨rfl, rfl⟩

set_option maxRecDepth 20000 in
theorem k_isIndexN {l : Launch} {B : gB} (hI : gI B) (V : gMem) (x : Int32) (y : Int32) (h0 : x < 0) : gM l B yX6_isIndex cX6_isIndex 2 (some .boolean) rmX6_isIndex [.int x, .int y] V (fun v V' => v = some (.int 0) ∧ V' = V) := by
  refine gM_of (own := RX6) (L := [(0, .int x), (1, .int y)]) (by decide +kernel) rfl hI (Nat.le_of_ble_eq_true rfl) rfl ?_
  intro Z hnL hR X F
  refine g_iload_n X 0 rfl dX6_isIndex_0 ?_
  refine g_if_lt X 13 (by decide) dX6_isIndex_1 (fun c1 => ?_) (fun c1 => ?_)
  · refine g_iconst X 0 (by decide) dX6_isIndex_13 ?_
    refine g_zret X F rfl ?_ rfl dX6_isIndex_14
    exact ⟨rfl, rfl⟩
  · first | exact absurd (h0) c1 | exact absurd c1 (h0)

set_option maxRecDepth 20000 in
theorem k_isIndexG {l : Launch} {B : gB} (hI : gI B) (V : gMem) (x : Int32) (y : Int32) (h0 : 0 ≤ x) (h1 : y ≤ x) : gM l B yX6_isIndex cX6_isIndex 2 (some .boolean) rmX6_isIndex [.int x, .int y] V (fun v V' => v = some (.int 0) ∧ V' = V) := by
  refine gM_of (own := RX6) (L := [(0, .int x), (1, .int y)]) (by decide +kernel) rfl hI (Nat.le_of_ble_eq_true rfl) rfl ?_
  intro Z hnL hR X F
  refine g_iload_n X 0 rfl dX6_isIndex_0 ?_
  refine g_if_lt X 13 (by decide) dX6_isIndex_1 (fun c1 => ?_) (fun c1 => ?_)
  · first | exact absurd (Int32.not_lt.mpr h0) c1 | exact absurd c1 (Int32.not_lt.mpr h0)
  · refine g_iload_n X 0 rfl dX6_isIndex_4 ?_
    refine g_iload_n X 1 rfl dX6_isIndex_5 ?_
    refine g_icmp_ge X 13 (by decide) dX6_isIndex_6 (fun c2 => ?_) (fun c2 => ?_)
    · refine g_iconst X 0 (by decide) dX6_isIndex_13 ?_
      refine g_zret X F rfl ?_ rfl dX6_isIndex_14
      exact ⟨rfl, rfl⟩
    · first | exact absurd (h1) c2 | exact absurd c2 (h1)

abbrev rmX5_at : Room := { frames := 1, cells := 0, slots := 0, locals := 21 }
set_option maxRecDepth 20000 in
theorem k_at {l : Launch} {B : gB} (hI : gI B) (V : gMem) (b : Nat) (r : Nat) (xs : List Nat) (j : Nat) (hb : b < 3) (hr : r < 3) (hx : RowIs V b r xs) (hj : j < 2 ^ 31) : gM l B yX5_at cX5_at 2 (some .int) rmX5_at [.ref (B.2.1 13 b r), .int (nI j)] V (fun v V' => v = some (.int (lat xs j)) ∧ V' = V) := by
  refine gM_of (own := RX5) (L := [(0, .ref (B.2.1 13 b r)), (1, .int (nI j))]) (by decide +kernel) rfl hI (Nat.le_of_ble_eq_true rfl) rfl ?_
  intro Z hnL hR X F
  refine g_iload_n X 1 rfl dX5_at_0 ?_
  refine g_aload_n X 0 rfl dX5_at_1 ?_
  refine gg_X5_size X (gP_13 (by first | assumption | decide | omega) (by first | assumption | decide | omega)) fX5_15 dX5_at_2 ?_
  refine gG_top (nI xs.length) (hx.1) ?_
  refine g_icmp_ge X 29 (by decide) dX5_at_5 (fun c1 => ?_) (fun c1 => ?_)
  · refine g_iconst X (-1) (by decide) dX5_at_29 ?_
    refine g_iret X F ?_ rfl dX5_at_30
    exact ⟨by rw [lat_out (ixle c1 hj (by have := hx.2.1; omega))], rfl⟩
  · have hj2 : j < xs.length := ixnle c1 hj (by have := hx.2.1; omega)
    have hj3 : j < 16 := by have := hx.2.1; omega
    refine g_iload_n X 1 rfl dX5_at_8 ?_
    refine g_aload_n X 0 rfl dX5_at_9 ?_
    refine gg_X5_carts X (gP_13 (by first | assumption | decide | omega) (by first | assumption | decide | omega)) fX5_9 dX5_at_10 ?_
    refine g_alen X (v := 16) (gP_14 (by first | assumption | decide | omega) (by first | assumption | decide | omega)) rfl (by decide) dX5_at_13 ?_
    refine g_callS X hR (As := [.int (nI j), .int 16]) (rest := []) mX6_isIndex lX5_19 (k_isIndex1 hI V (nI j) 16 (nI_pos' (by omega)) (nI_lt (b := 16) hj3 (by decide))) rfl rfl (Nat.le_of_ble_eq_true rfl) ⟨Nat.le_of_ble_eq_true rfl, Nat.le_of_ble_eq_true rfl, Nat.le_of_ble_eq_true rfl, Nat.le_of_ble_eq_true rfl⟩ dX5_at_14 (fun r2 V3 hz_4 => ?_)
    refine gG_ret hz_4.1 hz_4.2 ?_
    refine gG_st [.int 1] rfl ?_
    refine g_if_eq X 29 (by decide) dX5_at_17 (fun c5 => ?_) (fun c5 => ?_)
    ·  exact absurd c5 (by decide)
    · refine g_aload_n X 0 rfl dX5_at_20 ?_
      refine gg_X5_carts X (gP_13 (by first | assumption | decide | omega) (by first | assumption | decide | omega)) fX5_9 dX5_at_21 ?_
      refine g_iload_n X 1 rfl dX5_at_24 ?_
      refine g_ialdN X (j) rfl hj3 (by decide) (gP_14 (by first | assumption | decide | omega) (by first | assumption | decide | omega)) rfl dX5_at_25 ?_
      refine g_goto X 30 (by decide) dX5_at_26 ?_
      refine g_iret X F ?_ rfl dX5_at_30
      exact ⟨by rw [lat_in hj2, hx.2.2 j hj2], rfl⟩

set_option maxRecDepth 20000 in
theorem k_at_m1 {l : Launch} {B : gB} (hI : gI B) (V : gMem) (b : Nat) (r : Nat) (xs : List Nat) (hb : b < 3) (hr : r < 3) (hx : RowIs V b r xs) : gM l B yX5_at cX5_at 2 (some .int) rmX5_at [.ref (B.2.1 13 b r), .int ((-1))] V (fun v V' => v = some (.int (-1)) ∧ V' = V) := by
  refine gM_of (own := RX5) (L := [(0, .ref (B.2.1 13 b r)), (1, .int ((-1)))]) (by decide +kernel) rfl hI (Nat.le_of_ble_eq_true rfl) rfl ?_
  intro Z hnL hR X F
  refine g_iload_n X 1 rfl dX5_at_0 ?_
  refine g_aload_n X 0 rfl dX5_at_1 ?_
  refine gg_X5_size X (gP_13 (by first | assumption | decide | omega) (by first | assumption | decide | omega)) fX5_15 dX5_at_2 ?_
  refine gG_top (nI xs.length) (hx.1) ?_
  refine g_icmp_ge X 29 (by decide) dX5_at_5 (fun c1 => ?_) (fun c1 => ?_)
  · first | exact absurd (fun q => absurd (Int32.le_trans (nI_pos' (by have := hx.2.1; omega)) q) (by decide)) c1 | exact absurd c1 (fun q => absurd (Int32.le_trans (nI_pos' (by have := hx.2.1; omega)) q) (by decide))
  · refine g_iload_n X 1 rfl dX5_at_8 ?_
    refine g_aload_n X 0 rfl dX5_at_9 ?_
    refine gg_X5_carts X (gP_13 (by first | assumption | decide | omega) (by first | assumption | decide | omega)) fX5_9 dX5_at_10 ?_
    refine g_alen X (v := 16) (gP_14 (by first | assumption | decide | omega) (by first | assumption | decide | omega)) rfl (by decide) dX5_at_13 ?_
    refine g_callS X hR (As := [.int ((-1)), .int 16]) (rest := []) mX6_isIndex lX5_19 (k_isIndexN hI V (-1) 16 (by decide)) rfl rfl (Nat.le_of_ble_eq_true rfl) ⟨Nat.le_of_ble_eq_true rfl, Nat.le_of_ble_eq_true rfl, Nat.le_of_ble_eq_true rfl, Nat.le_of_ble_eq_true rfl⟩ dX5_at_14 (fun r2 V3 hz_4 => ?_)
    refine gG_ret hz_4.1 hz_4.2 ?_
    refine gG_st [.int 0] rfl ?_
    refine g_if_eq X 29 (by decide) dX5_at_17 (fun c5 => ?_) (fun c5 => ?_)
    · refine g_iconst X (-1) (by decide) dX5_at_29 ?_
      refine g_iret X F ?_ rfl dX5_at_30
      exact ⟨rfl, rfl⟩
    ·  exact absurd c5 (by decide)

def llast (xs : List Nat) : Int32 := if xs.length = 0 then -1 else lat xs (xs.length - 1)
theorem nI_dec {k : Nat} (h : 0 < k) : nI k - 1 = nI (k - 1) := by
  obtain ⟨j, rfl⟩ : ∃ j, k = j + 1 := ⟨k - 1, by omega⟩
  exact nI_pred j
theorem RowIs.lt {V : gMem} {b r : Nat} {xs : List Nat} (h : RowIs V b r xs) : xs.length < 2 ^ 31 := by have := h.2.1; omega
theorem gup_ne {V : gMem} {K b i j : Nat} {x : Int32} {K' b' i' j' : Nat} (h : ¬ (K' = K ∧ b' = b ∧ i' = i ∧ j' = j)) : gup V K b i j x K' b' i' j' = V K' b' i' j' := by
  simp only [gup]
  rw [if_neg h]
theorem gup_eq {V : gMem} {K b i j : Nat} {x : Int32} : gup V K b i j x K b i j = x := by simp [gup]
theorem rowmod.rf {V : gMem} {b r : Nat} : rowmod V V b r := fun _ _ _ _ => rfl
theorem rowmod.trans {V V1 V2 : gMem} {b r : Nat} (h : rowmod V V1 b r) (h2 : rowmod V1 V2 b r) : rowmod V V2 b r := fun K b' i' hn => (h2 K b' i' hn).trans (h K b' i' hn)
theorem rowmod.up13 {V V1 : gMem} {b r j : Nat} {x : Int32} (h : rowmod V V1 b r) : rowmod V (gup V1 13 b r j x) b r := fun K b' i' hn => (gup_off V1 x (fun q => hn ⟨Or.inl q.1, q.2.1, q.2.2⟩)).trans (h K b' i' hn)
theorem rowmod.up14 {V V1 : gMem} {b r j : Nat} {x : Int32} (h : rowmod V V1 b r) : rowmod V (gup V1 14 b r j x) b r := fun K b' i' hn => (gup_off V1 x (fun q => hn ⟨Or.inr q.1, q.2.1, q.2.2⟩)).trans (h K b' i' hn)

abbrev rmX5_last : Room := { frames := 2, cells := 0, slots := 0, locals := 42 }
set_option maxRecDepth 20000 in
theorem k_last {l : Launch} {B : gB} (hI : gI B) (V : gMem) (b : Nat) (r : Nat) (xs : List Nat) (hb : b < 3) (hr : r < 3) (hx : RowIs V b r xs) : gM l B yX5_last cX5_last 1 (some .int) rmX5_last [.ref (B.2.1 13 b r)] V (fun v V' => v = some (.int (llast xs)) ∧ V' = V) := by
  refine gM_of (own := RX5) (L := [(0, .ref (B.2.1 13 b r))]) (by decide +kernel) rfl hI (Nat.le_of_ble_eq_true rfl) rfl ?_
  intro Z hnL hR X F
  refine g_aload_n X 0 rfl dX5_last_0 ?_
  refine g_aload_n X 0 rfl dX5_last_1 ?_
  refine gg_X5_size X (gP_13 (by first | assumption | decide | omega) (by first | assumption | decide | omega)) fX5_15 dX5_last_2 ?_
  refine g_iconst X 1 (by decide) dX5_last_5 ?_
  refine g_isub X dX5_last_6 ?_
  by_cases he : xs.length = 0
  · refine gG_top (-1) (by rw [hx.1, he]; rfl) ?_
    refine g_callV X hR (rest := []) mX5_at lX5_23 (k_at_m1 hI V b r xs (by first | assumption | decide | omega) (by first | assumption | decide | omega) (by first | assumption | decide | omega)) rfl rfl (Nat.le_of_ble_eq_true rfl) (gP_13 (by first | assumption | decide | omega) (by first | assumption | decide | omega)) rfl rfl rfl ⟨Nat.le_of_ble_eq_true rfl, Nat.le_of_ble_eq_true rfl, Nat.le_of_ble_eq_true rfl, Nat.le_of_ble_eq_true rfl⟩ dX5_last_7 (fun r1 V2 hz_3 => ?_)
    refine gG_ret hz_3.1 hz_3.2 ?_
    refine gG_st [.int ((-1))] rfl ?_
    refine g_iret X F ?_ rfl dX5_last_10
    exact ⟨by rw [show llast xs = -1 from if_pos he], rfl⟩
  · refine gG_top (nI (xs.length - 1)) (by rw [hx.1]; exact nI_dec (by omega)) ?_
    refine g_callV X hR (rest := []) mX5_at lX5_23 (k_at hI V b r xs (xs.length - 1) (by first | assumption | decide | omega) (by first | assumption | decide | omega) (by first | assumption | decide | omega) (by have := hx.lt; omega)) rfl rfl (Nat.le_of_ble_eq_true rfl) (gP_13 (by first | assumption | decide | omega) (by first | assumption | decide | omega)) rfl rfl rfl ⟨Nat.le_of_ble_eq_true rfl, Nat.le_of_ble_eq_true rfl, Nat.le_of_ble_eq_true rfl, Nat.le_of_ble_eq_true rfl⟩ dX5_last_7 (fun r4 V5 hz_6 => ?_)
    refine gG_ret hz_6.1 hz_6.2 ?_
    refine gG_st [.int (lat xs (xs.length - 1))] rfl ?_
    refine g_iret X F ?_ rfl dX5_last_10
    exact ⟨by rw [show llast xs = lat xs (xs.length - 1) from if_neg he], rfl⟩

abbrev rmX5_addLast : Room := { frames := 1, cells := 0, slots := 0, locals := 21 }
set_option maxRecDepth 20000 in
theorem k_addLast {l : Launch} {B : gB} (hI : gI B) (V : gMem) (b : Nat) (r : Nat) (xs : List Nat) (c : Nat) (hb : b < 3) (hr : r < 3) (hx : RowIs V b r xs) (hl : xs.length < 16) : gM l B yX5_addLast cX5_addLast 2 none rmX5_addLast [.ref (B.2.1 13 b r), .int (nI c)] V (fun v V' => v = none ∧ RowIs V' b r (xs ++ [c]) ∧ rowmod V V' b r) := by
  refine gM_of (own := RX5) (L := [(0, .ref (B.2.1 13 b r)), (1, .int (nI c))]) (by decide +kernel) rfl hI (Nat.le_of_ble_eq_true rfl) rfl ?_
  intro Z hnL hR X F
  refine g_aload_n X 0 rfl dX5_addLast_0 ?_
  refine gg_X5_size X (gP_13 (by first | assumption | decide | omega) (by first | assumption | decide | omega)) fX5_15 dX5_addLast_1 ?_
  refine gG_top (nI xs.length) (hx.1) ?_
  refine g_aload_n X 0 rfl dX5_addLast_4 ?_
  refine gg_X5_carts X (gP_13 (by first | assumption | decide | omega) (by first | assumption | decide | omega)) fX5_9 dX5_addLast_5 ?_
  refine g_alen X (v := 16) (gP_14 (by first | assumption | decide | omega) (by first | assumption | decide | omega)) rfl (by decide) dX5_addLast_8 ?_
  refine g_callS X hR (As := [.int (nI xs.length), .int 16]) (rest := []) mX6_isIndex lX5_19 (k_isIndex1 hI V (nI xs.length) 16 (nI_pos' (by omega)) (nI_lt (b := 16) hl (by decide))) rfl rfl (Nat.le_of_ble_eq_true rfl) ⟨Nat.le_of_ble_eq_true rfl, Nat.le_of_ble_eq_true rfl, Nat.le_of_ble_eq_true rfl, Nat.le_of_ble_eq_true rfl⟩ dX5_addLast_9 (fun r1 V2 hz_3 => ?_)
  refine gG_ret hz_3.1 hz_3.2 ?_
  refine gG_st [.int 1] rfl ?_
  refine g_if_eq X 35 (by decide) dX5_addLast_12 (fun c4 => ?_) (fun c4 => ?_)
  ·  exact absurd c4 (by decide)
  · refine g_aload_n X 0 rfl dX5_addLast_15 ?_
    refine gg_X5_carts X (gP_13 (by first | assumption | decide | omega) (by first | assumption | decide | omega)) fX5_9 dX5_addLast_16 ?_
    refine g_aload_n X 0 rfl dX5_addLast_19 ?_
    refine gg_X5_size X (gP_13 (by first | assumption | decide | omega) (by first | assumption | decide | omega)) fX5_15 dX5_addLast_20 ?_
    refine gG_top (nI xs.length) (hx.1) ?_
    refine g_iload_n X 1 rfl dX5_addLast_23 ?_
    refine g_iastN X (xs.length) rfl hl (by decide) (gP_14 (by first | assumption | decide | omega) (by first | assumption | decide | omega)) (fun _ => rfl) dX5_addLast_24 ?_
    refine gG_nm (fun V5 hV5 => ?_)
    refine g_aload_n X 0 rfl dX5_addLast_25 ?_
    refine g_dup X rfl dX5_addLast_26 ?_
    refine gg_X5_size X (gP_13 (by first | assumption | decide | omega) (by first | assumption | decide | omega)) fX5_15 dX5_addLast_27 ?_
    refine gG_top (nI xs.length) (by rw [hV5, gup_ne (by simp)]; exact hx.1) ?_
    refine g_iconst X 1 (by decide) dX5_addLast_30 ?_
    refine g_iadd X dX5_addLast_31 ?_
    refine gG_top (nI (xs.length + 1)) (nI_1 _) ?_
    refine gp_X5_size X (gP_13 (by first | assumption | decide | omega) (by first | assumption | decide | omega)) fX5_15 dX5_addLast_32 ?_
    refine gG_nm (fun V6 hV6 => ?_)
    refine g_vret X F ?_ rfl dX5_addLast_35
    refine ⟨rfl, ⟨by rw [hV6, gup_eq]; simp only [List.length_append, List.length_singleton], by simp only [List.length_append, List.length_singleton]; omega, fun j hj => ?_⟩, ?_⟩
    · rw [hV6, gup_ne (by simp), hV5]
      simp only [List.length_append, List.length_singleton] at hj
      by_cases he : j = xs.length
      · subst he
        rw [gup_eq]
        simp
      · rw [gup_ne (by simp [he]), hx.2.2 j (by omega), List.getElem_append_left (by omega)]
    · rw [hV6, hV5]
      exact rowmod.rf.up14.up13

abbrev rmX5_addFirst : Room := { frames := 1, cells := 0, slots := 0, locals := 21 }
set_option maxRecDepth 20000 in
theorem k_addFirst {l : Launch} {B : gB} (hI : gI B) (V : gMem) (b : Nat) (r : Nat) (xs : List Nat) (c : Nat) (hb : b < 3) (hr : r < 3) (hx : RowIs V b r xs) (hl : xs.length < 16) : gM l B yX5_addFirst cX5_addFirst 3 none rmX5_addFirst [.ref (B.2.1 13 b r), .int (nI c)] V (fun v V' => v = none ∧ RowIs V' b r (c :: xs) ∧ rowmod V V' b r) := by
  refine gM_of (own := RX5) (L := [(0, .ref (B.2.1 13 b r)), (1, .int (nI c))]) (by decide +kernel) rfl hI (Nat.le_of_ble_eq_true rfl) rfl ?_
  intro Z hnL hR X F
  refine g_aload_n X 0 rfl dX5_addFirst_0 ?_
  refine gg_X5_size X (gP_13 (by first | assumption | decide | omega) (by first | assumption | decide | omega)) fX5_15 dX5_addFirst_1 ?_
  refine gG_top (nI xs.length) (hx.1) ?_
  refine g_aload_n X 0 rfl dX5_addFirst_4 ?_
  refine gg_X5_carts X (gP_13 (by first | assumption | decide | omega) (by first | assumption | decide | omega)) fX5_9 dX5_addFirst_5 ?_
  refine g_alen X (v := 16) (gP_14 (by first | assumption | decide | omega) (by first | assumption | decide | omega)) rfl (by decide) dX5_addFirst_8 ?_
  refine g_callS X hR (As := [.int (nI xs.length), .int 16]) (rest := []) mX6_isIndex lX5_19 (k_isIndex1 hI V (nI xs.length) 16 (nI_pos' (by omega)) (nI_lt (b := 16) hl (by decide))) rfl rfl (Nat.le_of_ble_eq_true rfl) ⟨Nat.le_of_ble_eq_true rfl, Nat.le_of_ble_eq_true rfl, Nat.le_of_ble_eq_true rfl, Nat.le_of_ble_eq_true rfl⟩ dX5_addFirst_9 (fun r1 V2 hz_3 => ?_)
  refine gG_ret hz_3.1 hz_3.2 ?_
  refine gG_st [.int 1] rfl ?_
  refine g_if_eq X 61 (by decide) dX5_addFirst_12 (fun c4 => ?_) (fun c4 => ?_)
  ·  exact absurd c4 (by decide)
  · refine g_aload_n X 0 rfl dX5_addFirst_15 ?_
    refine gg_X5_size X (gP_13 (by first | assumption | decide | omega) (by first | assumption | decide | omega)) fX5_15 dX5_addFirst_16 ?_
    refine gG_top (nI xs.length) (hx.1) ?_
    refine g_istore_n X rfl dX5_addFirst_19 [(2, .int (nI xs.length)), (0, .ref (B.2.1 13 b r)), (1, .int (nI c))] rfl (gnl_lt hnL (by decide)) ?_
    refine gG_L [1, 2, 0] (L' := [(0, .ref (B.2.1 13 b r)), (1, .int (nI c)), (2, .int (nI xs.length))]) rfl ?_
    have loop : ∀ (k : Nat) (V1 : gMem), k ≤ xs.length → rowmod V V1 b r → V1 13 b r 1 = nI xs.length → (∀ j (h : j < xs.length), j < k → V1 14 b r j = nI xs[j]) → (∀ j (h : j < xs.length), k ≤ j → V1 14 b r (j + 1) = nI xs[j]) → gG Z B (0, 0) V1 20 [(0, .ref (B.2.1 13 b r)), (1, .int (nI c)), (2, .int (nI k))] [] := by
      intro k
      induction k with
      | zero =>
        intro V1 hk hm h1 h2 h3
        refine g_iload_n X 2 rfl dX5_addFirst_20 ?_
        refine g_if_le X 44 (by decide) dX5_addFirst_21 (fun c5 => ?_) (fun c5 => ?_)
        · refine g_aload_n X 0 rfl dX5_addFirst_44 ?_
          refine gg_X5_carts X (gP_13 (by first | assumption | decide | omega) (by first | assumption | decide | omega)) fX5_9 dX5_addFirst_45 ?_
          refine g_iconst X 0 (by decide) dX5_addFirst_48 ?_
          refine g_iload_n X 1 rfl dX5_addFirst_49 ?_
          refine g_iastN X (0) rfl (by decide) (by decide) (gP_14 (by first | assumption | decide | omega) (by first | assumption | decide | omega)) (fun _ => rfl) dX5_addFirst_50 ?_
          refine gG_nm (fun V6 hV6 => ?_)
          refine g_aload_n X 0 rfl dX5_addFirst_51 ?_
          refine g_dup X rfl dX5_addFirst_52 ?_
          refine gg_X5_size X (gP_13 (by first | assumption | decide | omega) (by first | assumption | decide | omega)) fX5_15 dX5_addFirst_53 ?_
          refine gG_top (nI xs.length) (by rw [hV6, gup_ne (by simp)]; exact h1) ?_
          refine g_iconst X 1 (by decide) dX5_addFirst_56 ?_
          refine g_iadd X dX5_addFirst_57 ?_
          refine gG_top (nI (xs.length + 1)) (nI_1 _) ?_
          refine gp_X5_size X (gP_13 (by first | assumption | decide | omega) (by first | assumption | decide | omega)) fX5_15 dX5_addFirst_58 ?_
          refine gG_nm (fun V7 hV7 => ?_)
          refine g_vret X F ?_ rfl dX5_addFirst_61
          refine ⟨rfl, ⟨by rw [hV7, gup_eq]; simp only [List.length_cons], by simp only [List.length_cons]; omega, fun j hj => ?_⟩, ?_⟩
          · rw [hV7, gup_ne (by simp), hV6]
            simp only [List.length_cons] at hj
            cases j with
            | zero => rw [gup_eq]; rfl
            | succ j => rw [gup_ne (by omega), h3 j (by omega) (Nat.zero_le _)]; rfl
          · rw [hV7, hV6]
            exact hm.up14.up13
        · first | exact absurd (Int32.le_refl _) c5 | exact absurd c5 (Int32.le_refl _)
      | succ k ih =>
        intro V1 hk hm h1 h2 h3
        have hk16 : k + 1 < 17 := by have := hx.2.1; omega
        refine g_iload_n X 2 rfl dX5_addFirst_20 ?_
        refine g_if_le X 44 (by decide) dX5_addFirst_21 (fun c8 => ?_) (fun c8 => ?_)
        · first | exact absurd (nI_nle (by omega) (by omega)) c8 | exact absurd c8 (nI_nle (by omega) (by omega))
        · refine g_aload_n X 0 rfl dX5_addFirst_24 ?_
          refine gg_X5_carts X (gP_13 (by first | assumption | decide | omega) (by first | assumption | decide | omega)) fX5_9 dX5_addFirst_25 ?_
          refine g_iload_n X 2 rfl dX5_addFirst_28 ?_
          refine g_aload_n X 0 rfl dX5_addFirst_29 ?_
          refine gg_X5_carts X (gP_13 (by first | assumption | decide | omega) (by first | assumption | decide | omega)) fX5_9 dX5_addFirst_30 ?_
          refine g_iload_n X 2 rfl dX5_addFirst_33 ?_
          refine g_iconst X 1 (by decide) dX5_addFirst_34 ?_
          refine g_isub X dX5_addFirst_35 ?_
          refine gG_top (nI k) (nI_pred k) ?_
          refine g_ialdN X (k) rfl (by omega) (by decide) (gP_14 (by first | assumption | decide | omega) (by first | assumption | decide | omega)) rfl dX5_addFirst_36 ?_
          refine g_iastN X (k + 1) rfl (by omega) (by decide) (gP_14 (by first | assumption | decide | omega) (by first | assumption | decide | omega)) (fun _ => rfl) dX5_addFirst_37 ?_
          refine gG_nm (fun V9 hV9 => ?_)
          refine g_iinc X 2 rfl (nI k) (iinc_m1 k) dX5_addFirst_38 [(2, .int (nI k)), (0, .ref (B.2.1 13 b r)), (1, .int (nI c))] rfl (gnl_lt hnL (by decide)) ?_
          refine g_goto X 20 (by decide) dX5_addFirst_41 ?_
          refine gG_L [1, 2, 0] (L' := [(0, .ref (B.2.1 13 b r)), (1, .int (nI c)), (2, .int (nI k))]) rfl ?_
          refine ih V9 (by omega) (by rw [hV9]; exact hm.up14) (by rw [hV9, gup_ne (by simp)]; exact h1) (fun j h hj => ?_) (fun j h hj => ?_)
          · rw [hV9, gup_ne (by omega)]
            exact h2 j h (by omega)
          · by_cases he : j = k
            · subst he
              rw [hV9, gup_eq]
              exact h2 j h (by omega)
            · rw [hV9, gup_ne (by omega)]
              exact h3 j h (by omega)
    exact loop xs.length V (Nat.le_refl _) rowmod.rf hx.1 (fun j h _ => hx.2.2 j h) (fun j h hj => absurd h (by omega))

theorem RowIs.mod {V V' : gMem} {b r b2 r2 : Nat} {xs : List Nat} (h : RowIs V b2 r2 xs) (hm : rowmod V V' b r) (hne : ¬ (b2 = b ∧ r2 = r)) : RowIs V' b2 r2 xs := by
  have e1 := hm 13 b2 r2 (fun q => hne q.2)
  have e2 := hm 14 b2 r2 (fun q => hne q.2)
  exact ⟨by rw [e1]; exact h.1, h.2.1, fun j hj => by rw [e2]; exact h.2.2 j hj⟩

abbrev rmX5_removeFirst : Room := { frames := 0, cells := 0, slots := 0, locals := 0 }
set_option maxRecDepth 20000 in
theorem k_removeFirst {l : Launch} {B : gB} (hI : gI B) (V : gMem) (b : Nat) (r : Nat) (c : Nat) (ys : List Nat) (hb : b < 3) (hr : r < 3) (hx : RowIs V b r (c :: ys)) : gM l B yX5_removeFirst cX5_removeFirst 2 none rmX5_removeFirst [.ref (B.2.1 13 b r)] V (fun v V' => v = none ∧ RowIs V' b r (ys) ∧ rowmod V V' b r) := by
  refine gM_of (own := RX5) (L := [(0, .ref (B.2.1 13 b r))]) (by decide +kernel) rfl hI (Nat.le_of_ble_eq_true rfl) rfl ?_
  intro Z hnL hR X F
  have hlen : ys.length + 1 ≤ 16 := hx.2.1
  refine g_aload_n X 0 rfl dX5_removeFirst_0 ?_
  refine gg_X5_size X (gP_13 (by first | assumption | decide | omega) (by first | assumption | decide | omega)) fX5_15 dX5_removeFirst_1 ?_
  refine gG_top (nI (ys.length + 1)) (hx.1) ?_
  refine g_if_le X 58 (by decide) dX5_removeFirst_4 (fun c1 => ?_) (fun c1 => ?_)
  · first | exact absurd (nI_nle (by omega) (by omega)) c1 | exact absurd c1 (nI_nle (by omega) (by omega))
  · refine g_aload_n X 0 rfl dX5_removeFirst_7 ?_
    refine g_dup X rfl dX5_removeFirst_8 ?_
    refine gg_X5_size X (gP_13 (by first | assumption | decide | omega) (by first | assumption | decide | omega)) fX5_15 dX5_removeFirst_9 ?_
    refine gG_top (nI (ys.length + 1)) (hx.1) ?_
    refine g_iconst X 1 (by decide) dX5_removeFirst_12 ?_
    refine g_isub X dX5_removeFirst_13 ?_
    refine gG_top (nI ys.length) (nI_pred _) ?_
    refine gp_X5_size X (gP_13 (by first | assumption | decide | omega) (by first | assumption | decide | omega)) fX5_15 dX5_removeFirst_14 ?_
    refine gG_nm (fun V2 hV2 => ?_)
    refine g_iconst X 0 (by decide) dX5_removeFirst_17 ?_
    refine g_istore_n X rfl dX5_removeFirst_18 [(1, .int 0), (0, .ref (B.2.1 13 b r))] rfl (gnl_lt hnL (by decide)) ?_
    refine gG_L [1, 0] (L' := [(0, .ref (B.2.1 13 b r)), (1, .int 0)]) rfl ?_
    have loop : ∀ (f : Nat) (i : Nat) (V1 : gMem), i + f = ys.length → rowmod V V1 b r → V1 13 b r 1 = nI ys.length → (∀ j (h : j < ys.length), j < i → V1 14 b r j = nI ys[j]) → (∀ j (h : j < ys.length), i ≤ j → V1 14 b r (j + 1) = nI ys[j]) → gG Z B (0, 0) V1 19 [(0, .ref (B.2.1 13 b r)), (1, .int (nI i))] [] := by
      intro f
      induction f with
      | zero =>
        intro i V1 hf hm h1 h2 h3
        refine g_iload_n X 1 rfl dX5_removeFirst_19 ?_
        refine g_aload_n X 0 rfl dX5_removeFirst_20 ?_
        refine gg_X5_size X (gP_13 (by first | assumption | decide | omega) (by first | assumption | decide | omega)) fX5_15 dX5_removeFirst_21 ?_
        refine gG_top (nI ys.length) (h1) ?_
        refine g_icmp_ge X 58 (by decide) dX5_removeFirst_24 (fun c3 => ?_) (fun c3 => ?_)
        · refine g_vret X F ?_ rfl dX5_removeFirst_58
          exact ⟨rfl, ⟨h1, by omega, fun j hj => h2 j hj (by omega)⟩, hm⟩
        · first | exact absurd (nI_le (by omega) (by omega)) c3 | exact absurd c3 (nI_le (by omega) (by omega))
      | succ f ih =>
        intro i V1 hf hm h1 h2 h3
        refine g_iload_n X 1 rfl dX5_removeFirst_19 ?_
        refine g_aload_n X 0 rfl dX5_removeFirst_20 ?_
        refine gg_X5_size X (gP_13 (by first | assumption | decide | omega) (by first | assumption | decide | omega)) fX5_15 dX5_removeFirst_21 ?_
        refine gG_top (nI ys.length) (h1) ?_
        refine g_icmp_ge X 58 (by decide) dX5_removeFirst_24 (fun c4 => ?_) (fun c4 => ?_)
        · first | exact absurd (nI_ge (by omega) (by omega)) c4 | exact absurd c4 (nI_ge (by omega) (by omega))
        · refine g_iload_n X 1 rfl dX5_removeFirst_27 ?_
          refine g_iconst X 1 (by decide) dX5_removeFirst_28 ?_
          refine g_iadd X dX5_removeFirst_29 ?_
          refine gG_top (nI (i + 1)) (nI_1 _) ?_
          refine g_aload_n X 0 rfl dX5_removeFirst_30 ?_
          refine gg_X5_carts X (gP_13 (by first | assumption | decide | omega) (by first | assumption | decide | omega)) fX5_9 dX5_removeFirst_31 ?_
          refine g_alen X (v := 16) (gP_14 (by first | assumption | decide | omega) (by first | assumption | decide | omega)) rfl (by decide) dX5_removeFirst_34 ?_
          refine g_icmp_ge X 58 (by decide) dX5_removeFirst_35 (fun c5 => ?_) (fun c5 => ?_)
          · first | exact absurd (nI_ge (b := 16) (by omega) (by decide)) c5 | exact absurd c5 (nI_ge (b := 16) (by omega) (by decide))
          · refine g_aload_n X 0 rfl dX5_removeFirst_38 ?_
            refine gg_X5_carts X (gP_13 (by first | assumption | decide | omega) (by first | assumption | decide | omega)) fX5_9 dX5_removeFirst_39 ?_
            refine g_iload_n X 1 rfl dX5_removeFirst_42 ?_
            refine g_aload_n X 0 rfl dX5_removeFirst_43 ?_
            refine gg_X5_carts X (gP_13 (by first | assumption | decide | omega) (by first | assumption | decide | omega)) fX5_9 dX5_removeFirst_44 ?_
            refine g_iload_n X 1 rfl dX5_removeFirst_47 ?_
            refine g_iconst X 1 (by decide) dX5_removeFirst_48 ?_
            refine g_iadd X dX5_removeFirst_49 ?_
            refine gG_top (nI (i + 1)) (nI_1 _) ?_
            refine g_ialdN X (i + 1) rfl (by omega) (by decide) (gP_14 (by first | assumption | decide | omega) (by first | assumption | decide | omega)) rfl dX5_removeFirst_50 ?_
            refine g_iastN X (i) rfl (by omega) (by decide) (gP_14 (by first | assumption | decide | omega) (by first | assumption | decide | omega)) (fun _ => rfl) dX5_removeFirst_51 ?_
            refine gG_nm (fun V6 hV6 => ?_)
            refine g_iinc X 1 rfl (nI (i + 1)) (iinc_1 _) dX5_removeFirst_52 [(1, .int (nI (i + 1))), (0, .ref (B.2.1 13 b r))] rfl (gnl_lt hnL (by decide)) ?_
            refine g_goto X 19 (by decide) dX5_removeFirst_55 ?_
            refine gG_L [1, 0] (L' := [(0, .ref (B.2.1 13 b r)), (1, .int (nI (i + 1)))]) rfl ?_
            refine ih (i + 1) V6 (by omega) (by rw [hV6]; exact hm.up14) (by rw [hV6, gup_ne (by simp)]; exact h1) (fun j h hj => ?_) (fun j h hj => ?_)
            · by_cases he : j = i
              · subst he
                rw [hV6, gup_eq]
                exact h3 j h (Nat.le_refl _)
              · rw [hV6, gup_ne (by omega)]
                exact h2 j h (by omega)
            · rw [hV6, gup_ne (by omega)]
              exact h3 j h (by omega)
    exact loop ys.length 0 V2 (by omega) (by rw [hV2]; exact rowmod.rf.up13) (by rw [hV2, gup_eq]) (fun j h hj => absurd hj (by omega)) (fun j h _ => by rw [hV2, gup_ne (by simp)]; exact hx.2.2 (j + 1) (by simp only [List.length_cons]; omega))

abbrev rmX5_removeLast : Room := { frames := 0, cells := 0, slots := 0, locals := 0 }
set_option maxRecDepth 20000 in
theorem k_removeLast {l : Launch} {B : gB} (hI : gI B) (V : gMem) (b : Nat) (r : Nat) (xs : List Nat) (c : Nat) (hb : b < 3) (hr : r < 3) (hx : RowIs V b r (xs ++ [c])) : gM l B yX5_removeLast cX5_removeLast 1 none rmX5_removeLast [.ref (B.2.1 13 b r)] V (fun v V' => v = none ∧ RowIs V' b r (xs) ∧ rowmod V V' b r) := by
  refine gM_of (own := RX5) (L := [(0, .ref (B.2.1 13 b r))]) (by decide +kernel) rfl hI (Nat.le_of_ble_eq_true rfl) rfl ?_
  intro Z hnL hR X F
  have hlen : xs.length + 1 ≤ 16 := by have := hx.2.1; simpa using this
  have hsz : V 13 b r 1 = nI (xs.length + 1) := by have := hx.1; simpa using this
  refine g_aload_n X 0 rfl dX5_removeLast_0 ?_
  refine gg_X5_size X (gP_13 (by first | assumption | decide | omega) (by first | assumption | decide | omega)) fX5_15 dX5_removeLast_1 ?_
  refine gG_top (nI (xs.length + 1)) (hsz) ?_
  refine g_if_le X 17 (by decide) dX5_removeLast_4 (fun c1 => ?_) (fun c1 => ?_)
  · first | exact absurd (nI_nle (by omega) (by omega)) c1 | exact absurd c1 (nI_nle (by omega) (by omega))
  · refine g_aload_n X 0 rfl dX5_removeLast_7 ?_
    refine g_dup X rfl dX5_removeLast_8 ?_
    refine gg_X5_size X (gP_13 (by first | assumption | decide | omega) (by first | assumption | decide | omega)) fX5_15 dX5_removeLast_9 ?_
    refine gG_top (nI (xs.length + 1)) (hsz) ?_
    refine g_iconst X 1 (by decide) dX5_removeLast_12 ?_
    refine g_isub X dX5_removeLast_13 ?_
    refine gG_top (nI xs.length) (nI_pred _) ?_
    refine gp_X5_size X (gP_13 (by first | assumption | decide | omega) (by first | assumption | decide | omega)) fX5_15 dX5_removeLast_14 ?_
    refine gG_nm (fun V2 hV2 => ?_)
    refine g_vret X F ?_ rfl dX5_removeLast_17
    refine ⟨rfl, ⟨by rw [hV2, gup_eq], by omega, fun j hj => ?_⟩, by rw [hV2]; exact rowmod.rf.up13⟩
    rw [hV2, gup_ne (by simp), hx.2.2 j (by simp; omega), List.getElem_append_left hj]

abbrev rmX5_copyFrom : Room := { frames := 2, cells := 0, slots := 0, locals := 42 }
set_option maxRecDepth 20000 in
theorem k_rowCopy {l : Launch} {B : gB} (hI : gI B) (V : gMem) (b : Nat) (r : Nat) (b2 : Nat) (r2 : Nat) (xs : List Nat) (hb : b < 3) (hr : r < 3) (hb2 : b2 < 3) (hr2 : r2 < 3) (hne : ¬ (b2 = b ∧ r2 = r)) (hx : RowIs V b2 r2 xs) : gM l B yX5_copyFrom cX5_copyFrom 3 none rmX5_copyFrom [.ref (B.2.1 13 b r), .ref (B.2.1 13 b2 r2)] V (fun v V' => v = none ∧ RowIs V' b r (xs) ∧ rowmod V V' b r) := by
  refine gM_of (own := RX5) (L := [(0, .ref (B.2.1 13 b r)), (1, .ref (B.2.1 13 b2 r2))]) (by decide +kernel) rfl hI (Nat.le_of_ble_eq_true rfl) rfl ?_
  intro Z hnL hR X F
  have hlen : xs.length ≤ 16 := hx.2.1
  refine g_aload_n X 0 rfl dX5_copyFrom_0 ?_
  refine g_aload_n X 1 rfl dX5_copyFrom_1 ?_
  refine gg_X5_size X ⟨hb2, hr2⟩ fX5_15 dX5_copyFrom_2 ?_
  refine gG_top (nI xs.length) (hx.1) ?_
  refine gp_X5_size X (gP_13 (by first | assumption | decide | omega) (by first | assumption | decide | omega)) fX5_15 dX5_copyFrom_5 ?_
  refine gG_nm (fun V1 hV1 => ?_)
  refine g_iconst X 0 (by decide) dX5_copyFrom_8 ?_
  refine g_istore_n X rfl dX5_copyFrom_9 [(2, .int 0), (0, .ref (B.2.1 13 b r)), (1, .ref (B.2.1 13 b2 r2))] rfl (gnl_lt hnL (by decide)) ?_
  refine gG_L [1, 2, 0] (L' := [(0, .ref (B.2.1 13 b r)), (1, .ref (B.2.1 13 b2 r2)), (2, .int 0)]) rfl ?_
  have loop : ∀ (f : Nat) (i : Nat) (V1 : gMem), i + f = xs.length → rowmod V V1 b r → V1 13 b r 1 = nI xs.length → (∀ j (h : j < xs.length), j < i → V1 14 b r j = nI xs[j]) → gG Z B (0, 0) V1 10 [(0, .ref (B.2.1 13 b r)), (1, .ref (B.2.1 13 b2 r2)), (2, .int (nI i))] [] := by
    intro f
    induction f with
    | zero =>
      intro i V1 hf hm h1 h2
      refine g_iload_n X 2 rfl dX5_copyFrom_10 ?_
      refine g_aload_n X 0 rfl dX5_copyFrom_11 ?_
      refine gg_X5_size X (gP_13 (by first | assumption | decide | omega) (by first | assumption | decide | omega)) fX5_15 dX5_copyFrom_12 ?_
      refine gG_top (nI xs.length) (h1) ?_
      refine g_icmp_ge X 44 (by decide) dX5_copyFrom_15 (fun c2 => ?_) (fun c2 => ?_)
      · refine g_vret X F ?_ rfl dX5_copyFrom_44
        exact ⟨rfl, ⟨h1, hlen, fun j hj => h2 j hj (by omega)⟩, hm⟩
      · first | exact absurd (nI_le (by omega) (by omega)) c2 | exact absurd c2 (nI_le (by omega) (by omega))
    | succ f ih =>
      intro i V1 hf hm h1 h2
      refine g_iload_n X 2 rfl dX5_copyFrom_10 ?_
      refine g_aload_n X 0 rfl dX5_copyFrom_11 ?_
      refine gg_X5_size X (gP_13 (by first | assumption | decide | omega) (by first | assumption | decide | omega)) fX5_15 dX5_copyFrom_12 ?_
      refine gG_top (nI xs.length) (h1) ?_
      refine g_icmp_ge X 44 (by decide) dX5_copyFrom_15 (fun c3 => ?_) (fun c3 => ?_)
      · first | exact absurd (nI_ge (by omega) (by omega)) c3 | exact absurd c3 (nI_ge (by omega) (by omega))
      · refine g_iload_n X 2 rfl dX5_copyFrom_18 ?_
        refine g_aload_n X 0 rfl dX5_copyFrom_19 ?_
        refine gg_X5_carts X (gP_13 (by first | assumption | decide | omega) (by first | assumption | decide | omega)) fX5_9 dX5_copyFrom_20 ?_
        refine g_alen X (v := 16) (gP_14 (by first | assumption | decide | omega) (by first | assumption | decide | omega)) rfl (by decide) dX5_copyFrom_23 ?_
        refine g_icmp_ge X 44 (by decide) dX5_copyFrom_24 (fun c4 => ?_) (fun c4 => ?_)
        · first | exact absurd (nI_ge (b := 16) (by omega) (by decide)) c4 | exact absurd c4 (nI_ge (b := 16) (by omega) (by decide))
        · refine g_aload_n X 0 rfl dX5_copyFrom_27 ?_
          refine gg_X5_carts X (gP_13 (by first | assumption | decide | omega) (by first | assumption | decide | omega)) fX5_9 dX5_copyFrom_28 ?_
          refine g_iload_n X 2 rfl dX5_copyFrom_31 ?_
          refine g_aload_n X 1 rfl dX5_copyFrom_32 ?_
          refine g_iload_n X 2 rfl dX5_copyFrom_33 ?_
          refine g_callV X hR (rest := [.int (nI i), .ref (B.2.1 14 b r)]) mX5_at lX5_23 (k_at hI V1 b2 r2 xs i hb2 hr2 (hx.mod hm hne) (by omega)) rfl rfl (Nat.le_of_ble_eq_true rfl) ⟨hb2, hr2⟩ rfl rfl rfl ⟨Nat.le_of_ble_eq_true rfl, Nat.le_of_ble_eq_true rfl, Nat.le_of_ble_eq_true rfl, Nat.le_of_ble_eq_true rfl⟩ dX5_copyFrom_34 (fun r5 V6 hz_7 => ?_)
          refine gG_ret hz_7.1 hz_7.2 ?_
          refine gG_st [.int (lat xs i), .int (nI i), .ref (B.2.1 14 b r)] rfl ?_
          refine g_iastN X (i) rfl (by omega) (by decide) (gP_14 (by first | assumption | decide | omega) (by first | assumption | decide | omega)) (fun _ => rfl) dX5_copyFrom_37 ?_
          refine gG_nm (fun V8 hV8 => ?_)
          refine g_iinc X 2 rfl (nI (i + 1)) (iinc_1 _) dX5_copyFrom_38 [(2, .int (nI (i + 1))), (0, .ref (B.2.1 13 b r)), (1, .ref (B.2.1 13 b2 r2))] rfl (gnl_lt hnL (by decide)) ?_
          refine g_goto X 10 (by decide) dX5_copyFrom_41 ?_
          refine gG_L [1, 2, 0] (L' := [(0, .ref (B.2.1 13 b r)), (1, .ref (B.2.1 13 b2 r2)), (2, .int (nI (i + 1)))]) rfl ?_
          refine ih (i + 1) V8 (by omega) (by rw [hV8]; exact hm.up14) (by rw [hV8, gup_ne (by simp)]; exact h1) (fun j h hj => ?_)
          by_cases he : j = i
          · subst he
            rw [hV8, gup_eq]
            exact lat_in h
          · rw [hV8, gup_ne (by omega)]
            exact h2 j h (by omega)
  exact loop xs.length 0 V1 (by omega) (by rw [hV1]; exact rowmod.rf.up13) (by rw [hV1, gup_eq]) (fun j h hj => absurd hj (by omega))

