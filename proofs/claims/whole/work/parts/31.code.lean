/-! THE CODE AS A VALUE: how many signals, and each -/
abbrev gCd : Type := Nat × (Nat → Nat)
def CodeC (V : gMem) (c : gCd) : Prop := V 1 0 0 2 = nI c.1 ∧ ∀ k, k < c.1 → V 2 0 0 k = nI (c.2 k)
def CodeM (V : gMem) (c : gCd) : Prop := V 20 0 0 1 = nI c.1 ∧ ∀ k, k < c.1 → V 21 0 0 k = nI (c.2 k)
def CodeOk (c : gCd) : Prop := c.1 ≤ 8 ∧ ∀ k, k < c.1 → nOk (c.2 k) = true ∧ c.2 k < 10 ^ 6 ∧ 0 < c.2 k
theorem CodeOk.lt {c : gCd} (h : CodeOk c) {k : Nat} (hk : k < c.1) : c.2 k < 2 ^ 31 := Nat.lt_trans (h.2 k hk).2.1 (by decide)
theorem CodeOk.len {c : gCd} (h : CodeOk c) {k : Nat} (hk : k < c.1) : 1 ≤ nLen (c.2 k) ∧ nLen (c.2 k) ≤ 6 := ⟨nLen_pos (by have := (h.2 k hk).2.2; omega), nLen_lt 6 (h.2 k hk).2.1⟩
def cFind (c : gCd) (r : Nat) : Option Nat := (List.range c.1).find? (fun k => nBeg (c.2 k) r)
def cFindI (c : gCd) (r : Nat) : Int32 := match cFind c r with
  | none => -1
  | some k => nI k
theorem cFind_some {c : gCd} {r k : Nat} (hk : k < c.1) (h : nBeg (c.2 k) r = true) (hb : ∀ j, j < k → nBeg (c.2 j) r = false) : cFind c r = some k := by
  unfold cFind
  rw [List.find?_range_eq_some]
  exact ⟨h, List.mem_range.mpr hk, fun j hj => by rw [hb j hj]; rfl⟩
theorem cFind_none {c : gCd} {r : Nat} (hb : ∀ j, j < c.1 → nBeg (c.2 j) r = false) : cFind c r = none := by
  unfold cFind
  rw [List.find?_range_eq_none]
  exact fun j hj => by rw [hb j hj]; rfl
theorem cFind_mem {c : gCd} {r k : Nat} (h : cFind c r = some k) : k < c.1 ∧ nBeg (c.2 k) r = true := by
  unfold cFind at h
  rw [List.find?_range_eq_some] at h
  exact ⟨List.mem_range.mp h.2.1, h.1⟩
def cAmb (c : gCd) (r : Nat) : Bool := (List.range c.1).any (fun k => nBeg (c.2 k) r || nBeg r (c.2 k))
theorem cAmb_yes {c : gCd} {r k : Nat} (hk : k < c.1) (h : nBeg (c.2 k) r = true ∨ nBeg r (c.2 k) = true) : cAmb c r = true := by
  unfold cAmb
  rw [List.any_eq_true]
  exact ⟨k, List.mem_range.mpr hk, by rw [Bool.or_eq_true]; exact h⟩
theorem cAmb_no {c : gCd} {r : Nat} (hb : ∀ j, j < c.1 → nBeg (c.2 j) r = false ∧ nBeg r (c.2 j) = false) : cAmb c r = false := by
  unfold cAmb
  rw [List.any_eq_false]
  exact fun j hj => by rw [(hb j (List.mem_range.mp hj)).1, (hb j (List.mem_range.mp hj)).2]; decide
/-- what is read of a row -/
def cRd (c : gCd) : Nat → Nat → Int32 → Nat → Nat × Int32 × Nat
  | 0, m, la, r => (m, la, r)
  | f + 1, m, la, r => match cFind c r with
    | none => (m, la, r)
    | some k => cRd c f (m + 1) (nI k) (r % 10 ^ (nLen r - nLen (c.2 k)))
theorem cRd_none {c : gCd} {r : Nat} (h : cFind c r = none) (f m : Nat) (la : Int32) : cRd c f m la r = (m, la, r) := by
  cases f with
  | zero => rfl
  | succ f => rw [cRd, h]
theorem cRd_some {c : gCd} {r k : Nat} (h : cFind c r = some k) (f m : Nat) (la : Int32) : cRd c (f + 1) m la r = cRd c f (m + 1) (nI k) (r % 10 ^ (nLen r - nLen (c.2 k))) := by
  rw [cRd, h]
def cRead (c : gCd) (r what : Nat) : Int32 := match what with
  | 0 => nI (cRd c 9 0 (-1) r).1
  | 1 => (cRd c 9 0 (-1) r).2.1
  | _ => nI (nLen (cRd c 9 0 (-1) r).2.2)
/-- behind a signal there is a row again -/
theorem beh_ok {c : gCd} (hc : CodeOk c) {r k : Nat} (ho : nOk r = true) (h : cFind c r = some k) : nOk (r % 10 ^ (nLen r - nLen (c.2 k))) = true ∧ r % 10 ^ (nLen r - nLen (c.2 k)) ≤ r ∧ nLen (r % 10 ^ (nLen r - nLen (c.2 k))) < nLen r ∧ nLen (c.2 k) ≤ nLen r := by
  obtain ⟨hk, hb⟩ := cFind_mem h
  unfold nBeg at hb
  rw [Bool.and_eq_true, decide_eq_true_eq] at hb
  have hl := hc.len hk
  refine ⟨nOk_mod _ ho, Nat.mod_le _ _, ?_, hb.1⟩
  rw [nLen_mod _ ho (by omega)]
  omega
def cWhole (c : gCd) (x : Nat) : Bool := decide (0 < x) && decide ((cRd c 9 0 (-1) x).2.2 = 0)
def cSafe (c : gCd) (r : Nat) : Nat := cntF (fun p => ! cWhole c (nWo r p)) (nLen r)
theorem nWo_ok {r p : Nat} (h : nOk r = true) (hp : p < nLen r) : nOk (nWo r p) = true ∧ nLen (nWo r p) + 1 = nLen r := by
  obtain ⟨h1, h2⟩ := nOk_cat p (nOk_div (p + 1) h) (nOk_mod p h) (nLen_mod p h (by omega))
  unfold nWo
  rw [h2, nLen_div]
  exact ⟨h1, by omega⟩
def sumI (F : Nat → Int32) : Nat → Int32
  | 0 => 0
  | n + 1 => sumI F n + F n
theorem sumI_congr {F G : Nat → Int32} : ∀ (n : Nat), (∀ k, k < n → F k = G k) → sumI F n = sumI G n
  | 0, _ => rfl
  | n + 1, h => by
    unfold sumI
    rw [sumI_congr n (fun k hk => h k (by omega)), h n (by omega)]
/-- whole rows of a length -/
def cTab (c : gCd) : Nat → Nat → Int32
  | 0 => fun j => if j = 0 then 1 else 0
  | n + 1 => fun j => if j = n + 1 then sumI (fun k => if nLen (c.2 k) ≤ n + 1 then cTab c n (n + 1 - nLen (c.2 k)) else 0) c.1 else cTab c n j
def cRows (c : gCd) (n : Nat) : Int32 := cTab c n n
theorem cTab_le (c : gCd) : ∀ (n j : Nat), j ≤ n → cTab c n j = cRows c j
  | 0, j, h => by
    obtain rfl : j = 0 := by omega
    rfl
  | n + 1, j, h => by
    by_cases hj : j = n + 1
    · subst hj; rfl
    · rw [← cTab_le c n j (by omega)]
      exact if_neg hj
def cRowF (c : gCd) (n : Nat) (k : Nat) : Int32 := if nLen (c.2 k) ≤ n then cRows c (n - nLen (c.2 k)) else 0
theorem cRows_0 (c : gCd) : cRows c 0 = 1 := rfl
theorem cRows_s {c : gCd} (hc : CodeOk c) (n : Nat) : cRows c (n + 1) = sumI (cRowF c (n + 1)) c.1 := by
  show (if n + 1 = n + 1 then _ else _) = _
  rw [if_pos rfl]
  refine sumI_congr _ (fun k hk => ?_)
  unfold cRowF
  split
  · rw [cTab_le c n _ (by have := hc.len hk; omega)]
  · rfl

abbrev rmX2_ringsOf : Room := { frames := 1, cells := 0, slots := 0, locals := 21 }
set_option maxRecDepth 20000 in
theorem k_ringsOf {l : Launch} {B : gB} (hI : gI B) (V : gMem) (c : gCd) (k : Nat) (hC : CodeC V c) (hk : CodeOk c) (hkn : k < c.1) : gM l B yX2_ringsOf cX2_ringsOf 2 (some .int) rmX2_ringsOf [.ref (B.2.1 1 0 0), .int (nI k)] V (fun v V' => v = some (.int (nI (c.2 k))) ∧ V' = V) := by
  refine gM_of (own := RX2) (L := [(0, .ref (B.2.1 1 0 0)), (1, .int (nI k))]) (by decide +kernel) rfl hI (Nat.le_of_ble_eq_true rfl) rfl ?_
  intro Z hnL hR X F
  have h8 : k < 8 := by have := hk.1; omega
  refine g_iload_n X 1 rfl dX2_ringsOf_0 ?_
  refine g_aload_n X 0 rfl dX2_ringsOf_1 ?_
  refine gg_X2_signals X ⟨by decide, by decide⟩ fX2_9 dX2_ringsOf_2 ?_
  refine g_alen X (v := 8) ⟨by decide, by decide⟩ rfl (by decide) dX2_ringsOf_5 ?_
  refine g_callS X hR (As := [.int (nI k), .int 8]) (rest := []) mX6_isIndex lX2_32 (k_isIndex1 hI V (nI k) 8 (nI_pos' (by omega)) (nI_lt (b := 8) (by have := hk.1; omega) (by decide))) rfl rfl (Nat.le_of_ble_eq_true rfl) ⟨Nat.le_of_ble_eq_true rfl, Nat.le_of_ble_eq_true rfl, Nat.le_of_ble_eq_true rfl, Nat.le_of_ble_eq_true rfl⟩ dX2_ringsOf_6 (fun r1 V2 hz_3 => ?_)
  refine gG_ret hz_3.1 hz_3.2 ?_
  refine gG_st [.int 1] rfl ?_
  refine g_if_eq X 21 (by decide) dX2_ringsOf_9 (fun c4 => ?_) (fun c4 => ?_)
  ·  exact absurd c4 (by decide)
  · refine g_aload_n X 0 rfl dX2_ringsOf_12 ?_
    refine gg_X2_signals X ⟨by decide, by decide⟩ fX2_9 dX2_ringsOf_13 ?_
    refine g_iload_n X 1 rfl dX2_ringsOf_16 ?_
    refine g_ialdN X (k) rfl (by omega) (by decide) ⟨by decide, by decide⟩ rfl dX2_ringsOf_17 ?_
    refine gG_top (nI (c.2 k)) (hC.2 k hkn) ?_
    refine g_goto X 22 (by decide) dX2_ringsOf_18 ?_
    refine g_iret X F ?_ rfl dX2_ringsOf_22
    exact ⟨rfl, rfl⟩

abbrev rmX2_signalAtBeginningOf : Room := { frames := 2, cells := 0, slots := 0, locals := 45 }
set_option maxRecDepth 20000 in
theorem k_sigAt {l : Launch} {B : gB} (hI : gI B) (V : gMem) (c : gCd) (r : Nat) (hC : CodeC V c) (hk : CodeOk c) (hr : r < 2 ^ 31) (ho : nOk r = true) : gM l B yX2_signalAtBeginningOf cX2_signalAtBeginningOf 3 (some .int) rmX2_signalAtBeginningOf [.ref (B.2.1 1 0 0), .int (nI r)] V (fun v V' => v = some (.int (cFindI c r)) ∧ V' = V) := by
  refine gM_of (own := RX2) (L := [(0, .ref (B.2.1 1 0 0)), (1, .int (nI r))]) (by decide +kernel) rfl hI (Nat.le_of_ble_eq_true rfl) rfl ?_
  intro Z hnL hR X F
  have h8 : c.1 ≤ 8 := hk.1
  refine g_iconst X 0 (by decide) dX2_signalAtBeginningOf_0 ?_
  refine g_istore_n X rfl dX2_signalAtBeginningOf_1 [(2, .int 0), (0, .ref (B.2.1 1 0 0)), (1, .int (nI r))] rfl (gnl_lt hnL (by decide)) ?_
  refine gG_L [1, 2, 0] (L' := [(0, .ref (B.2.1 1 0 0)), (1, .int (nI r)), (2, .int 0)]) rfl ?_
  have loop : ∀ (f : Nat) (k : Nat) , k + f = c.1 → (∀ j, j < k → nBeg (c.2 j) r = false) → gG Z B (0, 0) V 2 [(0, .ref (B.2.1 1 0 0)), (1, .int (nI r)), (2, .int (nI k))] [] := by
    intro f
    induction f with
    | zero =>
      intro k  hf hnb
      refine g_iload_n X 2 rfl dX2_signalAtBeginningOf_2 ?_
      refine g_aload_n X 0 rfl dX2_signalAtBeginningOf_3 ?_
      refine gg_X2_size X ⟨by decide, by decide⟩ fX2_18 dX2_signalAtBeginningOf_4 ?_
      refine gG_top (nI c.1) (hC.1) ?_
      refine g_icmp_ge X 30 (by decide) dX2_signalAtBeginningOf_7 (fun c1 => ?_) (fun c1 => ?_)
      · refine g_iconst X (-1) (by decide) dX2_signalAtBeginningOf_30 ?_
        refine g_iret X F ?_ rfl dX2_signalAtBeginningOf_31
        exact ⟨by unfold cFindI; rw [cFind_none (fun j hj => hnb j (by omega))], rfl⟩
      · first | exact absurd (nI_le (by omega) (by omega)) c1 | exact absurd c1 (nI_le (by omega) (by omega))
    | succ f ih =>
      intro k  hf hnb
      refine g_iload_n X 2 rfl dX2_signalAtBeginningOf_2 ?_
      refine g_aload_n X 0 rfl dX2_signalAtBeginningOf_3 ?_
      refine gg_X2_size X ⟨by decide, by decide⟩ fX2_18 dX2_signalAtBeginningOf_4 ?_
      refine gG_top (nI c.1) (hC.1) ?_
      refine g_icmp_ge X 30 (by decide) dX2_signalAtBeginningOf_7 (fun c2 => ?_) (fun c2 => ?_)
      · first | exact absurd (nI_ge (by omega) (by omega)) c2 | exact absurd c2 (nI_ge (by omega) (by omega))
      · refine g_aload_n X 0 rfl dX2_signalAtBeginningOf_10 ?_
        refine g_iload_n X 2 rfl dX2_signalAtBeginningOf_11 ?_
        refine g_callV X hR (rest := []) mX2_ringsOf lX2_22 (k_ringsOf hI V c k (by first | assumption | decide | omega) (by first | assumption | decide | omega) (by first | assumption | decide | omega)) rfl rfl (Nat.le_of_ble_eq_true rfl) ⟨by decide, by decide⟩ rfl rfl rfl ⟨Nat.le_of_ble_eq_true rfl, Nat.le_of_ble_eq_true rfl, Nat.le_of_ble_eq_true rfl, Nat.le_of_ble_eq_true rfl⟩ dX2_signalAtBeginningOf_12 (fun r3 V4 hz_5 => ?_)
        refine gG_ret hz_5.1 hz_5.2 ?_
        refine gG_st [.int (nI (c.2 k))] rfl ?_
        refine g_iload_n X 1 rfl dX2_signalAtBeginningOf_15 ?_
        refine g_callS X hR (As := [.int (nI (c.2 k)), .int (nI r)]) (rest := []) mX4_isBeginning lX2_26 (k_isBeg hI V (c.2 k) r (hk.lt (by omega)) (by first | assumption | omega) (hk.2 _ (by omega)).1 ho) rfl rfl (Nat.le_of_ble_eq_true rfl) ⟨Nat.le_of_ble_eq_true rfl, Nat.le_of_ble_eq_true rfl, Nat.le_of_ble_eq_true rfl, Nat.le_of_ble_eq_true rfl⟩ dX2_signalAtBeginningOf_16 (fun r6 V7 hz_8 => ?_)
        refine gG_ret hz_8.1 hz_8.2 ?_
        refine gG_st [.int (if nBeg (c.2 k) r = true then 1 else 0)] rfl ?_
        by_cases hbg : nBeg (c.2 k) r = true
        · refine gG_top 1 (if_pos hbg) ?_
          refine g_if_eq X 24 (by decide) dX2_signalAtBeginningOf_19 (fun c9 => ?_) (fun c9 => ?_)
          ·  exact absurd c9 (by decide)
          · refine g_iload_n X 2 rfl dX2_signalAtBeginningOf_22 ?_
            refine g_iret X F ?_ rfl dX2_signalAtBeginningOf_23
            exact ⟨by unfold cFindI; rw [cFind_some (by omega) hbg hnb], rfl⟩
        · refine gG_top 0 (if_neg hbg) ?_
          refine g_if_eq X 24 (by decide) dX2_signalAtBeginningOf_19 (fun c10 => ?_) (fun c10 => ?_)
          · refine g_iinc X 2 rfl (nI (k + 1)) (iinc_1 _) dX2_signalAtBeginningOf_24 [(2, .int (nI (k + 1))), (0, .ref (B.2.1 1 0 0)), (1, .int (nI r))] rfl (gnl_lt hnL (by decide)) ?_
            refine g_goto X 2 (by decide) dX2_signalAtBeginningOf_27 ?_
            refine gG_L [1, 2, 0] (L' := [(0, .ref (B.2.1 1 0 0)), (1, .int (nI r)), (2, .int (nI (k + 1)))]) rfl ?_
            refine ih (k + 1) (by omega) (fun j hj => by
              by_cases hjk : j = k
              · rw [hjk]; simpa using hbg
              · exact hnb j (by omega))
          ·  exact absurd c10 (by decide)
  exact loop c.1 0 (by omega) (fun j hj => absurd hj (Nat.not_lt_zero _))

abbrev rmX2_isFull : Room := { frames := 0, cells := 0, slots := 0, locals := 0 }
set_option maxRecDepth 20000 in
theorem k_isFull {l : Launch} {B : gB} (hI : gI B) (V : gMem) (c : gCd) (hC : CodeC V c) (hk : CodeOk c) : gM l B yX2_isFull cX2_isFull 1 (some .boolean) rmX2_isFull [.ref (B.2.1 1 0 0)] V (fun v V' => v = some (.int (if c.1 = 8 then 1 else 0)) ∧ V' = V) := by
  refine gM_of (own := RX2) (L := [(0, .ref (B.2.1 1 0 0))]) (by decide +kernel) rfl hI (Nat.le_of_ble_eq_true rfl) rfl ?_
  intro Z hnL hR X F
  have h8 : c.1 ≤ 8 := hk.1
  refine g_aload_n X 0 rfl dX2_isFull_0 ?_
  refine gg_X2_size X ⟨by decide, by decide⟩ fX2_18 dX2_isFull_1 ?_
  refine gG_top (nI c.1) (hC.1) ?_
  refine g_aload_n X 0 rfl dX2_isFull_4 ?_
  refine gg_X2_signals X ⟨by decide, by decide⟩ fX2_9 dX2_isFull_5 ?_
  refine g_alen X (v := 8) ⟨by decide, by decide⟩ rfl (by decide) dX2_isFull_8 ?_
  by_cases hf : c.1 = 8
  · skip
    refine g_icmp_lt X 16 (by decide) dX2_isFull_9 (fun c1 => ?_) (fun c1 => ?_)
    · first | exact absurd (nI_nlt (b := 8) (by omega) (by omega)) c1 | exact absurd c1 (nI_nlt (b := 8) (by omega) (by omega))
    · refine g_iconst X 1 (by decide) dX2_isFull_12 ?_
      refine g_goto X 17 (by decide) dX2_isFull_13 ?_
      refine g_zret X F rfl ?_ rfl dX2_isFull_17
      exact ⟨by rw [if_pos hf], rfl⟩
  · skip
    refine g_icmp_lt X 16 (by decide) dX2_isFull_9 (fun c2 => ?_) (fun c2 => ?_)
    · refine g_iconst X 0 (by decide) dX2_isFull_16 ?_
      refine g_zret X F rfl ?_ rfl dX2_isFull_17
      exact ⟨by rw [if_neg hf], rfl⟩
    · first | exact absurd (nI_lt (b := 8) (by omega) (by decide)) c2 | exact absurd c2 (nI_lt (b := 8) (by omega) (by decide))

abbrev rmX2_isAmbiguousWith : Room := { frames := 2, cells := 0, slots := 0, locals := 45 }
set_option maxRecDepth 20000 in
theorem k_amb {l : Launch} {B : gB} (hI : gI B) (V : gMem) (c : gCd) (r : Nat) (hC : CodeC V c) (hk : CodeOk c) (hr : r < 2 ^ 31) (ho : nOk r = true) : gM l B yX2_isAmbiguousWith cX2_isAmbiguousWith 4 (some .boolean) rmX2_isAmbiguousWith [.ref (B.2.1 1 0 0), .int (nI r)] V (fun v V' => v = some (.int (if cAmb c r = true then 1 else 0)) ∧ V' = V) := by
  refine gM_of (own := RX2) (L := [(0, .ref (B.2.1 1 0 0)), (1, .int (nI r))]) (by decide +kernel) rfl hI (Nat.le_of_ble_eq_true rfl) rfl ?_
  intro Z hnL hR X F
  have h8 : c.1 ≤ 8 := hk.1
  refine g_iconst X 0 (by decide) dX2_isAmbiguousWith_0 ?_
  refine g_istore_n X rfl dX2_isAmbiguousWith_1 [(2, .int 0), (0, .ref (B.2.1 1 0 0)), (1, .int (nI r))] rfl (gnl_lt hnL (by decide)) ?_
  refine gG_L [1, 2, 0] (L' := [(0, .ref (B.2.1 1 0 0)), (1, .int (nI r)), (2, .int 0)]) rfl ?_
  have loop : ∀ (f : Nat) (k : Nat) , k + f = c.1 → (∀ j, j < k → nBeg (c.2 j) r = false ∧ nBeg r (c.2 j) = false) → gG Z B (0, 0) V 2 [(0, .ref (B.2.1 1 0 0)), (1, .int (nI r)), (2, .int (nI k))] [] := by
    intro f
    induction f with
    | zero =>
      intro k  hf hnb
      refine g_iload_n X 2 rfl dX2_isAmbiguousWith_2 ?_
      refine g_aload_n X 0 rfl dX2_isAmbiguousWith_3 ?_
      refine gg_X2_size X ⟨by decide, by decide⟩ fX2_18 dX2_isAmbiguousWith_4 ?_
      refine gG_top (nI c.1) (hC.1) ?_
      refine g_icmp_ge X 40 (by decide) dX2_isAmbiguousWith_7 (fun c1 => ?_) (fun c1 => ?_)
      · refine g_iconst X 0 (by decide) dX2_isAmbiguousWith_40 ?_
        refine g_zret X F rfl ?_ rfl dX2_isAmbiguousWith_41
        exact ⟨by rw [cAmb_no (fun j hj => hnb j (by omega))]; rfl, rfl⟩
      · first | exact absurd (nI_le (by omega) (by omega)) c1 | exact absurd c1 (nI_le (by omega) (by omega))
    | succ f ih =>
      intro k  hf hnb
      refine g_iload_n X 2 rfl dX2_isAmbiguousWith_2 ?_
      refine g_aload_n X 0 rfl dX2_isAmbiguousWith_3 ?_
      refine gg_X2_size X ⟨by decide, by decide⟩ fX2_18 dX2_isAmbiguousWith_4 ?_
      refine gG_top (nI c.1) (hC.1) ?_
      refine g_icmp_ge X 40 (by decide) dX2_isAmbiguousWith_7 (fun c2 => ?_) (fun c2 => ?_)
      · first | exact absurd (nI_ge (by omega) (by omega)) c2 | exact absurd c2 (nI_ge (by omega) (by omega))
      · refine g_aload_n X 0 rfl dX2_isAmbiguousWith_10 ?_
        refine g_iload_n X 2 rfl dX2_isAmbiguousWith_11 ?_
        refine g_callV X hR (rest := []) mX2_ringsOf lX2_22 (k_ringsOf hI V c k (by first | assumption | decide | omega) (by first | assumption | decide | omega) (by first | assumption | decide | omega)) rfl rfl (Nat.le_of_ble_eq_true rfl) ⟨by decide, by decide⟩ rfl rfl rfl ⟨Nat.le_of_ble_eq_true rfl, Nat.le_of_ble_eq_true rfl, Nat.le_of_ble_eq_true rfl, Nat.le_of_ble_eq_true rfl⟩ dX2_isAmbiguousWith_12 (fun r3 V4 hz_5 => ?_)
        refine gG_ret hz_5.1 hz_5.2 ?_
        refine gG_st [.int (nI (c.2 k))] rfl ?_
        refine g_istore_n X rfl dX2_isAmbiguousWith_15 [(3, .int (nI (c.2 k))), (0, .ref (B.2.1 1 0 0)), (1, .int (nI r)), (2, .int (nI k))] rfl (gnl_lt hnL (by decide)) ?_
        refine g_iload_n X 0 rfl dX2_isAmbiguousWith_16 ?_
        refine g_iload_n X 2 rfl dX2_isAmbiguousWith_17 ?_
        refine g_callS X hR (As := [.int (nI (c.2 k)), .int (nI r)]) (rest := []) mX4_isBeginning lX2_26 (k_isBeg hI V (c.2 k) r (hk.lt (by omega)) (by first | assumption | omega) (hk.2 _ (by omega)).1 ho) rfl rfl (Nat.le_of_ble_eq_true rfl) ⟨Nat.le_of_ble_eq_true rfl, Nat.le_of_ble_eq_true rfl, Nat.le_of_ble_eq_true rfl, Nat.le_of_ble_eq_true rfl⟩ dX2_isAmbiguousWith_18 (fun r6 V7 hz_8 => ?_)
        refine gG_ret hz_8.1 hz_8.2 ?_
        refine gG_st [.int (if nBeg (c.2 k) r = true then 1 else 0)] rfl ?_
        by_cases hb1 : nBeg (c.2 k) r = true
        · refine gG_top 1 (if_pos hb1) ?_
          refine g_if_ne X 32 (by decide) dX2_isAmbiguousWith_21 (fun c9 => ?_) (fun c9 => ?_)
          · refine g_iconst X 1 (by decide) dX2_isAmbiguousWith_32 ?_
            refine g_zret X F rfl ?_ rfl dX2_isAmbiguousWith_33
            exact ⟨by rw [cAmb_yes (k := k) (by omega) (Or.inl hb1)]; rfl, rfl⟩
          ·  exact absurd c9 (by decide)
        · refine gG_top 0 (if_neg hb1) ?_
          refine g_if_ne X 32 (by decide) dX2_isAmbiguousWith_21 (fun c10 => ?_) (fun c10 => ?_)
          ·  exact absurd c10 (by decide)
          · refine g_iload_n X 2 rfl dX2_isAmbiguousWith_24 ?_
            refine g_iload_n X 0 rfl dX2_isAmbiguousWith_25 ?_
            refine g_callS X hR (As := [.int (nI r), .int (nI (c.2 k))]) (rest := []) mX4_isBeginning lX2_26 (k_isBeg hI V r (c.2 k) hr (hk.lt (by omega)) ho (hk.2 _ (by omega)).1) rfl rfl (Nat.le_of_ble_eq_true rfl) ⟨Nat.le_of_ble_eq_true rfl, Nat.le_of_ble_eq_true rfl, Nat.le_of_ble_eq_true rfl, Nat.le_of_ble_eq_true rfl⟩ dX2_isAmbiguousWith_26 (fun r11 V12 hz_13 => ?_)
            refine gG_ret hz_13.1 hz_13.2 ?_
            refine gG_st [.int (if nBeg r (c.2 k) = true then 1 else 0)] rfl ?_
            by_cases hb2 : nBeg r (c.2 k) = true
            · refine gG_top 1 (if_pos hb2) ?_
              refine g_if_eq X 34 (by decide) dX2_isAmbiguousWith_29 (fun c14 => ?_) (fun c14 => ?_)
              ·  exact absurd c14 (by decide)
              · refine g_iconst X 1 (by decide) dX2_isAmbiguousWith_32 ?_
                refine g_zret X F rfl ?_ rfl dX2_isAmbiguousWith_33
                exact ⟨by rw [cAmb_yes (k := k) (by omega) (Or.inr hb2)]; rfl, rfl⟩
            · refine gG_top 0 (if_neg hb2) ?_
              refine g_if_eq X 34 (by decide) dX2_isAmbiguousWith_29 (fun c15 => ?_) (fun c15 => ?_)
              · refine g_iinc X 3 rfl (nI (k + 1)) (iinc_1 _) dX2_isAmbiguousWith_34 [(2, .int (nI (k + 1))), (3, .int (nI (c.2 k))), (0, .ref (B.2.1 1 0 0)), (1, .int (nI r))] rfl (gnl_lt hnL (by decide)) ?_
                refine g_goto X 2 (by decide) dX2_isAmbiguousWith_37 ?_
                refine gG_L [2, 3, 0] (L' := [(0, .ref (B.2.1 1 0 0)), (1, .int (nI r)), (2, .int (nI (k + 1)))]) rfl ?_
                refine ih (k + 1) (by omega) (fun j hj => by
                  by_cases hjk : j = k
                  · rw [hjk]; exact ⟨by simpa using hb1, by simpa using hb2⟩
                  · exact hnb j (by omega))
              ·  exact absurd c15 (by decide)
  exact loop c.1 0 (by omega) (fun j hj => absurd hj (Nat.not_lt_zero _))

def cAdd (c : gCd) (r : Nat) : gCd := (c.1 + 1, fun k => if k = c.1 then r else c.2 k)
theorem CodeOk.add {c : gCd} (h : CodeOk c) {r : Nat} (h8 : c.1 < 8) (ho : nOk r = true) (hr : r < 10 ^ 6) (h0 : 0 < r) : CodeOk (cAdd c r) := by
  refine ⟨h8, fun k hk => ?_⟩
  have hk : k < c.1 + 1 := hk
  show nOk (if k = c.1 then r else c.2 k) = true ∧ (if k = c.1 then r else c.2 k) < 10 ^ 6 ∧ 0 < (if k = c.1 then r else c.2 k)
  split
  · exact ⟨ho, hr, h0⟩
  · exact h.2 k (by omega)
theorem CodeC.add {V : gMem} {c : gCd} (h : CodeC V c) (r : Nat) : CodeC (gup (gup V 2 0 0 c.1 (nI r)) 1 0 0 2 (nI (c.1 + 1))) (cAdd c r) := by
  refine ⟨gup_eq, fun k hk => ?_⟩
  have hk : k < c.1 + 1 := hk
  rw [gup_ne (by simp)]
  show _ = nI (if k = c.1 then r else c.2 k)
  by_cases hq : k = c.1
  · rw [hq, gup_eq, if_pos rfl]
  · rw [gup_ne (by omega), if_neg hq]
    exact h.2 k (by omega)
theorem CodeM.add {V : gMem} {c : gCd} (h : CodeM V c) (r : Nat) : CodeM (gup (gup V 21 0 0 c.1 (nI r)) 20 0 0 1 (nI (c.1 + 1))) (cAdd c r) := by
  refine ⟨gup_eq, fun k hk => ?_⟩
  have hk : k < c.1 + 1 := hk
  rw [gup_ne (by simp)]
  show _ = nI (if k = c.1 then r else c.2 k)
  by_cases hq : k = c.1
  · rw [hq, gup_eq, if_pos rfl]
  · rw [gup_ne (by omega), if_neg hq]
    exact h.2 k (by omega)

abbrev rmX2_add : Room := { frames := 1, cells := 0, slots := 0, locals := 21 }
set_option maxRecDepth 20000 in
theorem k_add {l : Launch} {B : gB} (hI : gI B) (V : gMem) (c : gCd) (r : Nat) (hC : CodeC V c) (hk : CodeOk c) (h8 : c.1 < 8) : gM l B yX2_add cX2_add 2 (some .int) rmX2_add [.ref (B.2.1 1 0 0), .int (nI r)] V (fun v V' => v = some (.int (nI c.1)) ∧ V' = gup (gup V 2 0 0 c.1 (nI r)) 1 0 0 2 (nI (c.1 + 1))) := by
  refine gM_of (own := RX2) (L := [(0, .ref (B.2.1 1 0 0)), (1, .int (nI r))]) (by decide +kernel) rfl hI (Nat.le_of_ble_eq_true rfl) rfl ?_
  intro Z hnL hR X F
  refine g_aload_n X 0 rfl dX2_add_0 ?_
  refine gg_X2_size X ⟨by decide, by decide⟩ fX2_18 dX2_add_1 ?_
  refine gG_top (nI c.1) (hC.1) ?_
  refine g_aload_n X 0 rfl dX2_add_4 ?_
  refine gg_X2_signals X ⟨by decide, by decide⟩ fX2_9 dX2_add_5 ?_
  refine g_alen X (v := 8) ⟨by decide, by decide⟩ rfl (by decide) dX2_add_8 ?_
  refine g_callS X hR (As := [.int (nI c.1), .int 8]) (rest := []) mX6_isIndex lX2_32 (k_isIndex1 hI V (nI c.1) 8 (nI_pos' (by omega)) (nI_lt (b := 8) h8 (by decide))) rfl rfl (Nat.le_of_ble_eq_true rfl) ⟨Nat.le_of_ble_eq_true rfl, Nat.le_of_ble_eq_true rfl, Nat.le_of_ble_eq_true rfl, Nat.le_of_ble_eq_true rfl⟩ dX2_add_9 (fun r1 V2 hz_3 => ?_)
  refine gG_ret hz_3.1 hz_3.2 ?_
  refine gG_st [.int 1] rfl ?_
  refine g_if_ne X 17 (by decide) dX2_add_12 (fun c4 => ?_) (fun c4 => ?_)
  · refine g_aload_n X 0 rfl dX2_add_17 ?_
    refine gg_X2_signals X ⟨by decide, by decide⟩ fX2_9 dX2_add_18 ?_
    refine g_aload_n X 0 rfl dX2_add_21 ?_
    refine gg_X2_size X ⟨by decide, by decide⟩ fX2_18 dX2_add_22 ?_
    refine gG_top (nI c.1) (hC.1) ?_
    refine g_iload_n X 1 rfl dX2_add_25 ?_
    refine g_iastN X (c.1) rfl h8 (by decide) ⟨by decide, by decide⟩ (fun _ => rfl) dX2_add_26 ?_
    refine gG_nm (fun V5 hV5 => ?_)
    refine g_aload_n X 0 rfl dX2_add_27 ?_
    refine g_dup X rfl dX2_add_28 ?_
    refine gg_X2_size X ⟨by decide, by decide⟩ fX2_18 dX2_add_29 ?_
    refine gG_top (nI c.1) (by rw [hV5, gup_ne (by simp)]; exact hC.1) ?_
    refine g_iconst X 1 (by decide) dX2_add_32 ?_
    refine g_iadd X dX2_add_33 ?_
    refine gG_top (nI (c.1 + 1)) (nI_1 _) ?_
    refine gp_X2_size X ⟨by decide, by decide⟩ fX2_18 dX2_add_34 ?_
    refine gG_nm (fun V6 hV6 => ?_)
    refine g_aload_n X 0 rfl dX2_add_37 ?_
    refine gg_X2_size X ⟨by decide, by decide⟩ fX2_18 dX2_add_38 ?_
    refine gG_top (nI (c.1 + 1)) (by rw [hV6, gup_eq]) ?_
    refine g_iconst X 1 (by decide) dX2_add_41 ?_
    refine g_isub X dX2_add_42 ?_
    refine gG_top (nI c.1) (nI_pred _) ?_
    refine g_iret X F ?_ rfl dX2_add_43
    exact ⟨rfl, by rw [hV6, hV5]⟩
  ·  exact absurd c4 (by decide)

abbrev rmX2_readRow : Room := { frames := 3, cells := 0, slots := 0, locals := 67 }
set_option maxRecDepth 20000 in
theorem k_readRow {l : Launch} {B : gB} (hI : gI B) (V : gMem) (c : gCd) (r : Nat) (what : Nat) (hC : CodeC V c) (hk : CodeOk c) (hr : r < 2 ^ 31) (ho : nOk r = true) (hw : what < 3) : gM l B yX2_readRow cX2_readRow 8 (some .int) rmX2_readRow [.ref (B.2.1 1 0 0), .int (nI r), .int (nI what)] V (fun v V' => v = some (.int (cRead c r what)) ∧ V' = V) := by
  refine gM_of (own := RX2) (L := [(0, .ref (B.2.1 1 0 0)), (1, .int (nI r)), (2, .int (nI what))]) (by decide +kernel) rfl hI (Nat.le_of_ble_eq_true rfl) rfl ?_
  intro Z hnL hR X F
  have h8 : c.1 ≤ 8 := hk.1
  refine g_iload_n X 1 rfl dX2_readRow_0 ?_
  refine g_istore_n X rfl dX2_readRow_1 [(3, .int (nI r)), (0, .ref (B.2.1 1 0 0)), (1, .int (nI r)), (2, .int (nI what))] rfl (gnl_lt hnL (by decide)) ?_
  refine g_iconst X 0 (by decide) dX2_readRow_2 ?_
  refine g_istore X dX2_readRow_3 [(4, .int 0), (3, .int (nI r)), (0, .ref (B.2.1 1 0 0)), (1, .int (nI r)), (2, .int (nI what))] rfl (gnl_lt hnL (by decide)) ?_
  refine g_iconst X (-1) (by decide) dX2_readRow_5 ?_
  refine g_istore X dX2_readRow_6 [(5, .int ((-1))), (4, .int 0), (3, .int (nI r)), (0, .ref (B.2.1 1 0 0)), (1, .int (nI r)), (2, .int (nI what))] rfl (gnl_lt hnL (by decide)) ?_
  refine g_iconst X 0 (by decide) dX2_readRow_8 ?_
  refine g_istore X dX2_readRow_9 [(6, .int 0), (5, .int ((-1))), (4, .int 0), (3, .int (nI r)), (0, .ref (B.2.1 1 0 0)), (1, .int (nI r)), (2, .int (nI what))] rfl (gnl_lt hnL (by decide)) ?_
  refine gG_L [4, 5, 6, 3, 2, 1, 0] (L' := [(0, .ref (B.2.1 1 0 0)), (1, .int (nI r)), (2, .int (nI what)), (3, .int (nI r)), (4, .int 0), (5, .int ((-1))), (6, .int 0)]) rfl ?_
  have loop : ∀ (f : Nat) (i : Nat) (m : Nat) (la : Int32) (le : Nat), i + f = 9 → cRd c 9 0 (-1) r = cRd c f m la le → nOk le = true → le < 2 ^ 31 → gG Z B (0, 0) V 11 [(0, .ref (B.2.1 1 0 0)), (1, .int (nI r)), (2, .int (nI what)), (3, .int (nI le)), (4, .int (nI m)), (5, .int la), (6, .int (nI i))] [] := by
    intro f
    induction f with
    | zero =>
      intro i m la le hf hRd ho hle
      refine g_iload X 6 rfl dX2_readRow_11 ?_
      refine g_bipush X 9 (by decide) dX2_readRow_13 ?_
      refine g_icmp_ge X 58 (by decide) dX2_readRow_15 (fun c1 => ?_) (fun c1 => ?_)
      · refine g_iload_n X 2 rfl dX2_readRow_58 ?_
        have hfin : cRd c 9 0 (-1) r = (m, la, le) := by rw [hRd]; rfl
        rcases (show what = 0 ∨ what = 1 ∨ what = 2 by omega) with rfl | rfl | rfl
        · refine gG_top 0 rfl ?_
          refine g_lookup X (25) 84 (by decide) (by decide) (by decide) dX2_readRow_59 ?_
          refine g_iload X 4 rfl dX2_readRow_84 ?_
          refine g_iret X F ?_ rfl dX2_readRow_86
          exact ⟨by unfold cRead; rw [hfin]; rfl, rfl⟩
        · refine gG_top 1 rfl ?_
          refine g_lookup X (28) 87 (by decide) (by decide) (by decide) dX2_readRow_59 ?_
          refine g_iload X 5 rfl dX2_readRow_87 ?_
          refine g_iret X F ?_ rfl dX2_readRow_89
          exact ⟨by unfold cRead; rw [hfin]; rfl, rfl⟩
        · refine gG_top 2 rfl ?_
          refine g_lookup X (31) 90 (by decide) (by decide) (by decide) dX2_readRow_59 ?_
          refine g_iload_n X 3 rfl dX2_readRow_90 ?_
          refine g_callS X hR (As := [.int (nI le)]) (rest := []) mX4_lengthOf lX2_42 (k_lenR hI V le hle ho) rfl rfl (Nat.le_of_ble_eq_true rfl) ⟨Nat.le_of_ble_eq_true rfl, Nat.le_of_ble_eq_true rfl, Nat.le_of_ble_eq_true rfl, Nat.le_of_ble_eq_true rfl⟩ dX2_readRow_91 (fun r2 V3 hz_4 => ?_)
          refine gG_ret hz_4.1 hz_4.2 ?_
          refine gG_st [.int (nI (nLen le))] rfl ?_
          refine g_iret X F ?_ rfl dX2_readRow_94
          exact ⟨by unfold cRead; rw [hfin]; rfl, rfl⟩
      · first | exact absurd (nI_le (a := 9) (by omega) (by omega)) c1 | exact absurd c1 (nI_le (a := 9) (by omega) (by omega))
    | succ f ih =>
      intro i m la le hf hRd ho hle
      refine g_iload X 6 rfl dX2_readRow_11 ?_
      refine g_bipush X 9 (by decide) dX2_readRow_13 ?_
      refine g_icmp_ge X 58 (by decide) dX2_readRow_15 (fun c5 => ?_) (fun c5 => ?_)
      · first | exact absurd (nI_ge (b := 9) (by omega) (by decide)) c5 | exact absurd c5 (nI_ge (b := 9) (by omega) (by decide))
      · refine g_aload_n X 0 rfl dX2_readRow_18 ?_
        refine g_iload_n X 3 rfl dX2_readRow_19 ?_
        refine g_callV X hR (rest := []) mX2_signalAtBeginningOf lX2_35 (k_sigAt hI V c le (by first | assumption | decide | omega) (by first | assumption | decide | omega) (by first | assumption | decide | omega) (by first | assumption | decide | omega)) rfl rfl (Nat.le_of_ble_eq_true rfl) ⟨by decide, by decide⟩ rfl rfl rfl ⟨Nat.le_of_ble_eq_true rfl, Nat.le_of_ble_eq_true rfl, Nat.le_of_ble_eq_true rfl, Nat.le_of_ble_eq_true rfl⟩ dX2_readRow_20 (fun r6 V7 hz_8 => ?_)
        refine gG_ret hz_8.1 hz_8.2 ?_
        refine gG_st [.int (cFindI c le)] rfl ?_
        cases hcf : cFind c le with
        | none =>
          refine gG_top (-1) (by unfold cFindI; rw [hcf]) ?_
          refine g_istore X dX2_readRow_23 [(7, .int ((-1))), (0, .ref (B.2.1 1 0 0)), (1, .int (nI r)), (2, .int (nI what)), (3, .int (nI le)), (4, .int (nI m)), (5, .int la), (6, .int (nI i))] rfl (gnl_lt hnL (by decide)) ?_
          refine g_iload X 0 rfl dX2_readRow_25 ?_
          refine g_iconst X (-1) (by decide) dX2_readRow_27 ?_
          refine g_icmp_ne X 34 (by decide) dX2_readRow_28 (fun c9 => ?_) (fun c9 => ?_)
          ·  exact absurd c9 (by decide)
          · refine g_goto X 58 (by decide) dX2_readRow_31 ?_
            refine g_iload_n X 3 rfl dX2_readRow_58 ?_
            have hfin : cRd c 9 0 (-1) r = (m, la, le) := by rw [hRd]; exact cRd_none hcf _ _ _
            rcases (show what = 0 ∨ what = 1 ∨ what = 2 by omega) with rfl | rfl | rfl
            · refine gG_top 0 rfl ?_
              refine g_lookup X (25) 84 (by decide) (by decide) (by decide) dX2_readRow_59 ?_
              refine g_iload X 5 rfl dX2_readRow_84 ?_
              refine g_iret X F ?_ rfl dX2_readRow_86
              exact ⟨by unfold cRead; rw [hfin]; rfl, rfl⟩
            · refine gG_top 1 rfl ?_
              refine g_lookup X (28) 87 (by decide) (by decide) (by decide) dX2_readRow_59 ?_
              refine g_iload X 6 rfl dX2_readRow_87 ?_
              refine g_iret X F ?_ rfl dX2_readRow_89
              exact ⟨by unfold cRead; rw [hfin]; rfl, rfl⟩
            · refine gG_top 2 rfl ?_
              refine g_lookup X (31) 90 (by decide) (by decide) (by decide) dX2_readRow_59 ?_
              refine g_iload_n X 4 rfl dX2_readRow_90 ?_
              refine g_callS X hR (As := [.int (nI le)]) (rest := []) mX4_lengthOf lX2_42 (k_lenR hI V le hle ho) rfl rfl (Nat.le_of_ble_eq_true rfl) ⟨Nat.le_of_ble_eq_true rfl, Nat.le_of_ble_eq_true rfl, Nat.le_of_ble_eq_true rfl, Nat.le_of_ble_eq_true rfl⟩ dX2_readRow_91 (fun r10 V11 hz_12 => ?_)
              refine gG_ret hz_12.1 hz_12.2 ?_
              refine gG_st [.int (nI (nLen le))] rfl ?_
              refine g_iret X F ?_ rfl dX2_readRow_94
              exact ⟨by unfold cRead; rw [hfin]; rfl, rfl⟩
        | some k =>
          obtain ⟨hkn, hbg⟩ := cFind_mem hcf
          obtain ⟨b1, b2, b3, b4⟩ := beh_ok hk ho hcf
          refine gG_top (nI k) (by unfold cFindI; rw [hcf]) ?_
          refine g_istore X dX2_readRow_23 [(7, .int (nI k)), (0, .ref (B.2.1 1 0 0)), (1, .int (nI r)), (2, .int (nI what)), (3, .int (nI le)), (4, .int (nI m)), (5, .int la), (6, .int (nI i))] rfl (gnl_lt hnL (by decide)) ?_
          refine g_iload X 0 rfl dX2_readRow_25 ?_
          refine g_iconst X (-1) (by decide) dX2_readRow_27 ?_
          refine g_icmp_ne X 34 (by decide) dX2_readRow_28 (fun c13 => ?_) (fun c13 => ?_)
          · refine g_aload_n X 1 rfl dX2_readRow_34 ?_
            refine g_iload X 0 rfl dX2_readRow_35 ?_
            refine g_callV X hR (rest := []) mX2_ringsOf lX2_22 (k_ringsOf hI V c k (by first | assumption | decide | omega) (by first | assumption | decide | omega) (by first | assumption | decide | omega)) rfl rfl (Nat.le_of_ble_eq_true rfl) ⟨by decide, by decide⟩ rfl rfl rfl ⟨Nat.le_of_ble_eq_true rfl, Nat.le_of_ble_eq_true rfl, Nat.le_of_ble_eq_true rfl, Nat.le_of_ble_eq_true rfl⟩ dX2_readRow_37 (fun r14 V15 hz_16 => ?_)
            refine gG_ret hz_16.1 hz_16.2 ?_
            refine gG_st [.int (nI (c.2 k))] rfl ?_
            refine g_iload_n X 4 rfl dX2_readRow_40 ?_
            refine g_callS X hR (As := [.int (nI (c.2 k)), .int (nI le)]) (rest := []) mX4_behindBeginning lX2_38 (k_beh hI V (c.2 k) le (hk.lt hkn) hle (hk.2 k hkn).1 ho (by first | assumption | decide | omega)) rfl rfl (Nat.le_of_ble_eq_true rfl) ⟨Nat.le_of_ble_eq_true rfl, Nat.le_of_ble_eq_true rfl, Nat.le_of_ble_eq_true rfl, Nat.le_of_ble_eq_true rfl⟩ dX2_readRow_41 (fun r17 V18 hz_19 => ?_)
            refine gG_ret hz_19.1 hz_19.2 ?_
            refine gG_st [.int (nI (le % 10 ^ (nLen le - nLen (c.2 k))))] rfl ?_
            refine g_istore_n X rfl dX2_readRow_44 [(3, .int (nI (le % 10 ^ (nLen le - nLen (c.2 k))))), (7, .int (nI k)), (0, .ref (B.2.1 1 0 0)), (1, .int (nI r)), (2, .int (nI what)), (4, .int (nI m)), (5, .int la), (6, .int (nI i))] rfl (gnl_lt hnL (by decide)) ?_
            refine g_iinc X 5 rfl (nI (m + 1)) (iinc_1 _) dX2_readRow_45 [(4, .int (nI (m + 1))), (3, .int (nI (le % 10 ^ (nLen le - nLen (c.2 k))))), (7, .int (nI k)), (0, .ref (B.2.1 1 0 0)), (1, .int (nI r)), (2, .int (nI what)), (5, .int la), (6, .int (nI i))] rfl (gnl_lt hnL (by decide)) ?_
            refine g_iload X 2 rfl dX2_readRow_48 ?_
            refine g_istore X dX2_readRow_50 [(5, .int (nI k)), (4, .int (nI (m + 1))), (3, .int (nI (le % 10 ^ (nLen le - nLen (c.2 k))))), (7, .int (nI k)), (0, .ref (B.2.1 1 0 0)), (1, .int (nI r)), (2, .int (nI what)), (6, .int (nI i))] rfl (gnl_lt hnL (by decide)) ?_
            refine g_iinc X 7 rfl (nI (i + 1)) (iinc_1 _) dX2_readRow_52 [(6, .int (nI (i + 1))), (5, .int (nI k)), (4, .int (nI (m + 1))), (3, .int (nI (le % 10 ^ (nLen le - nLen (c.2 k))))), (7, .int (nI k)), (0, .ref (B.2.1 1 0 0)), (1, .int (nI r)), (2, .int (nI what))] rfl (gnl_lt hnL (by decide)) ?_
            refine g_goto X 11 (by decide) dX2_readRow_55 ?_
            refine gG_L [5, 6, 7, 3, 2, 1, 0] (L' := [(0, .ref (B.2.1 1 0 0)), (1, .int (nI r)), (2, .int (nI what)), (3, .int (nI (le % 10 ^ (nLen le - nLen (c.2 k))))), (4, .int (nI (m + 1))), (5, .int (nI k)), (6, .int (nI (i + 1)))]) rfl ?_
            refine ih (i + 1) (m + 1) (nI k) (le % 10 ^ (nLen le - nLen (c.2 k))) (by omega) (by rw [hRd, cRd_some hcf]) b1 (by omega)
          · first | exact absurd (nI_ne_m1 (by omega)) c13 | exact absurd c13 (nI_ne_m1 (by omega))
  exact loop 9 0 0 (-1) r (by omega) rfl ho hr

theorem rd_len {c : gCd} (hc : CodeOk c) {r : Nat} (ho : nOk r = true) : ∀ {f m : Nat} {la : Int32}, nLen (cRd c f m la r).2.2 ≤ nLen r ∧ nOk (cRd c f m la r).2.2 = true := by
  intro f
  induction f generalizing r with
  | zero => intro m la; exact ⟨Nat.le_refl _, ho⟩
  | succ f ih =>
    intro m la
    cases h : cFind c r with
    | none => rw [cRd_none h]; exact ⟨Nat.le_refl _, ho⟩
    | some k =>
      rw [cRd_some h]
      obtain ⟨b1, b2, b3, b4⟩ := beh_ok hc ho h
      have := ih b1 (m := m + 1) (la := nI k)
      exact ⟨by omega, this.2⟩

abbrev rmX2_safeRings : Room := { frames := 4, cells := 0, slots := 0, locals := 94 }
set_option maxRecDepth 20000 in
theorem k_safeR {l : Launch} {B : gB} (hI : gI B) (V : gMem) (c : gCd) (r : Nat) (hC : CodeC V c) (hk : CodeOk c) (h6 : nLen r ≤ 6) (hr : r < 2 ^ 31) (ho : nOk r = true) : gM l B yX2_safeRings cX2_safeRings 6 (some .int) rmX2_safeRings [.ref (B.2.1 1 0 0), .int (nI r)] V (fun v V' => v = some (.int (nI (cSafe c r))) ∧ V' = V) := by
  refine gM_of (own := RX2) (L := [(0, .ref (B.2.1 1 0 0)), (1, .int (nI r))]) (by decide +kernel) rfl hI (Nat.le_of_ble_eq_true rfl) rfl ?_
  intro Z hnL hR X F
  have h8 : c.1 ≤ 8 := hk.1
  refine g_iload_n X 1 rfl dX2_safeRings_0 ?_
  refine g_callS X hR (As := [.int (nI r)]) (rest := []) mX4_lengthOf lX2_42 (k_lenR hI V r (by first | assumption | decide | omega) (by first | assumption | decide | omega)) rfl rfl (Nat.le_of_ble_eq_true rfl) ⟨Nat.le_of_ble_eq_true rfl, Nat.le_of_ble_eq_true rfl, Nat.le_of_ble_eq_true rfl, Nat.le_of_ble_eq_true rfl⟩ dX2_safeRings_1 (fun r1 V2 hz_3 => ?_)
  refine gG_ret hz_3.1 hz_3.2 ?_
  refine gG_st [.int (nI (nLen r))] rfl ?_
  refine g_istore_n X rfl dX2_safeRings_4 [(2, .int (nI (nLen r))), (0, .ref (B.2.1 1 0 0)), (1, .int (nI r))] rfl (gnl_lt hnL (by decide)) ?_
  refine g_iconst X 0 (by decide) dX2_safeRings_5 ?_
  refine g_istore_n X rfl dX2_safeRings_6 [(3, .int 0), (2, .int (nI (nLen r))), (0, .ref (B.2.1 1 0 0)), (1, .int (nI r))] rfl (gnl_lt hnL (by decide)) ?_
  refine g_iconst X 0 (by decide) dX2_safeRings_7 ?_
  refine g_istore X dX2_safeRings_8 [(4, .int 0), (3, .int 0), (2, .int (nI (nLen r))), (0, .ref (B.2.1 1 0 0)), (1, .int (nI r))] rfl (gnl_lt hnL (by decide)) ?_
  refine gG_L [3, 4, 2, 1, 0] (L' := [(0, .ref (B.2.1 1 0 0)), (1, .int (nI r)), (2, .int (nI (nLen r))), (3, .int 0), (4, .int 0)]) rfl ?_
  have loop : ∀ (f : Nat) (p : Nat) , p + f = nLen r →  gG Z B (0, 0) V 10 [(0, .ref (B.2.1 1 0 0)), (1, .int (nI r)), (2, .int (nI (nLen r))), (3, .int (nI (cntF (fun p => ! cWhole c (nWo r p)) p))), (4, .int (nI p))] [] := by
    intro f
    induction f with
    | zero =>
      intro p  hf 
      refine g_iload X 4 rfl dX2_safeRings_10 ?_
      refine g_iload_n X 2 rfl dX2_safeRings_12 ?_
      refine g_icmp_ge X 48 (by decide) dX2_safeRings_13 (fun c4 => ?_) (fun c4 => ?_)
      · refine g_iload_n X 3 rfl dX2_safeRings_48 ?_
        refine g_iret X F ?_ rfl dX2_safeRings_49
        exact ⟨by rw [show p = nLen r by omega]; rfl, rfl⟩
      · first | exact absurd (nI_le (by omega) (by omega)) c4 | exact absurd c4 (nI_le (by omega) (by omega))
    | succ f ih =>
      intro p  hf 
      obtain ⟨o1, o2⟩ := nWo_ok ho (p := p) (by omega)
      have hwl : nWo r p < 2 ^ 31 := Nat.lt_trans (lt_nLen 6 (by omega)) (by decide)
      refine g_iload X 4 rfl dX2_safeRings_10 ?_
      refine g_iload_n X 2 rfl dX2_safeRings_12 ?_
      refine g_icmp_ge X 48 (by decide) dX2_safeRings_13 (fun c5 => ?_) (fun c5 => ?_)
      · first | exact absurd (nI_ge (by omega) (by omega)) c5 | exact absurd c5 (nI_ge (by omega) (by omega))
      · refine g_iload_n X 1 rfl dX2_safeRings_16 ?_
        refine g_iload X 4 rfl dX2_safeRings_17 ?_
        refine g_callS X hR (As := [.int (nI r), .int (nI p)]) (rest := []) mX4_withoutRing lX2_45 (k_woR hI V r p (by first | assumption | decide | omega) (by omega)) rfl rfl (Nat.le_of_ble_eq_true rfl) ⟨Nat.le_of_ble_eq_true rfl, Nat.le_of_ble_eq_true rfl, Nat.le_of_ble_eq_true rfl, Nat.le_of_ble_eq_true rfl⟩ dX2_safeRings_19 (fun r6 V7 hz_8 => ?_)
        refine gG_ret hz_8.1 hz_8.2 ?_
        refine gG_st [.int (nI (nWo r p))] rfl ?_
        refine g_istore X dX2_safeRings_22 [(5, .int (nI (nWo r p))), (0, .ref (B.2.1 1 0 0)), (1, .int (nI r)), (2, .int (nI (nLen r))), (3, .int (nI (cntF (fun p => ! cWhole c (nWo r p)) p))), (4, .int (nI p))] rfl (gnl_lt hnL (by decide)) ?_
        refine g_iload X 0 rfl dX2_safeRings_24 ?_
        by_cases hz0 : nWo r p = 0
        · refine gG_top 0 (by rw [hz0]; rfl) ?_
          refine g_if_eq X 39 (by decide) dX2_safeRings_26 (fun c9 => ?_) (fun c9 => ?_)
          · refine g_iinc X 4 rfl (nI ((cntF (fun p => ! cWhole c (nWo r p)) p) + 1)) (iinc_1 _) dX2_safeRings_39 [(3, .int (nI ((cntF (fun p => ! cWhole c (nWo r p)) p) + 1))), (5, .int (nI (nWo r p))), (0, .ref (B.2.1 1 0 0)), (1, .int (nI r)), (2, .int (nI (nLen r))), (4, .int (nI p))] rfl (gnl_lt hnL (by decide)) ?_
            refine gG_Le [(3, .int (nI (cntF (fun p => ! cWhole c (nWo r p)) (p + 1)))), (5, .int (nI (nWo r p))), (0, .ref (B.2.1 1 0 0)), (1, .int (nI r)), (2, .int (nI (nLen r))), (4, .int (nI p))] (by rw [show cntF (fun p => ! cWhole c (nWo r p)) (p + 1) = cntF (fun p => ! cWhole c (nWo r p)) p + 1 from congrArg (cntF (fun p => ! cWhole c (nWo r p)) p + ·) (if_pos (show (! cWhole c (nWo r p)) = true from by unfold cWhole; rw [hz0]; rfl))]) ?_
            refine g_iinc X 5 rfl (nI (p + 1)) (iinc_1 _) dX2_safeRings_42 [(4, .int (nI (p + 1))), (3, .int (nI (cntF (fun p => ! cWhole c (nWo r p)) (p + 1)))), (5, .int (nI (nWo r p))), (0, .ref (B.2.1 1 0 0)), (1, .int (nI r)), (2, .int (nI (nLen r)))] rfl (gnl_lt hnL (by decide)) ?_
            refine g_goto X 10 (by decide) dX2_safeRings_45 ?_
            refine gG_L [3, 4, 5, 1, 0] (L' := [(0, .ref (B.2.1 1 0 0)), (1, .int (nI r)), (2, .int (nI (nLen r))), (3, .int (nI (cntF (fun p => ! cWhole c (nWo r p)) (p + 1)))), (4, .int (nI (p + 1)))]) rfl ?_
            refine ih (p + 1) (by omega)
          ·  exact absurd c9 (by decide)
        · skip
          refine g_if_eq X 39 (by decide) dX2_safeRings_26 (fun c10 => ?_) (fun c10 => ?_)
          · first | exact absurd (nI_ne0 (by omega) (by omega)) c10 | exact absurd c10 (nI_ne0 (by omega) (by omega))
          · refine g_aload_n X 1 rfl dX2_safeRings_29 ?_
            refine g_iload X 0 rfl dX2_safeRings_30 ?_
            refine g_iconst X 2 (by decide) dX2_safeRings_32 ?_
            refine g_callV X hR (rest := []) mX2_readRow lX2_48 (k_readRow hI V c (nWo r p) 2 (by first | assumption | decide | omega) (by first | assumption | decide | omega) hwl o1 (by decide)) rfl rfl (Nat.le_of_ble_eq_true rfl) ⟨by decide, by decide⟩ rfl rfl rfl ⟨Nat.le_of_ble_eq_true rfl, Nat.le_of_ble_eq_true rfl, Nat.le_of_ble_eq_true rfl, Nat.le_of_ble_eq_true rfl⟩ dX2_safeRings_33 (fun r11 V12 hz_13 => ?_)
            refine gG_ret hz_13.1 hz_13.2 ?_
            refine gG_st [.int (cRead c (nWo r p) 2)] rfl ?_
            have hrd : cRead c (nWo r p) 2 = nI (nLen (cRd c 9 0 (-1) (nWo r p)).2.2) := rfl
            have hrl := rd_len (c := c) hk o1 (f := 9) (m := 0) (la := -1)
            by_cases hw0 : (cRd c 9 0 (-1) (nWo r p)).2.2 = 0
            · refine gG_top 0 (by rw [hrd, hw0, nLen_0]; rfl) ?_
              refine g_if_le X 42 (by decide) dX2_safeRings_36 (fun c14 => ?_) (fun c14 => ?_)
              · refine gG_Le [(5, .int (nI (nWo r p))), (0, .ref (B.2.1 1 0 0)), (1, .int (nI r)), (2, .int (nI (nLen r))), (3, .int (nI (cntF (fun p => ! cWhole c (nWo r p)) (p + 1)))), (4, .int (nI p))] (by rw [show cntF (fun p => ! cWhole c (nWo r p)) (p + 1) = cntF (fun p => ! cWhole c (nWo r p)) p + 0 from congrArg (cntF (fun p => ! cWhole c (nWo r p)) p + ·) (if_neg (show ¬ (! cWhole c (nWo r p)) = true from by unfold cWhole; rw [hw0, decide_eq_true (Nat.pos_of_ne_zero hz0)]; decide)), Nat.add_zero]) ?_
                refine g_iinc X 5 rfl (nI (p + 1)) (iinc_1 _) dX2_safeRings_42 [(4, .int (nI (p + 1))), (5, .int (nI (nWo r p))), (0, .ref (B.2.1 1 0 0)), (1, .int (nI r)), (2, .int (nI (nLen r))), (3, .int (nI (cntF (fun p => ! cWhole c (nWo r p)) (p + 1))))] rfl (gnl_lt hnL (by decide)) ?_
                refine g_goto X 10 (by decide) dX2_safeRings_45 ?_
                refine gG_L [2, 3, 4, 5, 0] (L' := [(0, .ref (B.2.1 1 0 0)), (1, .int (nI r)), (2, .int (nI (nLen r))), (3, .int (nI (cntF (fun p => ! cWhole c (nWo r p)) (p + 1)))), (4, .int (nI (p + 1)))]) rfl ?_
                refine ih (p + 1) (by omega)
              ·  exact absurd c14 (by decide)
            · rw [hrd]
              refine g_if_le X 42 (by decide) dX2_safeRings_36 (fun c15 => ?_) (fun c15 => ?_)
              · first | exact absurd (nI_nle (nLen_pos hw0) (by omega)) c15 | exact absurd c15 (nI_nle (nLen_pos hw0) (by omega))
              · refine g_iinc X 4 rfl (nI ((cntF (fun p => ! cWhole c (nWo r p)) p) + 1)) (iinc_1 _) dX2_safeRings_39 [(3, .int (nI ((cntF (fun p => ! cWhole c (nWo r p)) p) + 1))), (5, .int (nI (nWo r p))), (0, .ref (B.2.1 1 0 0)), (1, .int (nI r)), (2, .int (nI (nLen r))), (4, .int (nI p))] rfl (gnl_lt hnL (by decide)) ?_
                refine gG_Le [(3, .int (nI (cntF (fun p => ! cWhole c (nWo r p)) (p + 1)))), (5, .int (nI (nWo r p))), (0, .ref (B.2.1 1 0 0)), (1, .int (nI r)), (2, .int (nI (nLen r))), (4, .int (nI p))] (by rw [show cntF (fun p => ! cWhole c (nWo r p)) (p + 1) = cntF (fun p => ! cWhole c (nWo r p)) p + 1 from congrArg (cntF (fun p => ! cWhole c (nWo r p)) p + ·) (if_pos (show (! cWhole c (nWo r p)) = true from by unfold cWhole; rw [decide_eq_false hw0, Bool.and_false]; rfl))]) ?_
                refine g_iinc X 5 rfl (nI (p + 1)) (iinc_1 _) dX2_safeRings_42 [(4, .int (nI (p + 1))), (3, .int (nI (cntF (fun p => ! cWhole c (nWo r p)) (p + 1)))), (5, .int (nI (nWo r p))), (0, .ref (B.2.1 1 0 0)), (1, .int (nI r)), (2, .int (nI (nLen r)))] rfl (gnl_lt hnL (by decide)) ?_
                refine g_goto X 10 (by decide) dX2_safeRings_45 ?_
                refine gG_L [3, 4, 5, 1, 0] (L' := [(0, .ref (B.2.1 1 0 0)), (1, .int (nI r)), (2, .int (nI (nLen r))), (3, .int (nI (cntF (fun p => ! cWhole c (nWo r p)) (p + 1)))), (4, .int (nI (p + 1)))]) rfl ?_
                refine ih (p + 1) (by omega)
  exact loop (nLen r) 0 (by omega)

abbrev rmX2_rowsByLastSignal : Room := { frames := 2, cells := 0, slots := 0, locals := 42 }
set_option maxRecDepth 20000 in
theorem k_rbl {l : Launch} {B : gB} (hI : gI B) (V : gMem) (c : gCd) (n : Nat) (hC : CodeC V c) (hk : CodeOk c) (hT : ∀ j, j < n → V 3 0 0 j = cRows c j) (hn : n < 21) (hn0 : 0 < n) : gM l B yX2_rowsByLastSignal cX2_rowsByLastSignal 5 (some .int) rmX2_rowsByLastSignal [.ref (B.2.1 1 0 0), .int (nI n)] V (fun v V' => v = some (.int (cRows c n)) ∧ V' = V) := by
  refine gM_of (own := RX2) (L := [(0, .ref (B.2.1 1 0 0)), (1, .int (nI n))]) (by decide +kernel) rfl hI (Nat.le_of_ble_eq_true rfl) rfl ?_
  intro Z hnL hR X F
  have h8 : c.1 ≤ 8 := hk.1
  refine g_iconst X 0 (by decide) dX2_rowsByLastSignal_0 ?_
  refine g_istore_n X rfl dX2_rowsByLastSignal_1 [(2, .int 0), (0, .ref (B.2.1 1 0 0)), (1, .int (nI n))] rfl (gnl_lt hnL (by decide)) ?_
  refine g_iconst X 0 (by decide) dX2_rowsByLastSignal_2 ?_
  refine g_istore_n X rfl dX2_rowsByLastSignal_3 [(3, .int 0), (2, .int 0), (0, .ref (B.2.1 1 0 0)), (1, .int (nI n))] rfl (gnl_lt hnL (by decide)) ?_
  refine gG_L [2, 3, 1, 0] (L' := [(0, .ref (B.2.1 1 0 0)), (1, .int (nI n)), (2, .int 0), (3, .int 0)]) rfl ?_
  have loop : ∀ (f : Nat) (k : Nat) , k + f = c.1 →  gG Z B (0, 0) V 4 [(0, .ref (B.2.1 1 0 0)), (1, .int (nI n)), (2, .int (sumI (cRowF c n) k)), (3, .int (nI k))] [] := by
    intro f
    induction f with
    | zero =>
      intro k  hf 
      refine g_iload_n X 3 rfl dX2_rowsByLastSignal_4 ?_
      refine g_aload_n X 0 rfl dX2_rowsByLastSignal_5 ?_
      refine gg_X2_size X ⟨by decide, by decide⟩ fX2_18 dX2_rowsByLastSignal_6 ?_
      refine gG_top (nI c.1) (hC.1) ?_
      refine g_icmp_ge X 53 (by decide) dX2_rowsByLastSignal_9 (fun c1 => ?_) (fun c1 => ?_)
      · refine g_iload_n X 2 rfl dX2_rowsByLastSignal_53 ?_
        refine g_iret X F ?_ rfl dX2_rowsByLastSignal_54
        exact ⟨by rw [show k = c.1 by omega, show n = n - 1 + 1 by omega, cRows_s hk], rfl⟩
      · first | exact absurd (nI_le (by omega) (by omega)) c1 | exact absurd c1 (nI_le (by omega) (by omega))
    | succ f ih =>
      intro k  hf 
      have hl6 := hk.len (k := k) (by omega)
      refine g_iload_n X 3 rfl dX2_rowsByLastSignal_4 ?_
      refine g_aload_n X 0 rfl dX2_rowsByLastSignal_5 ?_
      refine gg_X2_size X ⟨by decide, by decide⟩ fX2_18 dX2_rowsByLastSignal_6 ?_
      refine gG_top (nI c.1) (hC.1) ?_
      refine g_icmp_ge X 53 (by decide) dX2_rowsByLastSignal_9 (fun c2 => ?_) (fun c2 => ?_)
      · first | exact absurd (nI_ge (by omega) (by omega)) c2 | exact absurd c2 (nI_ge (by omega) (by omega))
      · refine g_iload_n X 1 rfl dX2_rowsByLastSignal_12 ?_
        refine g_aload_n X 0 rfl dX2_rowsByLastSignal_13 ?_
        refine g_iload_n X 3 rfl dX2_rowsByLastSignal_14 ?_
        refine g_callV X hR (rest := [.int (nI n)]) mX2_ringsOf lX2_22 (k_ringsOf hI V c k (by first | assumption | decide | omega) (by first | assumption | decide | omega) (by first | assumption | decide | omega)) rfl rfl (Nat.le_of_ble_eq_true rfl) ⟨by decide, by decide⟩ rfl rfl rfl ⟨Nat.le_of_ble_eq_true rfl, Nat.le_of_ble_eq_true rfl, Nat.le_of_ble_eq_true rfl, Nat.le_of_ble_eq_true rfl⟩ dX2_rowsByLastSignal_15 (fun r3 V4 hz_5 => ?_)
        refine gG_ret hz_5.1 hz_5.2 ?_
        refine gG_st [.int (nI (c.2 k)), .int (nI n)] rfl ?_
        refine g_callS X hR (As := [.int (nI (c.2 k))]) (rest := [.int (nI n)]) mX4_lengthOf lX2_42 (k_lenR hI V (c.2 k) (hk.lt (by omega)) (hk.2 k (by omega)).1) rfl rfl (Nat.le_of_ble_eq_true rfl) ⟨Nat.le_of_ble_eq_true rfl, Nat.le_of_ble_eq_true rfl, Nat.le_of_ble_eq_true rfl, Nat.le_of_ble_eq_true rfl⟩ dX2_rowsByLastSignal_18 (fun r6 V7 hz_8 => ?_)
        refine gG_ret hz_8.1 hz_8.2 ?_
        refine gG_st [.int (nI (nLen (c.2 k))), .int (nI n)] rfl ?_
        refine g_isub X dX2_rowsByLastSignal_21 ?_
        by_cases hlt : n < nLen (c.2 k)
        · skip
          refine g_istore X dX2_rowsByLastSignal_22 [(4, .int ((nI n) - (nI (nLen (c.2 k))))), (0, .ref (B.2.1 1 0 0)), (1, .int (nI n)), (2, .int (sumI (cRowF c n) k)), (3, .int (nI k))] rfl (gnl_lt hnL (by decide)) ?_
          refine g_iload X 0 rfl dX2_rowsByLastSignal_24 ?_
          refine g_aload_n X 1 rfl dX2_rowsByLastSignal_26 ?_
          refine gg_X2_rowsOfLength X ⟨by decide, by decide⟩ fX2_15 dX2_rowsByLastSignal_27 ?_
          refine g_alen X (v := 21) ⟨by decide, by decide⟩ rfl (by decide) dX2_rowsByLastSignal_30 ?_
          refine g_callS X hR (As := [.int ((nI n) - (nI (nLen (c.2 k)))), .int 21]) (rest := []) mX6_isIndex lX2_32 (k_isIndexN hI V ((nI n) - (nI (nLen (c.2 k)))) 21 (pk_sneg (by omega) hlt)) rfl rfl (Nat.le_of_ble_eq_true rfl) ⟨Nat.le_of_ble_eq_true rfl, Nat.le_of_ble_eq_true rfl, Nat.le_of_ble_eq_true rfl, Nat.le_of_ble_eq_true rfl⟩ dX2_rowsByLastSignal_31 (fun r9 V10 hz_11 => ?_)
          refine gG_ret hz_11.1 hz_11.2 ?_
          refine gG_st [.int 0] rfl ?_
          refine g_if_eq X 47 (by decide) dX2_rowsByLastSignal_34 (fun c12 => ?_) (fun c12 => ?_)
          · refine gG_Le [(4, .int ((nI n) - (nI (nLen (c.2 k))))), (0, .ref (B.2.1 1 0 0)), (1, .int (nI n)), (2, .int (sumI (cRowF c n) (k + 1))), (3, .int (nI k))] (by rw [show sumI (cRowF c n) (k + 1) = sumI (cRowF c n) k from (congrArg (sumI (cRowF c n) k + ·) (show cRowF c n k = 0 from if_neg (by omega))).trans (Int32.add_zero _)]) ?_
            refine g_iinc X 4 rfl (nI (k + 1)) (iinc_1 _) dX2_rowsByLastSignal_47 [(3, .int (nI (k + 1))), (4, .int ((nI n) - (nI (nLen (c.2 k))))), (0, .ref (B.2.1 1 0 0)), (1, .int (nI n)), (2, .int (sumI (cRowF c n) (k + 1)))] rfl (gnl_lt hnL (by decide)) ?_
            refine g_goto X 4 (by decide) dX2_rowsByLastSignal_50 ?_
            refine gG_L [2, 3, 4, 0] (L' := [(0, .ref (B.2.1 1 0 0)), (1, .int (nI n)), (2, .int (sumI (cRowF c n) (k + 1))), (3, .int (nI (k + 1)))]) rfl ?_
            refine ih (k + 1) (by omega)
          ·  exact absurd c12 (by decide)
        · refine gG_top (nI (n - nLen (c.2 k))) (pk_sub (by omega)) ?_
          refine g_istore X dX2_rowsByLastSignal_22 [(4, .int (nI (n - nLen (c.2 k)))), (0, .ref (B.2.1 1 0 0)), (1, .int (nI n)), (2, .int (sumI (cRowF c n) k)), (3, .int (nI k))] rfl (gnl_lt hnL (by decide)) ?_
          refine g_iload X 0 rfl dX2_rowsByLastSignal_24 ?_
          refine g_aload_n X 1 rfl dX2_rowsByLastSignal_26 ?_
          refine gg_X2_rowsOfLength X ⟨by decide, by decide⟩ fX2_15 dX2_rowsByLastSignal_27 ?_
          refine g_alen X (v := 21) ⟨by decide, by decide⟩ rfl (by decide) dX2_rowsByLastSignal_30 ?_
          refine g_callS X hR (As := [.int (nI (n - nLen (c.2 k))), .int 21]) (rest := []) mX6_isIndex lX2_32 (k_isIndex1 hI V (nI (n - nLen (c.2 k))) 21 (nI_pos' (by omega)) (nI_lt (b := 21) (by omega) (by decide))) rfl rfl (Nat.le_of_ble_eq_true rfl) ⟨Nat.le_of_ble_eq_true rfl, Nat.le_of_ble_eq_true rfl, Nat.le_of_ble_eq_true rfl, Nat.le_of_ble_eq_true rfl⟩ dX2_rowsByLastSignal_31 (fun r13 V14 hz_15 => ?_)
          refine gG_ret hz_15.1 hz_15.2 ?_
          refine gG_st [.int 1] rfl ?_
          refine g_if_eq X 47 (by decide) dX2_rowsByLastSignal_34 (fun c16 => ?_) (fun c16 => ?_)
          ·  exact absurd c16 (by decide)
          · refine g_iload_n X 3 rfl dX2_rowsByLastSignal_37 ?_
            refine g_aload_n X 1 rfl dX2_rowsByLastSignal_38 ?_
            refine gg_X2_rowsOfLength X ⟨by decide, by decide⟩ fX2_15 dX2_rowsByLastSignal_39 ?_
            refine g_iload X 0 rfl dX2_rowsByLastSignal_42 ?_
            refine g_ialdN X (n - nLen (c.2 k)) rfl (by omega) (by decide) ⟨by decide, by decide⟩ rfl dX2_rowsByLastSignal_44 ?_
            refine gG_top (cRows c (n - nLen (c.2 k))) (hT _ (by have := hk.len (k := k) (by omega); omega)) ?_
            refine g_iadd X dX2_rowsByLastSignal_45 ?_
            refine g_istore_n X rfl dX2_rowsByLastSignal_46 [(2, .int ((sumI (cRowF c n) k) + (cRows c (n - nLen (c.2 k))))), (4, .int (nI (n - nLen (c.2 k)))), (0, .ref (B.2.1 1 0 0)), (1, .int (nI n)), (3, .int (nI k))] rfl (gnl_lt hnL (by decide)) ?_
            refine gG_Le [(2, .int (sumI (cRowF c n) (k + 1))), (4, .int (nI (n - nLen (c.2 k)))), (0, .ref (B.2.1 1 0 0)), (1, .int (nI n)), (3, .int (nI k))] (by rw [show sumI (cRowF c n) (k + 1) = sumI (cRowF c n) k + cRows c (n - nLen (c.2 k)) from (congrArg (sumI (cRowF c n) k + ·) (show cRowF c n k = cRows c (n - nLen (c.2 k)) from if_pos (by omega)))]) ?_
            refine g_iinc X 4 rfl (nI (k + 1)) (iinc_1 _) dX2_rowsByLastSignal_47 [(3, .int (nI (k + 1))), (2, .int (sumI (cRowF c n) (k + 1))), (4, .int (nI (n - nLen (c.2 k)))), (0, .ref (B.2.1 1 0 0)), (1, .int (nI n))] rfl (gnl_lt hnL (by decide)) ?_
            refine g_goto X 4 (by decide) dX2_rowsByLastSignal_50 ?_
            refine gG_L [3, 4, 1, 0] (L' := [(0, .ref (B.2.1 1 0 0)), (1, .int (nI n)), (2, .int (sumI (cRowF c n) (k + 1))), (3, .int (nI (k + 1)))]) rfl ?_
            refine ih (k + 1) (by omega)
  exact loop c.1 0 (by omega)

abbrev rmX2_wholeRows : Room := { frames := 3, cells := 0, slots := 0, locals := 66 }
set_option maxRecDepth 20000 in
theorem k_whole {l : Launch} {B : gB} (hI : gI B) (V : gMem) (c : gCd) (n : Nat) (hC : CodeC V c) (hk : CodeOk c) (hn : n ≤ 20) : gM l B yX2_wholeRows cX2_wholeRows 3 (some .int) rmX2_wholeRows [.ref (B.2.1 1 0 0), .int (nI n)] V (fun v V' => v = some (.int (cRows c n)) ∧ ∀ K b x, ¬ (K = 3 ∧ b = 0 ∧ x = 0) → V' K b x = V K b x) := by
  refine gM_of (own := RX2) (L := [(0, .ref (B.2.1 1 0 0)), (1, .int (nI n))]) (by decide +kernel) rfl hI (Nat.le_of_ble_eq_true rfl) rfl ?_
  intro Z hnL hR X F
  have h8 : c.1 ≤ 8 := hk.1
  refine g_iload_n X 1 rfl dX2_wholeRows_0 ?_
  refine g_aload_n X 0 rfl dX2_wholeRows_1 ?_
  refine gg_X2_rowsOfLength X ⟨by decide, by decide⟩ fX2_15 dX2_wholeRows_2 ?_
  refine g_alen X (v := 21) ⟨by decide, by decide⟩ rfl (by decide) dX2_wholeRows_5 ?_
  refine g_callS X hR (As := [.int (nI n), .int 21]) (rest := []) mX6_isIndex lX2_32 (k_isIndex1 hI V (nI n) 21 (nI_pos' (by omega)) (nI_lt (b := 21) (by omega) (by decide))) rfl rfl (Nat.le_of_ble_eq_true rfl) ⟨Nat.le_of_ble_eq_true rfl, Nat.le_of_ble_eq_true rfl, Nat.le_of_ble_eq_true rfl, Nat.le_of_ble_eq_true rfl⟩ dX2_wholeRows_6 (fun r1 V2 hz_3 => ?_)
  refine gG_ret hz_3.1 hz_3.2 ?_
  refine gG_st [.int 1] rfl ?_
  refine g_if_ne X 14 (by decide) dX2_wholeRows_9 (fun c4 => ?_) (fun c4 => ?_)
  · refine g_aload_n X 0 rfl dX2_wholeRows_14 ?_
    refine gg_X2_rowsOfLength X ⟨by decide, by decide⟩ fX2_15 dX2_wholeRows_15 ?_
    refine g_iconst X 0 (by decide) dX2_wholeRows_18 ?_
    refine g_iconst X 1 (by decide) dX2_wholeRows_19 ?_
    refine g_iastN X (0) (by decide) (by decide) (by decide) ⟨by decide, by decide⟩ (fun _ => rfl) dX2_wholeRows_20 ?_
    refine gG_nm (fun V5 hV5 => ?_)
    refine g_iconst X 1 (by decide) dX2_wholeRows_21 ?_
    refine g_istore_n X rfl dX2_wholeRows_22 [(2, .int 1), (0, .ref (B.2.1 1 0 0)), (1, .int (nI n))] rfl (gnl_lt hnL (by decide)) ?_
    refine gG_L [1, 2, 0] (L' := [(0, .ref (B.2.1 1 0 0)), (1, .int (nI n)), (2, .int 1)]) rfl ?_
  
    have loop : ∀ (f : Nat) (i : Nat) (V1 : gMem), i + f = n + 1 → 1 ≤ i → (∀ j, j < i → V1 3 0 0 j = cRows c j) → (∀ K b x, ¬ (K = 3 ∧ b = 0 ∧ x = 0) → V1 K b x = V K b x) → gG Z B (0, 0) V1 23 [(0, .ref (B.2.1 1 0 0)), (1, .int (nI n)), (2, .int (nI i))] [] := by
      intro f
      induction f with
      | zero =>
        intro i V1 hf hi1 hT hoth0
        refine g_iload_n X 2 rfl dX2_wholeRows_23 ?_
        refine g_iload_n X 1 rfl dX2_wholeRows_24 ?_
        refine g_icmp_gt X 45 (by decide) dX2_wholeRows_25 (fun c6 => ?_) (fun c6 => ?_)
        · refine g_aload_n X 0 rfl dX2_wholeRows_45 ?_
          refine gg_X2_rowsOfLength X ⟨by decide, by decide⟩ fX2_15 dX2_wholeRows_46 ?_
          refine g_iload_n X 1 rfl dX2_wholeRows_49 ?_
          refine g_ialdN X (n) rfl (by omega) (by decide) ⟨by decide, by decide⟩ rfl dX2_wholeRows_50 ?_
          refine gG_top (cRows c n) (hT n (by omega)) ?_
          refine g_iret X F ?_ rfl dX2_wholeRows_51
          exact ⟨rfl, hoth0⟩
        · first | exact absurd (nI_lt (by omega) (by omega)) c6 | exact absurd c6 (nI_lt (by omega) (by omega))
      | succ f ih =>
        intro i V1 hf hi1 hT hoth0
        refine g_iload_n X 2 rfl dX2_wholeRows_23 ?_
        refine g_iload_n X 1 rfl dX2_wholeRows_24 ?_
        refine g_icmp_gt X 45 (by decide) dX2_wholeRows_25 (fun c7 => ?_) (fun c7 => ?_)
        · first | exact absurd (nI_nlt (by omega) (by omega)) c7 | exact absurd c7 (nI_nlt (by omega) (by omega))
        · refine g_aload_n X 0 rfl dX2_wholeRows_28 ?_
          refine gg_X2_rowsOfLength X ⟨by decide, by decide⟩ fX2_15 dX2_wholeRows_29 ?_
          refine g_iload_n X 2 rfl dX2_wholeRows_32 ?_
          refine g_aload_n X 0 rfl dX2_wholeRows_33 ?_
          refine g_iload_n X 2 rfl dX2_wholeRows_34 ?_
          refine g_callV X hR (rest := [.int (nI i), .ref (B.2.1 3 0 0)]) mX2_rowsByLastSignal lX2_51 (k_rbl hI V1 c i (⟨by rw [hoth0 1 0 0 (by decide)]; exact hC.1, fun j hj => by rw [hoth0 2 0 0 (by decide)]; exact hC.2 j hj⟩) (by first | assumption | decide | omega) hT (by omega) (by omega)) rfl rfl (Nat.le_of_ble_eq_true rfl) ⟨by decide, by decide⟩ rfl rfl rfl ⟨Nat.le_of_ble_eq_true rfl, Nat.le_of_ble_eq_true rfl, Nat.le_of_ble_eq_true rfl, Nat.le_of_ble_eq_true rfl⟩ dX2_wholeRows_35 (fun r8 V9 hz_10 => ?_)
          refine gG_ret hz_10.1 hz_10.2 ?_
          refine gG_st [.int (cRows c i), .int (nI i), .ref (B.2.1 3 0 0)] rfl ?_
          refine g_iastN X (i) rfl (by omega) (by decide) ⟨by decide, by decide⟩ (fun _ => rfl) dX2_wholeRows_38 ?_
          refine gG_nm (fun V11 hV11 => ?_)
          refine g_iinc X 2 rfl (nI (i + 1)) (iinc_1 _) dX2_wholeRows_39 [(2, .int (nI (i + 1))), (0, .ref (B.2.1 1 0 0)), (1, .int (nI n))] rfl (gnl_lt hnL (by decide)) ?_
          refine g_goto X 23 (by decide) dX2_wholeRows_42 ?_
          refine gG_L [1, 2, 0] (L' := [(0, .ref (B.2.1 1 0 0)), (1, .int (nI n)), (2, .int (nI (i + 1)))]) rfl ?_
          refine ih (i + 1) V11 (by omega) (by omega) (fun j hj => by
            rw [hV11]
            by_cases hji : j = i
            · rw [hji, gup_eq]
            · rw [gup_ne (by omega)]; exact hT j (by omega)) (fun K b x hne => by rw [hV11, gup_off _ _ hne]; exact hoth0 K b x hne)
    exact loop n 1 V5 (by omega) (Nat.le_refl _) (fun j hj => by
      rw [hV5, show j = 0 by omega, gup_eq]; rfl) (fun K b x hne => by rw [hV5, gup_off _ _ hne])
  ·  exact absurd c4 (by decide)

abbrev rmX2_mixedInto : Room := { frames := 2, cells := 0, slots := 0, locals := 42 }
set_option maxRecDepth 20000 in
theorem k_cmix {l : Launch} {B : gB} (hI : gI B) (V : gMem) (c : gCd) (d : Int64) (hC : CodeC V c) (hk : CodeOk c) : gM l B yX2_mixedInto cX2_mixedInto 6 (some .long) rmX2_mixedInto [.ref (B.2.1 1 0 0), .long d] V (fun v V' => v = some (.long (mixL ((List.range c.1).map (fun j => nI (c.2 j))) d)) ∧ V' = V) := by
  refine gM_of (own := RX2) (L := [(0, .ref (B.2.1 1 0 0)), (1, .long d)]) (by decide +kernel) rfl hI (Nat.le_of_ble_eq_true rfl) rfl ?_
  intro Z hnL hR X F
  have h8 : c.1 ≤ 8 := hk.1
  refine g_lload_n X 1 rfl dX2_mixedInto_0 ?_
  refine g_lstore_n X rfl dX2_mixedInto_1 [(3, .long d), (0, .ref (B.2.1 1 0 0)), (1, .long d)] rfl (gnl_lt hnL (by decide)) ?_
  refine g_iconst X 0 (by decide) dX2_mixedInto_2 ?_
  refine g_istore X dX2_mixedInto_3 [(5, .int 0), (3, .long d), (0, .ref (B.2.1 1 0 0)), (1, .long d)] rfl (gnl_lt hnL (by decide)) ?_
  refine gG_L [2, 3, 1, 0] (L' := [(0, .ref (B.2.1 1 0 0)), (1, .long d), (3, .long d), (5, .int 0)]) rfl ?_
  have loop : ∀ (f : Nat) (k : Nat) , k + f = c.1 →  gG Z B (0, 0) V 5 [(0, .ref (B.2.1 1 0 0)), (1, .long d), (3, .long (mixL ((List.range k).map (fun j => nI (c.2 j))) d)), (5, .int (nI k))] [] := by
    intro f
    induction f with
    | zero =>
      intro k  hf 
      refine g_iload X 3 rfl dX2_mixedInto_5 ?_
      refine g_aload_n X 0 rfl dX2_mixedInto_7 ?_
      refine gg_X2_size X ⟨by decide, by decide⟩ fX2_18 dX2_mixedInto_8 ?_
      refine gG_top (nI c.1) (hC.1) ?_
      refine g_icmp_ge X 31 (by decide) dX2_mixedInto_11 (fun c1 => ?_) (fun c1 => ?_)
      · refine g_lload_n X 2 rfl dX2_mixedInto_31 ?_
        refine g_lret X F ?_ rfl dX2_mixedInto_32
        exact ⟨by rw [show k = c.1 by omega], rfl⟩
      · first | exact absurd (nI_le (by omega) (by omega)) c1 | exact absurd c1 (nI_le (by omega) (by omega))
    | succ f ih =>
      intro k  hf 
      refine g_iload X 3 rfl dX2_mixedInto_5 ?_
      refine g_aload_n X 0 rfl dX2_mixedInto_7 ?_
      refine gg_X2_size X ⟨by decide, by decide⟩ fX2_18 dX2_mixedInto_8 ?_
      refine gG_top (nI c.1) (hC.1) ?_
      refine g_icmp_ge X 31 (by decide) dX2_mixedInto_11 (fun c2 => ?_) (fun c2 => ?_)
      · first | exact absurd (nI_ge (by omega) (by omega)) c2 | exact absurd c2 (nI_ge (by omega) (by omega))
      · refine g_lload_n X 2 rfl dX2_mixedInto_14 ?_
        refine g_aload_n X 0 rfl dX2_mixedInto_15 ?_
        refine g_iload X 3 rfl dX2_mixedInto_16 ?_
        refine g_callV X hR (rest := [.long (mixL ((List.range k).map (fun j => nI (c.2 j))) d)]) mX2_ringsOf lX2_22 (k_ringsOf hI V c k (by first | assumption | decide | omega) (by first | assumption | decide | omega) (by first | assumption | decide | omega)) rfl rfl (Nat.le_of_ble_eq_true rfl) ⟨by decide, by decide⟩ rfl rfl rfl ⟨Nat.le_of_ble_eq_true rfl, Nat.le_of_ble_eq_true rfl, Nat.le_of_ble_eq_true rfl, Nat.le_of_ble_eq_true rfl⟩ dX2_mixedInto_18 (fun r3 V4 hz_5 => ?_)
        refine gG_ret hz_5.1 hz_5.2 ?_
        refine gG_st [.int (nI (c.2 k)), .long (mixL ((List.range k).map (fun j => nI (c.2 j))) d)] rfl ?_
        refine g_callS X hR (As := [.long (mixL ((List.range k).map (fun j => nI (c.2 j))) d), .int (nI (c.2 k))]) (rest := []) mX6_mixed lX2_54 (k_mixed hI V (mixL ((List.range k).map (fun j => nI (c.2 j))) d) (nI (c.2 k)) ) rfl rfl (Nat.le_of_ble_eq_true rfl) ⟨Nat.le_of_ble_eq_true rfl, Nat.le_of_ble_eq_true rfl, Nat.le_of_ble_eq_true rfl, Nat.le_of_ble_eq_true rfl⟩ dX2_mixedInto_21 (fun r6 V7 hz_8 => ?_)
        refine gG_ret hz_8.1 hz_8.2 ?_
        refine gG_st [.long (mix1 (mixL ((List.range k).map (fun j => nI (c.2 j))) d) (nI (c.2 k)))] rfl ?_
        refine gG_st [.long (mixL ((List.range (k + 1)).map (fun j => nI (c.2 j))) d)] (by rw [show (Value.long (mix1 (mixL ((List.range k).map (fun j => nI (c.2 j))) d) (nI (c.2 k)))) = .long (mixL ((List.range (k + 1)).map (fun j => nI (c.2 j))) d) from congrArg _ ((mixL_range _ _ _).symm)]) ?_
        refine g_lstore_n X rfl dX2_mixedInto_24 [(3, .long (mixL ((List.range (k + 1)).map (fun j => nI (c.2 j))) d)), (0, .ref (B.2.1 1 0 0)), (1, .long d), (5, .int (nI k))] rfl (gnl_lt hnL (by decide)) ?_
        refine g_iinc X 3 rfl (nI (k + 1)) (iinc_1 _) dX2_mixedInto_25 [(5, .int (nI (k + 1))), (3, .long (mixL ((List.range (k + 1)).map (fun j => nI (c.2 j))) d)), (0, .ref (B.2.1 1 0 0)), (1, .long d)] rfl (gnl_lt hnL (by decide)) ?_
        refine g_goto X 5 (by decide) dX2_mixedInto_28 ?_
        refine gG_L [2, 3, 1, 0] (L' := [(0, .ref (B.2.1 1 0 0)), (1, .long d), (3, .long (mixL ((List.range (k + 1)).map (fun j => nI (c.2 j))) d)), (5, .int (nI (k + 1)))]) rfl ?_
        refine ih (k + 1) (by omega)
  exact loop c.1 0 (by omega)

