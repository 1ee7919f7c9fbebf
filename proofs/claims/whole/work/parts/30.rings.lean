/-! ROWS OF RINGS: numbers whose digits are 1 or 2, on both sides -/
def nLen (n : Nat) : Nat := if h : n = 0 then 0 else nLen (n / 10) + 1
termination_by n
decreasing_by exact Nat.div_lt_self (Nat.pos_of_ne_zero h) (by decide)
def nOk (n : Nat) : Bool := if h : n = 0 then true else (decide (n % 10 = 1) || decide (n % 10 = 2)) && nOk (n / 10)
termination_by n
decreasing_by exact Nat.div_lt_self (Nat.pos_of_ne_zero h) (by decide)
theorem nLen_0 : nLen 0 = 0 := by rw [nLen]; rfl
theorem nLen_s {n : Nat} (h : n ≠ 0) : nLen n = nLen (n / 10) + 1 := by rw [nLen, dif_neg h]
theorem nOk_0 : nOk 0 = true := by rw [nOk]; rfl
theorem nOk_s {n : Nat} (h : n ≠ 0) : nOk n = ((decide (n % 10 = 1) || decide (n % 10 = 2)) && nOk (n / 10)) := by rw [nOk, dif_neg h]
theorem nLen_lt : ∀ (k : Nat) {n : Nat}, n < 10 ^ k → nLen n ≤ k
  | 0, n, h => by
    have : n = 0 := by rw [Nat.pow_zero] at h; omega
    rw [this, nLen_0]; exact Nat.le_refl _
  | k + 1, n, h => by
    by_cases h0 : n = 0
    · rw [h0, nLen_0]; exact Nat.zero_le _
    · rw [nLen_s h0]
      exact Nat.succ_le_succ (nLen_lt k (Nat.div_lt_of_lt_mul (by rw [Nat.mul_comm, ← Nat.pow_succ]; exact h)))
theorem lt_nLen : ∀ (k : Nat) {n : Nat}, nLen n ≤ k → n < 10 ^ k
  | 0, n, h => by
    by_cases h0 : n = 0
    · rw [h0]; decide
    · rw [nLen_s h0] at h; omega
  | k + 1, n, h => by
    by_cases h0 : n = 0
    · rw [h0]; exact Nat.pow_pos (by decide)
    · rw [nLen_s h0] at h
      have h1 := lt_nLen k (n := n / 10) (by omega)
      rw [Nat.pow_succ]
      omega
theorem nLen_pos {n : Nat} (h : n ≠ 0) : 0 < nLen n := by rw [nLen_s h]; exact Nat.succ_pos _
theorem nLen_10 {n : Nat} (h : n < 2 ^ 31) : nLen n ≤ 10 := nLen_lt 10 (Nat.lt_of_lt_of_le h (by decide))
theorem nLen_div : ∀ (d n : Nat), nLen (n / 10 ^ d) = nLen n - d
  | 0, n => by rw [Nat.pow_zero, Nat.div_one, Nat.sub_zero]
  | d + 1, n => by
    by_cases h0 : n = 0
    · rw [h0, Nat.zero_div, nLen_0]; omega
    · rw [Nat.pow_succ, Nat.mul_comm, ← Nat.div_div_eq_div_mul, nLen_div d, nLen_s h0]; omega
theorem nOk_div : ∀ (d : Nat) {n : Nat}, nOk n = true → nOk (n / 10 ^ d) = true
  | 0, n, h => by rw [Nat.pow_zero, Nat.div_one]; exact h
  | d + 1, n, h => by
    by_cases h0 : n = 0
    · rw [h0, Nat.zero_div]; exact nOk_0
    · rw [nOk_s h0, Bool.and_eq_true] at h
      rw [Nat.pow_succ, Nat.mul_comm, ← Nat.div_div_eq_div_mul]
      exact nOk_div d h.2
theorem mod10 (n d : Nat) : n % 10 ^ (d + 1) % 10 = n % 10 ∧ n % 10 ^ (d + 1) / 10 = n / 10 % 10 ^ d := by
  have h : 10 ^ (d + 1) = 10 * 10 ^ d := by rw [Nat.pow_succ, Nat.mul_comm]
  rw [h]
  exact ⟨Nat.mod_mul_right_mod n 10 (10 ^ d), Nat.mod_mul_right_div_self ..⟩
/-- the last d rings of a row -/
theorem nOk_mod : ∀ (d : Nat) {n : Nat}, nOk n = true → nOk (n % 10 ^ d) = true
  | 0, n, h => by rw [Nat.pow_zero, Nat.mod_one]; exact nOk_0
  | d + 1, n, h => by
    obtain ⟨h1, h2⟩ := mod10 n d
    by_cases h0 : n = 0
    · rw [h0, Nat.zero_mod]; exact nOk_0
    · by_cases hm : n % 10 ^ (d + 1) = 0
      · rw [hm]; exact nOk_0
      · rw [nOk_s h0, Bool.and_eq_true] at h
        rw [nOk_s hm, h1, h2, Bool.and_eq_true]
        exact ⟨h.1, nOk_mod d h.2⟩
theorem nLen_mod : ∀ (d : Nat) {n : Nat}, nOk n = true → d ≤ nLen n → nLen (n % 10 ^ d) = d
  | 0, n, h, _ => by rw [Nat.pow_zero, Nat.mod_one]; exact nLen_0
  | d + 1, n, h, hd => by
    obtain ⟨h1, h2⟩ := mod10 n d
    have h0 : n ≠ 0 := fun q => by rw [q, nLen_0] at hd; omega
    rw [nOk_s h0, Bool.and_eq_true] at h
    have hm : n % 10 ^ (d + 1) ≠ 0 := fun q => by
      rw [q] at h1
      have h3 := h.1
      rw [← h1] at h3
      cases h3
    rw [nLen_s hm, h2]
    rw [nLen_s h0] at hd
    rw [nLen_mod d h.2 (by omega)]
theorem nOk_cat : ∀ (d : Nat) {a c : Nat}, nOk a = true → nOk c = true → nLen c = d → nOk (a * 10 ^ d + c) = true ∧ nLen (a * 10 ^ d + c) = nLen a + d
  | 0, a, c, ha, hc, hl => by
    have : c = 0 := Classical.byContradiction (fun q => by have := nLen_pos q; omega)
    rw [this, Nat.pow_zero, Nat.mul_one, Nat.add_zero]
    exact ⟨ha, rfl⟩
  | d + 1, a, c, ha, hc, hl => by
    have h0 : c ≠ 0 := fun q => by rw [q, nLen_0] at hl; omega
    rw [nOk_s h0, Bool.and_eq_true] at hc
    rw [nLen_s h0] at hl
    have hne : a * 10 ^ (d + 1) + c ≠ 0 := by omega
    have e : a * 10 ^ (d + 1) = a * 10 ^ d * 10 := by rw [Nat.pow_succ, Nat.mul_assoc]
    have e1 : (a * 10 ^ (d + 1) + c) % 10 = c % 10 := by rw [e]; omega
    have e2 : (a * 10 ^ (d + 1) + c) / 10 = a * 10 ^ d + c / 10 := by rw [e]; omega
    obtain ⟨h1, h2⟩ := nOk_cat d ha hc.2 (by omega)
    rw [nOk_s hne, nLen_s hne, e1, e2, h1, h2, Bool.and_eq_true]
    exact ⟨⟨hc.1, rfl⟩, by omega⟩
def cL (n : Nat) : Int32 := if nOk n = true then nI (nLen n) else -1
/-- whether a row begins with another one -/
def nBeg (b r : Nat) : Bool := decide (nLen b ≤ nLen r) && decide (r / 10 ^ (nLen r - nLen b) = b)
theorem neg_rem {x : Int32} (h : x < 0) : ¬ x - x / 10 * 10 = 1 ∧ ¬ x - x / 10 * 10 = 2 := by
  have h1 : x.toInt < 0 := Int32.lt_iff_toInt_lt.mp h
  have h2 := Int32.le_toInt x
  have hd : (x / 10).toInt = x.toInt.tdiv 10 := by
    rw [Int32.toInt_div_of_ne_right x 10 (by decide)]
    rfl
  have e1 := Int.mul_tdiv_add_tmod x.toInt 10
  have e2 := Int.tmod_nonneg (a := -x.toInt) 10 (by omega)
  have e3 := Int.tmod_lt_of_pos (-x.toInt) (b := 10) (by decide)
  rw [Int.neg_tmod] at e2 e3
  have hm : (x / 10 * 10).toInt = x.toInt.tdiv 10 * 10 := by
    rw [Int32.toInt_mul, hd]
    show (x.toInt.tdiv 10 * 10).bmod (2 ^ 32) = _
    rw [Int.bmod_eq_of_le (by omega) (by omega)]
  have hs : (x - x / 10 * 10).toInt = x.toInt - x.toInt.tdiv 10 * 10 := by
    rw [Int32.toInt_sub, hm]
    rw [Int.bmod_eq_of_le (by omega) (by omega)]
  constructor
  · intro q
    rw [q] at hs
    have : (1 : Int32).toInt = 1 := by decide
    omega
  · intro q
    rw [q] at hs
    have : (2 : Int32).toInt = 2 := by decide
    omega

def cLc (c m : Nat) : Int32 := if nOk m = true then nI (c + nLen m) else -1

abbrev rmX4_lengthOf : Room := { frames := 0, cells := 0, slots := 0, locals := 0 }
set_option maxRecDepth 20000 in
theorem k_lenN {l : Launch} {B : gB} (hI : gI B) (V : gMem) (n : Nat) (hn : n < 2 ^ 31) : gM l B yX4_lengthOf cX4_lengthOf 4 (some .int) rmX4_lengthOf [.int (nI n)] V (fun v V' => v = some (.int (cL n)) ∧ V' = V) := by
  refine gM_of (own := RX4) (L := [(0, .int (nI n))]) (by decide +kernel) rfl hI (Nat.le_of_ble_eq_true rfl) rfl ?_
  intro Z hnL hR X F
  refine g_iload_n X 0 rfl dX4_lengthOf_0 ?_
  refine g_istore_n X rfl dX4_lengthOf_1 [(1, .int (nI n)), (0, .int (nI n))] rfl (gnl_lt hnL (by decide)) ?_
  refine g_iconst X 0 (by decide) dX4_lengthOf_2 ?_
  refine g_istore_n X rfl dX4_lengthOf_3 [(2, .int 0), (1, .int (nI n)), (0, .int (nI n))] rfl (gnl_lt hnL (by decide)) ?_
  refine gG_L [2, 1, 0] (L' := [(0, .int (nI n)), (1, .int (nI n)), (2, .int 0)]) rfl ?_
  have cLc_0 : True := trivial
  have loop : ∀ (f : Nat) (c : Nat) (m : Nat), c + f = 10 → m < 10 ^ f → m < 2 ^ 31 → cL n = cLc c m → gG Z B (0, 0) V 4 [(0, .int (nI n)), (1, .int (nI m)), (2, .int (nI c))] [] := by
    intro f
    induction f with
    | zero =>
      intro c m hf hm hm2 hR
      refine g_iload_n X 2 rfl dX4_lengthOf_4 ?_
      refine g_bipush X 10 (by decide) dX4_lengthOf_5 ?_
      refine g_icmp_gt X 44 (by decide) dX4_lengthOf_7 (fun c1 => ?_) (fun c1 => ?_)
      · first | exact absurd (nI_nlt (b := c) (a := 10) (by omega) (by decide)) c1 | exact absurd c1 (nI_nlt (b := c) (a := 10) (by omega) (by decide))
      · refine g_iload_n X 1 rfl dX4_lengthOf_10 ?_
        have hm0 : m = 0 := by rw [Nat.pow_zero] at hm; omega
        refine gG_top 0 (by rw [hm0]; rfl) ?_
        refine g_if_ne X 16 (by decide) dX4_lengthOf_11 (fun c2 => ?_) (fun c2 => ?_)
        ·  exact absurd c2 (by decide)
        · refine g_iload_n X 2 rfl dX4_lengthOf_14 ?_
          refine g_iret X F ?_ rfl dX4_lengthOf_15
          exact ⟨by rw [hR, hm0]; unfold cLc; rw [nOk_0, nLen_0]; rfl, rfl⟩
    | succ f ih =>
      intro c m hf hm hm2 hR
      refine g_iload_n X 2 rfl dX4_lengthOf_4 ?_
      refine g_bipush X 10 (by decide) dX4_lengthOf_5 ?_
      refine g_icmp_gt X 44 (by decide) dX4_lengthOf_7 (fun c3 => ?_) (fun c3 => ?_)
      · first | exact absurd (nI_nlt (b := c) (a := 10) (by omega) (by decide)) c3 | exact absurd c3 (nI_nlt (b := c) (a := 10) (by omega) (by decide))
      · refine g_iload_n X 1 rfl dX4_lengthOf_10 ?_
        by_cases hm0 : m = 0
        · refine gG_top 0 (by rw [hm0]; rfl) ?_
          refine g_if_ne X 16 (by decide) dX4_lengthOf_11 (fun c4 => ?_) (fun c4 => ?_)
          ·  exact absurd c4 (by decide)
          · refine g_iload_n X 2 rfl dX4_lengthOf_14 ?_
            refine g_iret X F ?_ rfl dX4_lengthOf_15
            exact ⟨by rw [hR, hm0]; unfold cLc; rw [nOk_0, nLen_0]; rfl, rfl⟩
        · skip
          refine g_if_ne X 16 (by decide) dX4_lengthOf_11 (fun c5 => ?_) (fun c5 => ?_)
          · refine g_iload_n X 1 rfl dX4_lengthOf_16 ?_
            refine g_bipush X 10 (by decide) dX4_lengthOf_17 ?_
            refine g_irem X (by decide) dX4_lengthOf_19 ?_
            refine gG_top (nI (m % 10)) (pk_rem (d := 10) (by omega) (by decide) (by decide)) ?_
            refine g_istore_n X rfl dX4_lengthOf_20 [(3, .int (nI (m % 10))), (0, .int (nI n)), (1, .int (nI m)), (2, .int (nI c))] rfl (gnl_lt hnL (by decide)) ?_
            refine g_iload_n X 0 rfl dX4_lengthOf_21 ?_
            refine g_iconst X 1 (by decide) dX4_lengthOf_22 ?_
            by_cases hd1 : m % 10 = 1
            · skip
              refine g_icmp_eq X 33 (by decide) dX4_lengthOf_23 (fun c6 => ?_) (fun c6 => ?_)
              · refine g_iload_n X 2 rfl dX4_lengthOf_33 ?_
                refine g_bipush X 10 (by decide) dX4_lengthOf_34 ?_
                refine g_idiv X (by decide) dX4_lengthOf_36 ?_
                refine gG_top (nI (m / 10)) (pk_div (d := 10) (by omega) (by decide) (by decide)) ?_
                refine g_istore_n X rfl dX4_lengthOf_37 [(1, .int (nI (m / 10))), (3, .int (nI (m % 10))), (0, .int (nI n)), (2, .int (nI c))] rfl (gnl_lt hnL (by decide)) ?_
                refine g_iinc X 3 rfl (nI (c + 1)) (iinc_1 _) dX4_lengthOf_38 [(2, .int (nI (c + 1))), (1, .int (nI (m / 10))), (3, .int (nI (m % 10))), (0, .int (nI n))] rfl (gnl_lt hnL (by decide)) ?_
                refine g_goto X 4 (by decide) dX4_lengthOf_41 ?_
                refine gG_L [3, 1, 0] (L' := [(0, .int (nI n)), (1, .int (nI (m / 10))), (2, .int (nI (c + 1)))]) rfl ?_
                refine ih (c + 1) (m / 10) (by omega) (Nat.div_lt_of_lt_mul (by rw [Nat.mul_comm, ← Nat.pow_succ]; exact hm)) (Nat.lt_of_le_of_lt (Nat.div_le_self _ _) hm2) (by rw [hR]; unfold cLc; rw [nOk_s hm0, nLen_s hm0, hd1]; simp [Nat.add_assoc, Nat.add_comm 1])
              · first | exact absurd (by rw [hd1]; rfl) c6 | exact absurd c6 (by rw [hd1]; rfl)
            · skip
              refine g_icmp_eq X 33 (by decide) dX4_lengthOf_23 (fun c7 => ?_) (fun c7 => ?_)
              · first | exact absurd (fun z => hd1 ((nI_eq (a := m % 10) (b := 1) (by omega) (by omega)).mp z)) c7 | exact absurd c7 (fun z => hd1 ((nI_eq (a := m % 10) (b := 1) (by omega) (by omega)).mp z))
              · refine g_iload_n X 0 rfl dX4_lengthOf_26 ?_
                refine g_iconst X 2 (by decide) dX4_lengthOf_27 ?_
                by_cases hd2 : m % 10 = 2
                · skip
                  refine g_icmp_eq X 33 (by decide) dX4_lengthOf_28 (fun c8 => ?_) (fun c8 => ?_)
                  · refine g_iload_n X 2 rfl dX4_lengthOf_33 ?_
                    refine g_bipush X 10 (by decide) dX4_lengthOf_34 ?_
                    refine g_idiv X (by decide) dX4_lengthOf_36 ?_
                    refine gG_top (nI (m / 10)) (pk_div (d := 10) (by omega) (by decide) (by decide)) ?_
                    refine g_istore_n X rfl dX4_lengthOf_37 [(1, .int (nI (m / 10))), (3, .int (nI (m % 10))), (0, .int (nI n)), (2, .int (nI c))] rfl (gnl_lt hnL (by decide)) ?_
                    refine g_iinc X 3 rfl (nI (c + 1)) (iinc_1 _) dX4_lengthOf_38 [(2, .int (nI (c + 1))), (1, .int (nI (m / 10))), (3, .int (nI (m % 10))), (0, .int (nI n))] rfl (gnl_lt hnL (by decide)) ?_
                    refine g_goto X 4 (by decide) dX4_lengthOf_41 ?_
                    refine gG_L [3, 1, 0] (L' := [(0, .int (nI n)), (1, .int (nI (m / 10))), (2, .int (nI (c + 1)))]) rfl ?_
                    refine ih (c + 1) (m / 10) (by omega) (Nat.div_lt_of_lt_mul (by rw [Nat.mul_comm, ← Nat.pow_succ]; exact hm)) (Nat.lt_of_le_of_lt (Nat.div_le_self _ _) hm2) (by rw [hR]; unfold cLc; rw [nOk_s hm0, nLen_s hm0, hd2]; simp [Nat.add_assoc, Nat.add_comm 1])
                  · first | exact absurd (by rw [hd2]; rfl) c8 | exact absurd c8 (by rw [hd2]; rfl)
                · skip
                  refine g_icmp_eq X 33 (by decide) dX4_lengthOf_28 (fun c9 => ?_) (fun c9 => ?_)
                  · first | exact absurd (fun z => hd2 ((nI_eq (a := m % 10) (b := 2) (by omega) (by omega)).mp z)) c9 | exact absurd c9 (fun z => hd2 ((nI_eq (a := m % 10) (b := 2) (by omega) (by omega)).mp z))
                  · refine g_iconst X (-1) (by decide) dX4_lengthOf_31 ?_
                    refine g_iret X F ?_ rfl dX4_lengthOf_32
                    exact ⟨by rw [hR]; unfold cLc; rw [nOk_s hm0]; simp [hd1, hd2], rfl⟩
          · first | exact absurd (nI_ne0 (by omega) (by omega)) c5 | exact absurd c5 (nI_ne0 (by omega) (by omega))
  exact loop 10 0 n (by omega) (Nat.lt_of_lt_of_le hn (by decide)) hn (by unfold cL cLc; simp)

set_option maxRecDepth 20000 in
theorem k_lenNeg {l : Launch} {B : gB} (hI : gI B) (V : gMem) (x : Int32) (hx : x < 0) : gM l B yX4_lengthOf cX4_lengthOf 4 (some .int) rmX4_lengthOf [.int x] V (fun v V' => v = some (.int (-1)) ∧ V' = V) := by
  refine gM_of (own := RX4) (L := [(0, .int x)]) (by decide +kernel) rfl hI (Nat.le_of_ble_eq_true rfl) rfl ?_
  intro Z hnL hR X F
  refine g_iload_n X 0 rfl dX4_lengthOf_0 ?_
  refine g_istore_n X rfl dX4_lengthOf_1 [(1, .int x), (0, .int x)] rfl (gnl_lt hnL (by decide)) ?_
  refine g_iconst X 0 (by decide) dX4_lengthOf_2 ?_
  refine g_istore_n X rfl dX4_lengthOf_3 [(2, .int 0), (1, .int x), (0, .int x)] rfl (gnl_lt hnL (by decide)) ?_
  have hne : ¬ x = 0 := fun q => by rw [q] at hx; exact absurd hx (by decide)
  have hnr := neg_rem hx
  refine g_iload_n X 0 rfl dX4_lengthOf_4 ?_
  refine g_bipush X 10 (by decide) dX4_lengthOf_5 ?_
  refine g_icmp_gt X 44 (by decide) dX4_lengthOf_7 (fun c1 => ?_) (fun c1 => ?_)
  ·  exact absurd c1 (by decide)
  · refine g_iload_n X 1 rfl dX4_lengthOf_10 ?_
    refine g_if_ne X 16 (by decide) dX4_lengthOf_11 (fun c2 => ?_) (fun c2 => ?_)
    · refine g_iload_n X 1 rfl dX4_lengthOf_16 ?_
      refine g_bipush X 10 (by decide) dX4_lengthOf_17 ?_
      refine g_irem X (by decide) dX4_lengthOf_19 ?_
      refine g_istore_n X rfl dX4_lengthOf_20 [(3, .int (x - x / 10 * 10)), (2, .int 0), (1, .int x), (0, .int x)] rfl (gnl_lt hnL (by decide)) ?_
      refine g_iload_n X 0 rfl dX4_lengthOf_21 ?_
      refine g_iconst X 1 (by decide) dX4_lengthOf_22 ?_
      refine g_icmp_eq X 33 (by decide) dX4_lengthOf_23 (fun c3 => ?_) (fun c3 => ?_)
      · first | exact absurd (hnr.1) c3 | exact absurd c3 (hnr.1)
      · refine g_iload_n X 0 rfl dX4_lengthOf_26 ?_
        refine g_iconst X 2 (by decide) dX4_lengthOf_27 ?_
        refine g_icmp_eq X 33 (by decide) dX4_lengthOf_28 (fun c4 => ?_) (fun c4 => ?_)
        · first | exact absurd (hnr.2) c4 | exact absurd c4 (hnr.2)
        · refine g_iconst X (-1) (by decide) dX4_lengthOf_31 ?_
          refine g_iret X F ?_ rfl dX4_lengthOf_32
          exact ⟨rfl, rfl⟩
    · first | exact absurd (hne) c2 | exact absurd c2 (hne)

theorem k_lenR {l : Launch} {B : gB} (hI : gI B) (V : gMem) (n : Nat) (hn : n < 2 ^ 31) (ho : nOk n = true) : gM l B yX4_lengthOf cX4_lengthOf 4 (some .int) rmX4_lengthOf [.int (nI n)] V (fun v V' => v = some (.int (nI (nLen n))) ∧ V' = V) :=
  (k_lenN hI V n hn).mono (fun v V' h => ⟨by rw [h.1]; unfold cL; rw [if_pos ho], h.2⟩)

abbrev rmX4_withoutLast : Room := { frames := 0, cells := 0, slots := 0, locals := 0 }
set_option maxRecDepth 20000 in
theorem k_woL {l : Launch} {B : gB} (hI : gI B) (V : gMem) (r : Nat) (d : Nat) (hr : r < 2 ^ 31) (hd : d ≤ 10) : gM l B yX4_withoutLast cX4_withoutLast 4 (some .int) rmX4_withoutLast [.int (nI r), .int (nI d)] V (fun v V' => v = some (.int (nI (r / 10 ^ d))) ∧ V' = V) := by
  refine gM_of (own := RX4) (L := [(0, .int (nI r)), (1, .int (nI d))]) (by decide +kernel) rfl hI (Nat.le_of_ble_eq_true rfl) rfl ?_
  intro Z hnL hR X F
  refine g_iload_n X 0 rfl dX4_withoutLast_0 ?_
  refine g_istore_n X rfl dX4_withoutLast_1 [(2, .int (nI r)), (0, .int (nI r)), (1, .int (nI d))] rfl (gnl_lt hnL (by decide)) ?_
  refine g_iconst X 0 (by decide) dX4_withoutLast_2 ?_
  refine g_istore_n X rfl dX4_withoutLast_3 [(3, .int 0), (2, .int (nI r)), (0, .int (nI r)), (1, .int (nI d))] rfl (gnl_lt hnL (by decide)) ?_
  refine gG_L [2, 3, 1, 0] (L' := [(0, .int (nI r)), (1, .int (nI d)), (2, .int (nI r)), (3, .int 0)]) rfl ?_
  have hb : nI r = nI (r / 10 ^ 0) := by simp
  refine gG_Le [(0, .int (nI r)), (1, .int (nI d)), (2, .int (nI (r / 10 ^ 0))), (3, .int (nI 0))] (by rw [← hb]; rfl) ?_
  have loop : ∀ (f : Nat) (i : Nat) , i + f = d →  gG Z B (0, 0) V 4 [(0, .int (nI r)), (1, .int (nI d)), (2, .int (nI (r / 10 ^ i))), (3, .int (nI i))] [] := by
    intro f
    induction f with
    | zero =>
      intro i  hf 
      refine g_iload_n X 3 rfl dX4_withoutLast_4 ?_
      refine g_iload_n X 1 rfl dX4_withoutLast_5 ?_
      refine g_icmp_ge X 26 (by decide) dX4_withoutLast_6 (fun c1 => ?_) (fun c1 => ?_)
      · refine g_iload_n X 2 rfl dX4_withoutLast_26 ?_
        refine g_iret X F ?_ rfl dX4_withoutLast_27
        exact ⟨by rw [show i = d by omega], rfl⟩
      · first | exact absurd (nI_le (by omega) (by omega)) c1 | exact absurd c1 (nI_le (by omega) (by omega))
    | succ f ih =>
      intro i  hf 
      refine g_iload_n X 3 rfl dX4_withoutLast_4 ?_
      refine g_iload_n X 1 rfl dX4_withoutLast_5 ?_
      refine g_icmp_ge X 26 (by decide) dX4_withoutLast_6 (fun c2 => ?_) (fun c2 => ?_)
      · first | exact absurd (nI_ge (by omega) (by omega)) c2 | exact absurd c2 (nI_ge (by omega) (by omega))
      · refine g_iload_n X 3 rfl dX4_withoutLast_9 ?_
        refine g_bipush X 10 (by decide) dX4_withoutLast_10 ?_
        refine g_icmp_ge X 26 (by decide) dX4_withoutLast_12 (fun c3 => ?_) (fun c3 => ?_)
        · first | exact absurd (nI_ge (b := 10) (by omega) (by decide)) c3 | exact absurd c3 (nI_ge (b := 10) (by omega) (by decide))
        · refine g_iload_n X 2 rfl dX4_withoutLast_15 ?_
          refine g_bipush X 10 (by decide) dX4_withoutLast_16 ?_
          refine g_idiv X (by decide) dX4_withoutLast_18 ?_
          refine gG_top (nI (r / 10 ^ (i + 1))) ((pk_div (d := 10) (Nat.lt_of_le_of_lt (Nat.div_le_self _ _) hr) (by decide) (by decide)).trans (by rw [Nat.div_div_eq_div_mul, ← Nat.pow_succ])) ?_
          refine g_istore_n X rfl dX4_withoutLast_19 [(2, .int (nI (r / 10 ^ (i + 1)))), (0, .int (nI r)), (1, .int (nI d)), (3, .int (nI i))] rfl (gnl_lt hnL (by decide)) ?_
          refine g_iinc X 3 rfl (nI (i + 1)) (iinc_1 _) dX4_withoutLast_20 [(3, .int (nI (i + 1))), (2, .int (nI (r / 10 ^ (i + 1)))), (0, .int (nI r)), (1, .int (nI d))] rfl (gnl_lt hnL (by decide)) ?_
          refine g_goto X 4 (by decide) dX4_withoutLast_23 ?_
          refine gG_L [2, 3, 1, 0] (L' := [(0, .int (nI r)), (1, .int (nI d)), (2, .int (nI (r / 10 ^ (i + 1)))), (3, .int (nI (i + 1)))]) rfl ?_
          refine ih (i + 1) (by omega)
  exact loop d 0 (by omega)

abbrev rmX4_followedBy : Room := { frames := 0, cells := 0, slots := 0, locals := 0 }
set_option maxRecDepth 20000 in
theorem k_fol {l : Launch} {B : gB} (hI : gI B) (V : gMem) (r : Nat) (d : Nat) (hd : d ≤ 10) : gM l B yX4_followedBy cX4_followedBy 4 (some .int) rmX4_followedBy [.int (nI r), .int (nI d)] V (fun v V' => v = some (.int (nI (r * 10 ^ d))) ∧ V' = V) := by
  refine gM_of (own := RX4) (L := [(0, .int (nI r)), (1, .int (nI d))]) (by decide +kernel) rfl hI (Nat.le_of_ble_eq_true rfl) rfl ?_
  intro Z hnL hR X F
  refine g_iload_n X 0 rfl dX4_followedBy_0 ?_
  refine g_istore_n X rfl dX4_followedBy_1 [(2, .int (nI r)), (0, .int (nI r)), (1, .int (nI d))] rfl (gnl_lt hnL (by decide)) ?_
  refine g_iconst X 0 (by decide) dX4_followedBy_2 ?_
  refine g_istore_n X rfl dX4_followedBy_3 [(3, .int 0), (2, .int (nI r)), (0, .int (nI r)), (1, .int (nI d))] rfl (gnl_lt hnL (by decide)) ?_
  refine gG_L [2, 3, 1, 0] (L' := [(0, .int (nI r)), (1, .int (nI d)), (2, .int (nI r)), (3, .int 0)]) rfl ?_
  have hb : nI r = nI (r * 10 ^ 0) := by simp
  refine gG_Le [(0, .int (nI r)), (1, .int (nI d)), (2, .int (nI (r * 10 ^ 0))), (3, .int (nI 0))] (by rw [← hb]; rfl) ?_
  have loop : ∀ (f : Nat) (i : Nat) , i + f = d →  gG Z B (0, 0) V 4 [(0, .int (nI r)), (1, .int (nI d)), (2, .int (nI (r * 10 ^ i))), (3, .int (nI i))] [] := by
    intro f
    induction f with
    | zero =>
      intro i  hf 
      refine g_iload_n X 3 rfl dX4_followedBy_4 ?_
      refine g_iload_n X 1 rfl dX4_followedBy_5 ?_
      refine g_icmp_ge X 26 (by decide) dX4_followedBy_6 (fun c1 => ?_) (fun c1 => ?_)
      · refine g_iload_n X 2 rfl dX4_followedBy_26 ?_
        refine g_iret X F ?_ rfl dX4_followedBy_27
        exact ⟨by rw [show i = d by omega], rfl⟩
      · first | exact absurd (nI_le (by omega) (by omega)) c1 | exact absurd c1 (nI_le (by omega) (by omega))
    | succ f ih =>
      intro i  hf 
      refine g_iload_n X 3 rfl dX4_followedBy_4 ?_
      refine g_iload_n X 1 rfl dX4_followedBy_5 ?_
      refine g_icmp_ge X 26 (by decide) dX4_followedBy_6 (fun c2 => ?_) (fun c2 => ?_)
      · first | exact absurd (nI_ge (by omega) (by omega)) c2 | exact absurd c2 (nI_ge (by omega) (by omega))
      · refine g_iload_n X 3 rfl dX4_followedBy_9 ?_
        refine g_bipush X 10 (by decide) dX4_followedBy_10 ?_
        refine g_icmp_ge X 26 (by decide) dX4_followedBy_12 (fun c3 => ?_) (fun c3 => ?_)
        · first | exact absurd (nI_ge (b := 10) (by omega) (by decide)) c3 | exact absurd c3 (nI_ge (b := 10) (by omega) (by decide))
        · refine g_iload_n X 2 rfl dX4_followedBy_15 ?_
          refine g_bipush X 10 (by decide) dX4_followedBy_16 ?_
          refine g_imul X dX4_followedBy_18 ?_
          refine gG_top (nI ((r * 10 ^ i) * 10)) (pk_mul (r * 10 ^ i) 10) ?_
          refine gG_top (nI (r * 10 ^ (i + 1))) (by rw [Nat.pow_succ, ← Nat.mul_assoc]) ?_
          refine g_istore_n X rfl dX4_followedBy_19 [(2, .int (nI (r * 10 ^ (i + 1)))), (0, .int (nI r)), (1, .int (nI d)), (3, .int (nI i))] rfl (gnl_lt hnL (by decide)) ?_
          refine g_iinc X 3 rfl (nI (i + 1)) (iinc_1 _) dX4_followedBy_20 [(3, .int (nI (i + 1))), (2, .int (nI (r * 10 ^ (i + 1)))), (0, .int (nI r)), (1, .int (nI d))] rfl (gnl_lt hnL (by decide)) ?_
          refine g_goto X 4 (by decide) dX4_followedBy_23 ?_
          refine gG_L [2, 3, 1, 0] (L' := [(0, .int (nI r)), (1, .int (nI d)), (2, .int (nI (r * 10 ^ (i + 1)))), (3, .int (nI (i + 1)))]) rfl ?_
          refine ih (i + 1) (by omega)
  exact loop d 0 (by omega)

abbrev rmX4_ringAt : Room := { frames := 1, cells := 0, slots := 0, locals := 23 }
set_option maxRecDepth 20000 in
theorem k_ringAt {l : Launch} {B : gB} (hI : gI B) (V : gMem) (r : Nat) (d : Nat) (hr : r < 2 ^ 31) (hd : d ≤ 10) : gM l B yX4_ringAt cX4_ringAt 2 (some .int) rmX4_ringAt [.int (nI r), .int (nI d)] V (fun v V' => v = some (.int (nI (r / 10 ^ d % 10))) ∧ V' = V) := by
  refine gM_of (own := RX4) (L := [(0, .int (nI r)), (1, .int (nI d))]) (by decide +kernel) rfl hI (Nat.le_of_ble_eq_true rfl) rfl ?_
  intro Z hnL hR X F
  refine g_iload_n X 0 rfl dX4_ringAt_0 ?_
  refine g_iload_n X 1 rfl dX4_ringAt_1 ?_
  refine g_callS X hR (As := [.int (nI r), .int (nI d)]) (rest := []) mX4_withoutLast lX4_9 (k_woL hI V r d (by first | assumption | decide | omega) (by first | assumption | decide | omega)) rfl rfl (Nat.le_of_ble_eq_true rfl) ⟨Nat.le_of_ble_eq_true rfl, Nat.le_of_ble_eq_true rfl, Nat.le_of_ble_eq_true rfl, Nat.le_of_ble_eq_true rfl⟩ dX4_ringAt_2 (fun r1 V2 hz_3 => ?_)
  refine gG_ret hz_3.1 hz_3.2 ?_
  refine gG_st [.int (nI (r / 10 ^ d))] rfl ?_
  refine g_bipush X 10 (by decide) dX4_ringAt_5 ?_
  refine g_irem X (by decide) dX4_ringAt_7 ?_
  refine gG_top (nI (r / 10 ^ d % 10)) (pk_rem (d := 10) (Nat.lt_of_le_of_lt (Nat.div_le_self _ _) hr) (by decide) (by decide)) ?_
  refine g_iret X F ?_ rfl dX4_ringAt_8
  exact ⟨rfl, rfl⟩

/-- a row without its ring at a place -/
def nWo (r p : Nat) : Nat := r / 10 ^ (p + 1) * 10 ^ p + r % 10 ^ p

abbrev rmX4_withoutRing : Room := { frames := 1, cells := 0, slots := 0, locals := 23 }
set_option maxRecDepth 20000 in
theorem k_woR {l : Launch} {B : gB} (hI : gI B) (V : gMem) (r : Nat) (p : Nat) (hr : r < 2 ^ 31) (hp : p < 10) : gM l B yX4_withoutRing cX4_withoutRing 3 (some .int) rmX4_withoutRing [.int (nI r), .int (nI p)] V (fun v V' => v = some (.int (nI (nWo r p))) ∧ V' = V) := by
  refine gM_of (own := RX4) (L := [(0, .int (nI r)), (1, .int (nI p))]) (by decide +kernel) rfl hI (Nat.le_of_ble_eq_true rfl) rfl ?_
  intro Z hnL hR X F
  refine g_iload_n X 0 rfl dX4_withoutRing_0 ?_
  refine g_iload_n X 0 rfl dX4_withoutRing_1 ?_
  refine g_iload_n X 1 rfl dX4_withoutRing_2 ?_
  refine g_callS X hR (As := [.int (nI r), .int (nI p)]) (rest := [.int (nI r)]) mX4_withoutLast lX4_9 (k_woL hI V r p (by first | assumption | decide | omega) (by first | assumption | decide | omega)) rfl rfl (Nat.le_of_ble_eq_true rfl) ⟨Nat.le_of_ble_eq_true rfl, Nat.le_of_ble_eq_true rfl, Nat.le_of_ble_eq_true rfl, Nat.le_of_ble_eq_true rfl⟩ dX4_withoutRing_3 (fun r1 V2 hz_3 => ?_)
  refine gG_ret hz_3.1 hz_3.2 ?_
  refine gG_st [.int (nI (r / 10 ^ p)), .int (nI r)] rfl ?_
  refine g_iload_n X 1 rfl dX4_withoutRing_6 ?_
  refine g_callS X hR (As := [.int (nI (r / 10 ^ p)), .int (nI p)]) (rest := [.int (nI r)]) mX4_followedBy lX4_15 (k_fol hI V (r / 10 ^ p) p (by omega)) rfl rfl (Nat.le_of_ble_eq_true rfl) ⟨Nat.le_of_ble_eq_true rfl, Nat.le_of_ble_eq_true rfl, Nat.le_of_ble_eq_true rfl, Nat.le_of_ble_eq_true rfl⟩ dX4_withoutRing_7 (fun r4 V5 hz_6 => ?_)
  refine gG_ret hz_6.1 hz_6.2 ?_
  refine gG_st [.int (nI ((r / 10 ^ p) * 10 ^ p)), .int (nI r)] rfl ?_
  refine g_isub X dX4_withoutRing_10 ?_
  refine gG_top (nI (r % 10 ^ p)) (by rw [pk_sub (Nat.div_mul_le_self _ _)]; exact congrArg nI (by have := Nat.div_add_mod r (10 ^ p); rw [Nat.mul_comm] at this; omega)) ?_
  refine g_istore_n X rfl dX4_withoutRing_11 [(2, .int (nI (r % 10 ^ p))), (0, .int (nI r)), (1, .int (nI p))] rfl (gnl_lt hnL (by decide)) ?_
  refine g_iload_n X 1 rfl dX4_withoutRing_12 ?_
  refine g_iload_n X 2 rfl dX4_withoutRing_13 ?_
  refine g_iconst X 1 (by decide) dX4_withoutRing_14 ?_
  refine g_iadd X dX4_withoutRing_15 ?_
  refine gG_top (nI (p + 1)) (nI_1 _) ?_
  refine g_callS X hR (As := [.int (nI r), .int (nI (p + 1))]) (rest := []) mX4_withoutLast lX4_9 (k_woL hI V r (p + 1) (by first | assumption | decide | omega) (by omega)) rfl rfl (Nat.le_of_ble_eq_true rfl) ⟨Nat.le_of_ble_eq_true rfl, Nat.le_of_ble_eq_true rfl, Nat.le_of_ble_eq_true rfl, Nat.le_of_ble_eq_true rfl⟩ dX4_withoutRing_16 (fun r7 V8 hz_9 => ?_)
  refine gG_ret hz_9.1 hz_9.2 ?_
  refine gG_st [.int (nI (r / 10 ^ (p + 1)))] rfl ?_
  refine g_iload_n X 2 rfl dX4_withoutRing_19 ?_
  refine g_callS X hR (As := [.int (nI (r / 10 ^ (p + 1))), .int (nI p)]) (rest := []) mX4_followedBy lX4_15 (k_fol hI V (r / 10 ^ (p + 1)) p (by omega)) rfl rfl (Nat.le_of_ble_eq_true rfl) ⟨Nat.le_of_ble_eq_true rfl, Nat.le_of_ble_eq_true rfl, Nat.le_of_ble_eq_true rfl, Nat.le_of_ble_eq_true rfl⟩ dX4_withoutRing_20 (fun r10 V11 hz_12 => ?_)
  refine gG_ret hz_12.1 hz_12.2 ?_
  refine gG_st [.int (nI ((r / 10 ^ (p + 1)) * 10 ^ p))] rfl ?_
  refine g_iload_n X 0 rfl dX4_withoutRing_23 ?_
  refine g_iadd X dX4_withoutRing_24 ?_
  refine gG_top (nI (((r / 10 ^ (p + 1)) * 10 ^ p) + (r % 10 ^ p))) (nI_add ((r / 10 ^ (p + 1)) * 10 ^ p) (r % 10 ^ p)) ?_
  refine g_iret X F ?_ rfl dX4_withoutRing_25
  exact ⟨rfl, rfl⟩

abbrev rmX4_isBeginning : Room := { frames := 1, cells := 0, slots := 0, locals := 23 }
set_option maxRecDepth 20000 in
theorem k_isBeg {l : Launch} {B : gB} (hI : gI B) (V : gMem) (b : Nat) (r : Nat) (hb : b < 2 ^ 31) (hr : r < 2 ^ 31) (ob : nOk b = true) (or : nOk r = true) : gM l B yX4_isBeginning cX4_isBeginning 3 (some .boolean) rmX4_isBeginning [.int (nI b), .int (nI r)] V (fun v V' => v = some (.int (if nBeg b r = true then 1 else 0)) ∧ V' = V) := by
  refine gM_of (own := RX4) (L := [(0, .int (nI b)), (1, .int (nI r))]) (by decide +kernel) rfl hI (Nat.le_of_ble_eq_true rfl) rfl ?_
  intro Z hnL hR X F
  have hlr := nLen_10 hr
  have hlb := nLen_10 hb
  refine g_iload_n X 1 rfl dX4_isBeginning_0 ?_
  refine g_callS X hR (As := [.int (nI r)]) (rest := []) mX4_lengthOf lX4_18 (k_lenR hI V r (by first | assumption | decide | omega) (by first | assumption | decide | omega)) rfl rfl (Nat.le_of_ble_eq_true rfl) ⟨Nat.le_of_ble_eq_true rfl, Nat.le_of_ble_eq_true rfl, Nat.le_of_ble_eq_true rfl, Nat.le_of_ble_eq_true rfl⟩ dX4_isBeginning_1 (fun r1 V2 hz_3 => ?_)
  refine gG_ret hz_3.1 hz_3.2 ?_
  refine gG_st [.int (nI (nLen r))] rfl ?_
  refine g_iload_n X 0 rfl dX4_isBeginning_4 ?_
  refine g_callS X hR (As := [.int (nI b)]) (rest := [.int (nI (nLen r))]) mX4_lengthOf lX4_18 (k_lenR hI V b (by first | assumption | decide | omega) (by first | assumption | decide | omega)) rfl rfl (Nat.le_of_ble_eq_true rfl) ⟨Nat.le_of_ble_eq_true rfl, Nat.le_of_ble_eq_true rfl, Nat.le_of_ble_eq_true rfl, Nat.le_of_ble_eq_true rfl⟩ dX4_isBeginning_5 (fun r4 V5 hz_6 => ?_)
  refine gG_ret hz_6.1 hz_6.2 ?_
  refine gG_st [.int (nI (nLen b)), .int (nI (nLen r))] rfl ?_
  refine g_isub X dX4_isBeginning_8 ?_
  by_cases hlt : nLen r < nLen b
  · skip
    refine g_istore_n X rfl dX4_isBeginning_9 [(2, .int ((nI (nLen r)) - (nI (nLen b)))), (0, .int (nI b)), (1, .int (nI r))] rfl (gnl_lt hnL (by decide)) ?_
    refine g_iload_n X 0 rfl dX4_isBeginning_10 ?_
    refine g_if_lt X 27 (by decide) dX4_isBeginning_11 (fun c7 => ?_) (fun c7 => ?_)
    · refine g_iconst X 0 (by decide) dX4_isBeginning_27 ?_
      refine g_zret X F rfl ?_ rfl dX4_isBeginning_28
      exact ⟨by rw [show nBeg b r = false by unfold nBeg; rw [decide_eq_false (by omega)]; rfl]; rfl, rfl⟩
    · first | exact absurd (pk_sneg (by omega) hlt) c7 | exact absurd c7 (pk_sneg (by omega) hlt)
  · refine gG_top (nI (nLen r - nLen b)) (pk_sub (by omega)) ?_
    refine g_istore_n X rfl dX4_isBeginning_9 [(2, .int (nI (nLen r - nLen b))), (0, .int (nI b)), (1, .int (nI r))] rfl (gnl_lt hnL (by decide)) ?_
    refine g_iload_n X 0 rfl dX4_isBeginning_10 ?_
    refine g_if_lt X 27 (by decide) dX4_isBeginning_11 (fun c8 => ?_) (fun c8 => ?_)
    · first | exact absurd (nI_pos (by omega)) c8 | exact absurd c8 (nI_pos (by omega))
    · refine g_iload_n X 2 rfl dX4_isBeginning_14 ?_
      refine g_iload_n X 0 rfl dX4_isBeginning_15 ?_
      refine g_callS X hR (As := [.int (nI r), .int (nI (nLen r - nLen b))]) (rest := []) mX4_withoutLast lX4_9 (k_woL hI V r (nLen r - nLen b) (by first | assumption | decide | omega) (by omega)) rfl rfl (Nat.le_of_ble_eq_true rfl) ⟨Nat.le_of_ble_eq_true rfl, Nat.le_of_ble_eq_true rfl, Nat.le_of_ble_eq_true rfl, Nat.le_of_ble_eq_true rfl⟩ dX4_isBeginning_16 (fun r9 V10 hz_11 => ?_)
      refine gG_ret hz_11.1 hz_11.2 ?_
      refine gG_st [.int (nI (r / 10 ^ (nLen r - nLen b)))] rfl ?_
      by_cases heq : r / 10 ^ (nLen r - nLen b) = b
      · skip
        refine g_iload_n X 1 rfl dX4_isBeginning_19 ?_
        refine g_icmp_ne X 27 (by decide) dX4_isBeginning_20 (fun c12 => ?_) (fun c12 => ?_)
        · first | exact absurd (by rw [heq]) c12 | exact absurd c12 (by rw [heq])
        · refine g_iconst X 1 (by decide) dX4_isBeginning_23 ?_
          refine g_goto X 28 (by decide) dX4_isBeginning_24 ?_
          refine g_zret X F rfl ?_ rfl dX4_isBeginning_28
          exact ⟨by rw [show nBeg b r = true by unfold nBeg; rw [decide_eq_true (by omega), decide_eq_true heq]; rfl]; rfl, rfl⟩
      · skip
        refine g_iload_n X 1 rfl dX4_isBeginning_19 ?_
        refine g_icmp_ne X 27 (by decide) dX4_isBeginning_20 (fun c13 => ?_) (fun c13 => ?_)
        · refine g_iconst X 0 (by decide) dX4_isBeginning_27 ?_
          refine g_zret X F rfl ?_ rfl dX4_isBeginning_28
          exact ⟨by rw [show nBeg b r = false by unfold nBeg; rw [decide_eq_false heq]; exact Bool.and_false _]; rfl, rfl⟩
        · first | exact absurd (fun z => heq ((nI_eq (Nat.lt_of_le_of_lt (Nat.div_le_self _ _) hr) hb).mp z)) c13 | exact absurd c13 (fun z => heq ((nI_eq (Nat.lt_of_le_of_lt (Nat.div_le_self _ _) hr) hb).mp z))

abbrev rmX4_behindBeginning : Room := { frames := 1, cells := 0, slots := 0, locals := 23 }
set_option maxRecDepth 20000 in
theorem k_beh {l : Launch} {B : gB} (hI : gI B) (V : gMem) (b : Nat) (r : Nat) (hb : b < 2 ^ 31) (hr : r < 2 ^ 31) (ob : nOk b = true) (or : nOk r = true) (hbg : nBeg b r = true) : gM l B yX4_behindBeginning cX4_behindBeginning 2 (some .int) rmX4_behindBeginning [.int (nI b), .int (nI r)] V (fun v V' => v = some (.int (nI (r % 10 ^ (nLen r - nLen b)))) ∧ V' = V) := by
  refine gM_of (own := RX4) (L := [(0, .int (nI b)), (1, .int (nI r))]) (by decide +kernel) rfl hI (Nat.le_of_ble_eq_true rfl) rfl ?_
  intro Z hnL hR X F
  have hlr := nLen_10 hr
  have hlb := nLen_10 hb
  unfold nBeg at hbg
  rw [Bool.and_eq_true, decide_eq_true_eq, decide_eq_true_eq] at hbg
  obtain ⟨hle, heq⟩ := hbg
  refine g_iload_n X 1 rfl dX4_behindBeginning_0 ?_
  refine g_iload_n X 0 rfl dX4_behindBeginning_1 ?_
  refine g_iload_n X 1 rfl dX4_behindBeginning_2 ?_
  refine g_callS X hR (As := [.int (nI r)]) (rest := [.int (nI b), .int (nI r)]) mX4_lengthOf lX4_18 (k_lenR hI V r (by first | assumption | decide | omega) (by first | assumption | decide | omega)) rfl rfl (Nat.le_of_ble_eq_true rfl) ⟨Nat.le_of_ble_eq_true rfl, Nat.le_of_ble_eq_true rfl, Nat.le_of_ble_eq_true rfl, Nat.le_of_ble_eq_true rfl⟩ dX4_behindBeginning_3 (fun r1 V2 hz_3 => ?_)
  refine gG_ret hz_3.1 hz_3.2 ?_
  refine gG_st [.int (nI (nLen r)), .int (nI b), .int (nI r)] rfl ?_
  refine g_iload_n X 0 rfl dX4_behindBeginning_6 ?_
  refine g_callS X hR (As := [.int (nI b)]) (rest := [.int (nI (nLen r)), .int (nI b), .int (nI r)]) mX4_lengthOf lX4_18 (k_lenR hI V b (by first | assumption | decide | omega) (by first | assumption | decide | omega)) rfl rfl (Nat.le_of_ble_eq_true rfl) ⟨Nat.le_of_ble_eq_true rfl, Nat.le_of_ble_eq_true rfl, Nat.le_of_ble_eq_true rfl, Nat.le_of_ble_eq_true rfl⟩ dX4_behindBeginning_7 (fun r4 V5 hz_6 => ?_)
  refine gG_ret hz_6.1 hz_6.2 ?_
  refine gG_st [.int (nI (nLen b)), .int (nI (nLen r)), .int (nI b), .int (nI r)] rfl ?_
  refine g_isub X dX4_behindBeginning_10 ?_
  refine gG_top (nI (nLen r - nLen b)) (pk_sub hle) ?_
  refine g_callS X hR (As := [.int (nI b), .int (nI (nLen r - nLen b))]) (rest := [.int (nI r)]) mX4_followedBy lX4_15 (k_fol hI V b (nLen r - nLen b) (by omega)) rfl rfl (Nat.le_of_ble_eq_true rfl) ⟨Nat.le_of_ble_eq_true rfl, Nat.le_of_ble_eq_true rfl, Nat.le_of_ble_eq_true rfl, Nat.le_of_ble_eq_true rfl⟩ dX4_behindBeginning_11 (fun r7 V8 hz_9 => ?_)
  refine gG_ret hz_9.1 hz_9.2 ?_
  refine gG_st [.int (nI (b * 10 ^ (nLen r - nLen b))), .int (nI r)] rfl ?_
  refine g_isub X dX4_behindBeginning_14 ?_
  refine gG_top (nI (r % 10 ^ (nLen r - nLen b))) (by
    have h1 := Nat.div_add_mod r (10 ^ (nLen r - nLen b))
    rw [heq, Nat.mul_comm] at h1
    rw [pk_sub (by omega)]
    exact congrArg nI (by omega)) ?_
  refine g_iret X F ?_ rfl dX4_behindBeginning_15
  exact ⟨rfl, rfl⟩

abbrev rmX8_length : Room := { frames := 0, cells := 0, slots := 0, locals := 0 }
set_option maxRecDepth 20000 in
theorem k_mlen {l : Launch} {B : gB} (hI : gI B) (V : gMem) (n : Nat) (hn : n < 2 ^ 31) : gM l B yX8_length cX8_length 3 (some .int) rmX8_length [.int (nI n)] V (fun v V' => v = some (.int (nI (nLen n))) ∧ V' = V) := by
  refine gM_of (own := RX8) (L := [(0, .int (nI n))]) (by decide +kernel) rfl hI (Nat.le_of_ble_eq_true rfl) rfl ?_
  intro Z hnL hR X F
  refine g_iconst X 0 (by decide) dX8_length_0 ?_
  refine g_istore_n X rfl dX8_length_1 [(1, .int 0), (0, .int (nI n))] rfl (gnl_lt hnL (by decide)) ?_
  refine g_iload_n X 1 rfl dX8_length_2 ?_
  refine g_istore_n X rfl dX8_length_3 [(2, .int (nI n)), (1, .int 0), (0, .int (nI n))] rfl (gnl_lt hnL (by decide)) ?_
  refine gG_L [2, 1, 0] (L' := [(0, .int (nI n)), (1, .int 0), (2, .int (nI n))]) rfl ?_
  have loop : ∀ (f : Nat) (c : Nat) (m : Nat), c + f = nLen n → nLen m = f → m < 2 ^ 31 → gG Z B (0, 0) V 4 [(0, .int (nI n)), (1, .int (nI c)), (2, .int (nI m))] [] := by
    intro f
    induction f with
    | zero =>
      intro c m hf hm hm2
      refine g_iload_n X 2 rfl dX8_length_4 ?_
      refine g_if_le X 19 (by decide) dX8_length_5 (fun c1 => ?_) (fun c1 => ?_)
      · refine g_iload_n X 1 rfl dX8_length_19 ?_
        refine g_iret X F ?_ rfl dX8_length_20
        exact ⟨by rw [show c = nLen n by omega], rfl⟩
      · first | exact absurd (by rw [show m = 0 from Classical.byContradiction (fun q => by have := nLen_pos q; omega)]; decide) c1 | exact absurd c1 (by rw [show m = 0 from Classical.byContradiction (fun q => by have := nLen_pos q; omega)]; decide)
    | succ f ih =>
      intro c m hf hm hm2
      have hm0 : m ≠ 0 := fun q => by rw [q, nLen_0] at hm; omega
      refine g_iload_n X 2 rfl dX8_length_4 ?_
      refine g_if_le X 19 (by decide) dX8_length_5 (fun c2 => ?_) (fun c2 => ?_)
      · first | exact absurd (nI_nle (Nat.pos_of_ne_zero hm0) hm2) c2 | exact absurd c2 (nI_nle (Nat.pos_of_ne_zero hm0) hm2)
      · refine g_iinc X 1 rfl (nI (c + 1)) (iinc_1 _) dX8_length_8 [(1, .int (nI (c + 1))), (0, .int (nI n)), (2, .int (nI m))] rfl (gnl_lt hnL (by decide)) ?_
        refine g_iload_n X 2 rfl dX8_length_11 ?_
        refine g_bipush X 10 (by decide) dX8_length_12 ?_
        refine g_idiv X (by decide) dX8_length_14 ?_
        refine gG_top (nI (m / 10)) (pk_div (d := 10) hm2 (by decide) (by decide)) ?_
        refine g_istore_n X rfl dX8_length_15 [(2, .int (nI (m / 10))), (1, .int (nI (c + 1))), (0, .int (nI n))] rfl (gnl_lt hnL (by decide)) ?_
        refine g_goto X 4 (by decide) dX8_length_16 ?_
        refine gG_L [2, 1, 0] (L' := [(0, .int (nI n)), (1, .int (nI (c + 1))), (2, .int (nI (m / 10)))]) rfl ?_
        refine ih (c + 1) (m / 10) (by omega) (by rw [nLen_s hm0] at hm; omega) (Nat.lt_of_le_of_lt (Nat.div_le_self _ _) hm2)
  exact loop (nLen n) 0 n (by omega) rfl hn

abbrev rmX8_ten : Room := { frames := 0, cells := 0, slots := 0, locals := 0 }
set_option maxRecDepth 20000 in
theorem k_ten {l : Launch} {B : gB} (hI : gI B) (V : gMem) (d : Nat) (hd : d ≤ 10) : gM l B yX8_ten cX8_ten 3 (some .int) rmX8_ten [.int (nI d)] V (fun v V' => v = some (.int (nI (10 ^ d))) ∧ V' = V) := by
  refine gM_of (own := RX8) (L := [(0, .int (nI d))]) (by decide +kernel) rfl hI (Nat.le_of_ble_eq_true rfl) rfl ?_
  intro Z hnL hR X F
  refine g_iconst X 1 (by decide) dX8_ten_0 ?_
  refine g_istore_n X rfl dX8_ten_1 [(1, .int 1), (0, .int (nI d))] rfl (gnl_lt hnL (by decide)) ?_
  refine g_iconst X 0 (by decide) dX8_ten_2 ?_
  refine g_istore_n X rfl dX8_ten_3 [(2, .int 0), (1, .int 1), (0, .int (nI d))] rfl (gnl_lt hnL (by decide)) ?_
  refine gG_L [2, 1, 0] (L' := [(0, .int (nI d)), (1, .int 1), (2, .int 0)]) rfl ?_
  refine gG_Le [(0, .int (nI d)), (1, .int (nI (10 ^ 0))), (2, .int (nI 0))] rfl ?_
  have loop : ∀ (f : Nat) (i : Nat) , i + f = d →  gG Z B (0, 0) V 4 [(0, .int (nI d)), (1, .int (nI (10 ^ i))), (2, .int (nI i))] [] := by
    intro f
    induction f with
    | zero =>
      intro i  hf 
      refine g_iload_n X 2 rfl dX8_ten_4 ?_
      refine g_iload_n X 0 rfl dX8_ten_5 ?_
      refine g_icmp_ge X 20 (by decide) dX8_ten_6 (fun c1 => ?_) (fun c1 => ?_)
      · refine g_iload_n X 1 rfl dX8_ten_20 ?_
        refine g_iret X F ?_ rfl dX8_ten_21
        exact ⟨by rw [show i = d by omega], rfl⟩
      · first | exact absurd (nI_le (by omega) (by omega)) c1 | exact absurd c1 (nI_le (by omega) (by omega))
    | succ f ih =>
      intro i  hf 
      refine g_iload_n X 2 rfl dX8_ten_4 ?_
      refine g_iload_n X 0 rfl dX8_ten_5 ?_
      refine g_icmp_ge X 20 (by decide) dX8_ten_6 (fun c2 => ?_) (fun c2 => ?_)
      · first | exact absurd (nI_ge (by omega) (by omega)) c2 | exact absurd c2 (nI_ge (by omega) (by omega))
      · refine g_iload_n X 1 rfl dX8_ten_9 ?_
        refine g_bipush X 10 (by decide) dX8_ten_10 ?_
        refine g_imul X dX8_ten_12 ?_
        refine gG_top (nI ((10 ^ i) * 10)) (pk_mul (10 ^ i) 10) ?_
        refine gG_top (nI (10 ^ (i + 1))) (by rw [Nat.pow_succ]) ?_
        refine g_istore_n X rfl dX8_ten_13 [(1, .int (nI (10 ^ (i + 1)))), (0, .int (nI d)), (2, .int (nI i))] rfl (gnl_lt hnL (by decide)) ?_
        refine g_iinc X 2 rfl (nI (i + 1)) (iinc_1 _) dX8_ten_14 [(2, .int (nI (i + 1))), (1, .int (nI (10 ^ (i + 1)))), (0, .int (nI d))] rfl (gnl_lt hnL (by decide)) ?_
        refine g_goto X 4 (by decide) dX8_ten_17 ?_
        refine gG_L [2, 1, 0] (L' := [(0, .int (nI d)), (1, .int (nI (10 ^ (i + 1)))), (2, .int (nI (i + 1)))]) rfl ?_
        refine ih (i + 1) (by omega)
  exact loop d 0 (by omega)

theorem isIn_eq {x a c : Int32} : ∀ {P : Prop} [Decidable P], (P ↔ (a ≤ x ∧ x ≤ c)) → True := fun _ => trivial
theorem ten_lt {d : Nat} (h : d ≤ 9) : 10 ^ d < 2 ^ 31 := Nat.lt_of_le_of_lt (Nat.pow_le_pow_right (by decide) h) (by decide)
theorem ten_pos (d : Nat) : 0 < 10 ^ d := Nat.pow_pos (by decide)

abbrev rmX8_begins : Room := { frames := 1, cells := 0, slots := 0, locals := 22 }
set_option maxRecDepth 20000 in
theorem k_begins {l : Launch} {B : gB} (hI : gI B) (V : gMem) (r : Nat) (b : Nat) (hb : b < 2 ^ 31) (hr : r < 2 ^ 31) (hl9 : nLen r ≤ 9) : gM l B yX8_begins cX8_begins 3 (some .boolean) rmX8_begins [.int (nI r), .int (nI b)] V (fun v V' => v = some (.int (if nBeg b r = true then 1 else 0)) ∧ V' = V) := by
  refine gM_of (own := RX8) (L := [(0, .int (nI r)), (1, .int (nI b))]) (by decide +kernel) rfl hI (Nat.le_of_ble_eq_true rfl) rfl ?_
  intro Z hnL hR X F
  have hlr := nLen_10 hr
  have hlb := nLen_10 hb
  refine g_iload_n X 0 rfl dX8_begins_0 ?_
  refine g_callS X hR (As := [.int (nI r)]) (rest := []) mX8_length lX8_44 (k_mlen hI V r (by first | assumption | decide | omega)) rfl rfl (Nat.le_of_ble_eq_true rfl) ⟨Nat.le_of_ble_eq_true rfl, Nat.le_of_ble_eq_true rfl, Nat.le_of_ble_eq_true rfl, Nat.le_of_ble_eq_true rfl⟩ dX8_begins_1 (fun r1 V2 hz_3 => ?_)
  refine gG_ret hz_3.1 hz_3.2 ?_
  refine gG_st [.int (nI (nLen r))] rfl ?_
  refine g_iload_n X 1 rfl dX8_begins_4 ?_
  refine g_callS X hR (As := [.int (nI b)]) (rest := [.int (nI (nLen r))]) mX8_length lX8_44 (k_mlen hI V b (by first | assumption | decide | omega)) rfl rfl (Nat.le_of_ble_eq_true rfl) ⟨Nat.le_of_ble_eq_true rfl, Nat.le_of_ble_eq_true rfl, Nat.le_of_ble_eq_true rfl, Nat.le_of_ble_eq_true rfl⟩ dX8_begins_5 (fun r4 V5 hz_6 => ?_)
  refine gG_ret hz_6.1 hz_6.2 ?_
  refine gG_st [.int (nI (nLen b)), .int (nI (nLen r))] rfl ?_
  refine g_isub X dX8_begins_8 ?_
  by_cases hlt : nLen r < nLen b
  · skip
    refine g_istore_n X rfl dX8_begins_9 [(2, .int ((nI (nLen r)) - (nI (nLen b)))), (0, .int (nI r)), (1, .int (nI b))] rfl (gnl_lt hnL (by decide)) ?_
    refine g_iload_n X 0 rfl dX8_begins_10 ?_
    refine g_if_lt X 28 (by decide) dX8_begins_11 (fun c7 => ?_) (fun c7 => ?_)
    · refine g_iconst X 0 (by decide) dX8_begins_28 ?_
      refine g_zret X F rfl ?_ rfl dX8_begins_29
      exact ⟨by rw [show nBeg b r = false by unfold nBeg; rw [decide_eq_false (by omega)]; rfl]; rfl, rfl⟩
    · first | exact absurd (pk_sneg (by omega) hlt) c7 | exact absurd c7 (pk_sneg (by omega) hlt)
  · refine gG_top (nI (nLen r - nLen b)) (pk_sub (by omega)) ?_
    refine g_istore_n X rfl dX8_begins_9 [(2, .int (nI (nLen r - nLen b))), (0, .int (nI r)), (1, .int (nI b))] rfl (gnl_lt hnL (by decide)) ?_
    refine g_iload_n X 0 rfl dX8_begins_10 ?_
    refine g_if_lt X 28 (by decide) dX8_begins_11 (fun c8 => ?_) (fun c8 => ?_)
    · first | exact absurd (nI_pos (by omega)) c8 | exact absurd c8 (nI_pos (by omega))
    · refine g_iload_n X 1 rfl dX8_begins_14 ?_
      refine g_iload_n X 0 rfl dX8_begins_15 ?_
      refine g_callS X hR (As := [.int (nI (nLen r - nLen b))]) (rest := [.int (nI r)]) mX8_ten lX8_52 (k_ten hI V (nLen r - nLen b) (by omega)) rfl rfl (Nat.le_of_ble_eq_true rfl) ⟨Nat.le_of_ble_eq_true rfl, Nat.le_of_ble_eq_true rfl, Nat.le_of_ble_eq_true rfl, Nat.le_of_ble_eq_true rfl⟩ dX8_begins_16 (fun r9 V10 hz_11 => ?_)
      refine gG_ret hz_11.1 hz_11.2 ?_
      refine gG_st [.int (nI (10 ^ (nLen r - nLen b))), .int (nI r)] rfl ?_
      refine g_idiv X (nI_ne0 (ten_pos _) (ten_lt (by omega))) dX8_begins_19 ?_
      refine gG_top (nI (r / 10 ^ (nLen r - nLen b))) (pk_div hr (ten_pos _) (ten_lt (by omega))) ?_
      refine g_iload_n X 2 rfl dX8_begins_20 ?_
      by_cases heq : r / 10 ^ (nLen r - nLen b) = b
      · skip
        refine g_icmp_ne X 28 (by decide) dX8_begins_21 (fun c12 => ?_) (fun c12 => ?_)
        · first | exact absurd (by rw [heq]) c12 | exact absurd c12 (by rw [heq])
        · refine g_iconst X 1 (by decide) dX8_begins_24 ?_
          refine g_goto X 29 (by decide) dX8_begins_25 ?_
          refine g_zret X F rfl ?_ rfl dX8_begins_29
          exact ⟨by rw [show nBeg b r = true by unfold nBeg; rw [decide_eq_true (by omega), decide_eq_true heq]; rfl]; rfl, rfl⟩
      · skip
        refine g_icmp_ne X 28 (by decide) dX8_begins_21 (fun c13 => ?_) (fun c13 => ?_)
        · refine g_iconst X 0 (by decide) dX8_begins_28 ?_
          refine g_zret X F rfl ?_ rfl dX8_begins_29
          exact ⟨by rw [show nBeg b r = false by unfold nBeg; rw [decide_eq_false heq]; exact Bool.and_false _]; rfl, rfl⟩
        · first | exact absurd (fun z => heq ((nI_eq (Nat.lt_of_le_of_lt (Nat.div_le_self _ _) hr) hb).mp z)) c13 | exact absurd c13 (fun z => heq ((nI_eq (Nat.lt_of_le_of_lt (Nat.div_le_self _ _) hr) hb).mp z))

