/-! WHAT THE LAW CHECKS, said of S -/
theorem nI_ne_m1 {i : Nat} (h : i < 2 ^ 31) : ¬ nI i = -1 := fun q => nI_pos h (by rw [q]; decide)
theorem s_l31 : ∀ n, n < 32 → ((nI n &&& 31).toBitVec.smod 32).toNat = n := by decide +kernel
theorem nI_or (a b : Nat) : nI a ||| nI b = nI (a ||| b) := by
  apply Int32.toBitVec_inj.1
  show BitVec.ofNat 32 a ||| BitVec.ofNat 32 b = BitVec.ofNat 32 (a ||| b)
  apply BitVec.eq_of_getLsbD_eq
  intro i hi
  simp [hi]
theorem set_shr {m p : Nat} (hm : m < 2 ^ 30) (hp : p < 30) : (nI m >>> (nI p &&& 31)) &&& 1 = nI (m / 2 ^ p % 2) := by
  have h1 : m / 2 ^ p ≤ m := Nat.div_le_self _ _
  rw [pk_shrN (by omega) (nI p &&& 31) p (s_l31 p (by omega)), pk_andN (by omega) 1 (by decide)]
theorem set_or {m p : Nat} (hp : p < 30) : nI m ||| ((1 : Int32) <<< (nI p &&& 31)) = nI (m ||| 2 ^ p) := by
  have h1 : 2 ^ p < 2 ^ 30 := Nat.pow_lt_pow_right (by decide) hp
  have h2 : (1 : Int32) <<< (nI p &&& 31) = nI (1 * 2 ^ p) := pk_shlN (n := 1) (nI p &&& 31) p (s_l31 p (by omega)) (by omega)
  rw [h2, Nat.one_mul, nI_or]
/-- a cart's place on the bridge -/
def pl (S : gSt) (i : Nat) : Nat := if S.2.2.2.1 i 1 = 0 then S.2.2.2.1 i 9 else S.1 2 - 1 - S.2.2.2.1 i 9
theorem plc_on {S : gSt} {i : Nat} (h : S.2.2.2.1 i 8 = 1) : sPlc S i = nI (pl S i) := by
  unfold sPlc pl
  rw [if_pos h]
  split <;> rfl
theorem plc_off {S : gSt} {i : Nat} (h : S.2.2.2.1 i 8 ≠ 1) : sPlc S i = -1 := if_neg h
theorem pl_lt {S : gSt} (hw : WF S) {i : Nat} (hi : i < S.1 6) (h : S.2.2.2.1 i 8 = 1) : pl S i < S.1 2 := by
  have h1 := hw.2.2.2.2.2.1 i (hw.on hi h)
  unfold pl
  split <;> omega
theorem pw_eq {f : Nat → Nat} : ∀ {l : List Nat}, l.Pairwise (fun i j => f j < f i) → ∀ i ∈ l, ∀ j ∈ l, f i = f j → i = j
  | [], _, i, hi, _, _, _ => absurd hi List.not_mem_nil
  | a :: l, h, i, hi, j, hj, e => by
    rw [List.pairwise_cons] at h
    rcases List.mem_cons.mp hi with q | q <;> rcases List.mem_cons.mp hj with z | z
    · rw [q, z]
    · have := h.1 j z; rw [q] at e; omega
    · have := h.1 i q; rw [z] at e; omega
    · exact pw_eq h.2 i q j z e
theorem pl_inj {S : gSt} (hw : WF S) {i j : Nat} (hi : i < S.1 6) (hj : j < S.1 6) (h : S.2.2.2.1 i 8 = 1) (h2 : S.2.2.2.1 j 8 = 1) (e : pl S i = pl S j) : i = j := by
  have mi := hw.on hi h
  have mj := hw.on hj h2
  have hend := hw.2.2.2.2.2.2.1 i mi j mj
  have wi := hw.2.2.2.2.2.1 i mi
  have wj := hw.2.2.2.2.2.1 j mj
  refine pw_eq (f := fun k => S.2.2.2.1 k 9) hw.2.2.2.1 i mi j mj ?_
  show S.2.2.2.1 i 9 = S.2.2.2.1 j 9
  unfold pl at e
  rw [hend] at e
  split at e <;> omega
/-- the places of the first c carts, as a set of bits -/
def msk (S : gSt) : Nat → Nat
  | 0 => 0
  | c + 1 => if S.2.2.2.1 c 8 = 1 then msk S c ||| 2 ^ pl S c else msk S c
theorem msk_lt {S : gSt} (hw : WF S) : ∀ c, c ≤ S.1 6 → msk S c < 2 ^ 30
  | 0, _ => Nat.two_pow_pos 30
  | c + 1, h => by
    have h1 := msk_lt hw c (by omega)
    unfold msk
    split
    · rename_i h8
      have h2 := pl_lt hw (i := c) (by omega) h8
      have h3 := hw.1.2.1.2
      exact Nat.or_lt_two_pow h1 (Nat.pow_lt_pow_right (by decide) (by omega))
    · exact h1
theorem msk_bit (S : gSt) (p : Nat) : ∀ c, (msk S c).testBit p = true → ∃ i, i < c ∧ S.2.2.2.1 i 8 = 1 ∧ pl S i = p
  | 0, h => by simp [msk] at h
  | c + 1, h => by
    unfold msk at h
    split at h
    · rename_i h8
      rw [Nat.testBit_or, Bool.or_eq_true] at h
      rcases h with h | h
      · obtain ⟨i, q1, q2, q3⟩ := msk_bit S p c h
        exact ⟨i, by omega, q2, q3⟩
      · rw [Nat.testBit_two_pow, decide_eq_true_eq] at h
        exact ⟨c, Nat.lt_succ_self c, h8, h⟩
    · obtain ⟨i, q1, q2, q3⟩ := msk_bit S p c h
      exact ⟨i, by omega, q2, q3⟩
theorem msk_free {S : gSt} (hw : WF S) {c : Nat} (hc : c < S.1 6) (h8 : S.2.2.2.1 c 8 = 1) : msk S c / 2 ^ pl S c % 2 = 0 := by
  have h1 : (msk S c).testBit (pl S c) ≠ true := by
    intro q
    obtain ⟨i, q1, q2, q3⟩ := msk_bit S _ c q
    have := pl_inj hw (by omega) hc q2 h8 q3
    omega
  rw [Nat.testBit_eq_decide_div_mod_eq, ne_eq, decide_eq_true_eq] at h1
  have := Nat.mod_lt (msk S c / 2 ^ pl S c) (y := 2) (by decide)
  omega
/-- how many of the first c carts are on the bridge and go back -/
def bk (S : gSt) (c : Nat) : Nat := cntF (fun i => decide (S.2.2.2.1 i 8 = 1) && !decide (S.2.2.2.1 i 1 = S.1 1)) c
def stc (S : gSt) (k c : Nat) : Nat := cntF (fun i => decide (S.2.2.2.1 i 8 = k)) c
theorem cntF_none0 {f : Nat → Bool} : ∀ n, (∀ i, i < n → f i = false) → cntF f n = 0
  | 0, _ => rfl
  | n + 1, h => by
    unfold cntF
    rw [cntF_none0 n (fun i hi => h i (by omega)), h n (by omega)]
    rfl
theorem bk_all {S : gSt} (hw : WF S) : bk S (S.1 6) = 0 ∨ bk S (S.1 6) = stc S 1 (S.1 6) := by
  by_cases h : ∃ i, i < S.1 6 ∧ S.2.2.2.1 i 8 = 1 ∧ ¬ S.2.2.2.1 i 1 = S.1 1
  · obtain ⟨j, hj, hj8, hj1⟩ := h
    refine Or.inr (cntF_congr _ (fun i hi => ?_))
    by_cases h8 : S.2.2.2.1 i 8 = 1
    · have := hw.2.2.2.2.2.2.1 i (hw.on hi h8) j (hw.on hj hj8)
      rw [this, decide_eq_false hj1]
      simp [h8]
    · simp [h8]
  · refine Or.inl (cntF_none0 _ (fun i hi => ?_))
    by_cases h8 : S.2.2.2.1 i 8 = 1
    · have : S.2.2.2.1 i 1 = S.1 1 := Classical.byContradiction (fun q => h ⟨i, hi, h8, q⟩)
      simp [this]
    · simp [h8]
/-- the weight on the bridge, cart by cart -/
def wSm (S : gSt) (c : Nat) : Nat := sumN (fun i => if decide (S.2.2.2.1 i 8 = 1) = true then S.2.2.2.1 i 3 else 0) c
theorem wSm_all {S : gSt} (hw : WF S) : wSm S (S.1 6) = sW S := (sum_cnt (S.1 6) hw.ne (fun i => by rw [hw.2.2.2.2.1 i, decide_eq_true_eq])).symm
theorem wSm_s (S : gSt) (c : Nat) : wSm S (c + 1) = wSm S c + if S.2.2.2.1 c 8 = 1 then S.2.2.2.1 c 3 else 0 := by
  show sumN _ c + (if decide (S.2.2.2.1 c 8 = 1) = true then S.2.2.2.1 c 3 else 0) = _
  by_cases h : S.2.2.2.1 c 8 = 1
  · rw [if_pos (decide_eq_true h), if_pos h]; rfl
  · rw [if_neg (by simpa using h), if_neg h]; rfl
theorem wSm_le {S : gSt} (hw : WF S) {c : Nat} (hc : c ≤ S.1 6) : wSm S c ≤ 3200 := by
  have h1 := sumN_le (f := fun i => if decide (S.2.2.2.1 i 8 = 1) = true then S.2.2.2.1 i 3 else 0) (b := 200) c (fun i hi => by
    have := (hw.2.1 i (by omega)).2.2.1
    show (if _ then _ else _) ≤ 200
    split <;> omega)
  have h2 := hw.1.2.2.2.2.2
  have h3 : c * 200 ≤ 16 * 200 := Nat.mul_le_mul_right _ (by omega)
  unfold wSm
  omega
def cSm (S : gSt) (c : Nat) : Nat := sumN (fun i => S.2.2.2.1 i 5) c
theorem cSm_le {S : gSt} (hw : WF S) {c : Nat} (hc : c ≤ S.1 6) : cSm S c ≤ 1600 := by
  have h1 := sumN_le (f := fun i => S.2.2.2.1 i 5) (b := 100) c (fun i hi => (hw.2.1 i (by omega)).2.2.2.2.1)
  have h2 := hw.1.2.2.2.2.2
  have h3 : c * 100 ≤ 16 * 100 := Nat.mul_le_mul_right _ (by omega)
  unfold cSm
  omega
theorem stc_le (S : gSt) (k c : Nat) : stc S k c ≤ c := cntF_le _ c
theorem bk_le (S : gSt) (c : Nat) : bk S c ≤ c := cntF_le _ c
theorem stc_s (S : gSt) (k c : Nat) : stc S k (c + 1) = stc S k c + if S.2.2.2.1 c 8 = k then 1 else 0 := by
  show cntF _ c + (if decide (S.2.2.2.1 c 8 = k) = true then 1 else 0) = _
  by_cases h : S.2.2.2.1 c 8 = k
  · rw [if_pos (decide_eq_true h), if_pos h]; rfl
  · rw [if_neg (by simpa using h), if_neg h]; rfl
theorem bk_s (S : gSt) (c : Nat) : bk S (c + 1) = bk S c + if S.2.2.2.1 c 8 = 1 then (if S.2.2.2.1 c 1 = S.1 1 then 0 else 1) else 0 := by
  show cntF _ c + (if (decide (S.2.2.2.1 c 8 = 1) && !decide (S.2.2.2.1 c 1 = S.1 1)) = true then 1 else 0) = _
  by_cases h8 : S.2.2.2.1 c 8 = 1
  · rw [if_pos h8]
    by_cases h1 : S.2.2.2.1 c 1 = S.1 1
    · rw [if_pos h1]; simp [h1]; rfl
    · rw [if_neg h1]; simp [h8, h1]; rfl
  · rw [if_neg h8]; simp [h8]; rfl
theorem msk_s (S : gSt) (c : Nat) : msk S (c + 1) = if S.2.2.2.1 c 8 = 1 then msk S c ||| 2 ^ pl S c else msk S c := rfl
theorem cSm_s (S : gSt) (c : Nat) : cSm S (c + 1) = cSm S c + S.2.2.2.1 c 5 := rfl
/-- when a cart is over: a tick later it is one tick less -/
theorem ov_spec (i : Nat) : ∀ (f k : Nat) (S : gSt), ovF i f k S = -1 ∨ ∃ m, m < f ∧ ovF i f k S = nI (k + m) ∧ ∀ f' k', m < f' → ovF i f' k' S = nI (k' + m)
  | 0, k, S => Or.inl rfl
  | f + 1, k, S => by
    by_cases h : S.2.2.2.1 i 8 = 2
    · refine Or.inr ⟨0, Nat.succ_pos f, by rw [ovF, if_pos h]; rfl, fun f' k' hf => ?_⟩
      obtain ⟨g, rfl⟩ : ∃ g, f' = g + 1 := ⟨f' - 1, by omega⟩
      rw [ovF, if_pos h]
      rfl
    · rcases ov_spec i f (k + 1) (sTick S).1 with q | ⟨m, hm, q, hq⟩
      · exact Or.inl (by rw [ovF, if_neg h, q])
      · refine Or.inr ⟨m + 1, by omega, by rw [ovF, if_neg h, q, Nat.add_assoc, Nat.add_comm 1 m], fun f' k' hf => ?_⟩
        obtain ⟨g, rfl⟩ : ∃ g, f' = g + 1 := ⟨f' - 1, by omega⟩
        rw [ovF, if_neg h, hq g (k' + 1) (by omega), Nat.add_assoc, Nat.add_comm 1 m]
theorem ov_step {S : gSt} (hw : WF S) {i : Nat} (hi : i < S.1 6) : ovF i 201 0 S = -1 ∨ ∃ m, m ≤ 200 ∧ ovF i 201 0 S = nI m ∧ ovF i 201 0 (sTick S).1 = nI (m - 1) := by
  rcases ov_spec i 201 0 S with q | ⟨m, hm, q, hq⟩
  · exact Or.inl q
  · rw [Nat.zero_add] at q
    refine Or.inr ⟨m, by omega, q, ?_⟩
    by_cases h : S.2.2.2.1 i 8 = 2
    · have h0 : ovF i 201 0 S = nI 0 := by rw [ovF, if_pos h]
      have hm0 : m = 0 := (nI_eq (by omega) (by omega)).mp (q.symm.trans h0)
      subst hm0
      have h2 : (sTick S).1.2.2.2.1 i 8 = 2 := by rw [((tick_keeps hw) i hi).1 (by omega)]; exact h
      rw [ovF, if_pos h2]
    · have h1 : ovF i 200 1 (sTick S).1 = nI m := (show ovF i 201 0 S = ovF i 200 1 (sTick S).1 by rw [ovF, if_neg h]).symm.trans q
      rcases ov_spec i 200 1 (sTick S).1 with z | ⟨m', hm', z, hz⟩
      · rw [h1] at z
        exact absurd z (nI_ne_m1 (by omega))
      · have e : m = 1 + m' := (nI_eq (by omega) (by omega)).mp (h1.symm.trans z)
        rw [hz 201 0 (by omega)]
        congr 1
        omega
theorem kp_rng (S : gSt) : ∀ k, (kpL S k).2 = -1 ∨ ∃ j, j < k ∧ (kpL S k).2 = nI j
  | 0 => Or.inl (by rw [kpL_0])
  | k + 1 => by
    rw [kpL_s]
    split
    · exact Or.inr ⟨k, Nat.lt_succ_self k, rfl⟩
    · rcases kp_rng S k with q | ⟨j, hj, q⟩
      · exact Or.inl q
      · exact Or.inr ⟨j, by omega, q⟩
theorem sRun_one (S : gSt) : sRun 1 S = sTick S := rfl
theorem soon_le {S : gSt} (hw : WF S) : (sTick S).2 ≤ 16 := by
  have := sRun_le hw 1
  rw [sRun_one] at this
  exact this
theorem cnt_tick {S : gSt} (hw : WF S) : sCnt (sTick S).1 2 = sCnt S 2 + (sTick S).2 := tick_cnt hw
/-- those who wait are those in the queues -/
theorem waits_all {S : gSt} (hw : WF S) : (S.2.1 0).length + (S.2.1 1).length = stc S 0 (S.1 6) := by
  have h0 := len_cnt (p := fun i => decide (S.2.2.2.1 i 8 = 0) && decide (S.2.2.2.1 i 1 = 0)) (S.1 6) (hw.2.2.1 0 (by decide)).1 (fun i => by
    rw [(hw.2.2.1 0 (by decide)).2 i, Bool.and_eq_true, decide_eq_true_eq, decide_eq_true_eq])
  have h1 := len_cnt (p := fun i => decide (S.2.2.2.1 i 8 = 0) && decide (S.2.2.2.1 i 1 = 1)) (S.1 6) (hw.2.2.1 1 (by decide)).1 (fun i => by
    rw [(hw.2.2.1 1 (by decide)).2 i, Bool.and_eq_true, decide_eq_true_eq, decide_eq_true_eq])
  have h2 : ∀ n, n ≤ S.1 6 → cntF (fun i => decide (S.2.2.2.1 i 8 = 0) && decide (S.2.2.2.1 i 1 = 0)) n + cntF (fun i => decide (S.2.2.2.1 i 8 = 0) && decide (S.2.2.2.1 i 1 = 1)) n = stc S 0 n := by
    intro n
    induction n with
    | zero => intro _; rfl
    | succ n ih =>
      intro hn
      have h3 := ih (by omega)
      have h4 := (hw.2.1 n (by omega)).1
      rw [stc_s, ← h3]
      show (cntF _ n + _) + (cntF _ n + _) = _
      by_cases h8 : S.2.2.2.1 n 8 = 0
      · rcases (show S.2.2.2.1 n 1 = 0 ∨ S.2.2.2.1 n 1 = 1 by omega) with q | q
        · simp [h8, q]; omega
        · simp [h8, q]; omega
      · simp [h8]
  rw [h0, h1]
  exact h2 _ (Nat.le_refl _)
/-- what foresees: with no more done, the next tick -/
theorem sub_add (a b : Int32) : b + (a - b) = a := by
  rw [Int32.add_comm, Int32.sub_add_cancel]
theorem qAt {S : gSt} (hw : WF S) {e k : Nat} (he : e < 2) (hk : k < (S.2.1 e).length) : ∃ j, (S.2.1 e)[k]?.getD 0 = j ∧ j < S.1 6 ∧ S.2.2.2.1 j 8 = 0 ∧ S.2.2.2.1 j 1 = e := by
  refine ⟨_, rfl, ?_⟩
  rw [List.getElem?_eq_getElem hk]
  exact hw.qmem he (List.getElem_mem hk)
theorem qNe {S : gSt} (hw : WF S) {e k o : Nat} (he : e < 2) (hk : k < (S.2.1 e).length) (ho : o < k) : (S.2.1 e)[o]?.getD 0 ≠ (S.2.1 e)[k]?.getD 0 := by
  rw [List.getElem?_eq_getElem hk, List.getElem?_eq_getElem (by omega)]
  intro q
  have h1 : (S.2.1 e)[o]'(by omega) = (S.2.1 e)[k] := q
  have := (List.getElem_inj (hw.2.2.1 e he).1).mp h1
  omega
/-- what stands at an end, and how much -/
theorem box_all {S : gSt} {c0 : Nat → Nat} {tk e : Nat} (h : LI c0 tk S) (he : e < 2) : S.2.2.1 e 2 ≤ S.1 6 ∧ S.2.2.1 e 2 ≤ S.2.2.1 e 3 ∧ S.2.2.1 e 3 ≤ 4 * S.2.2.1 e 2 ∧ S.2.2.1 e 4 ≤ 27 * S.2.2.1 e 2 := by
  have h1 := h.2.2.2.1 e he
  have h2 := cntF_le (fun i => decide (S.2.2.2.1 i 7 = 1) && decide (S.2.2.2.1 i 1 = e)) (S.1 6)
  exact ⟨by rw [h1.1]; exact h2, h1.2⟩
