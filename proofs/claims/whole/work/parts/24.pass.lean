/-! the reference: a tick -/
theorem cntF_congr {f g : Nat → Bool} : ∀ n, (∀ i, i < n → f i = g i) → cntF f n = cntF g n
  | 0, _ => rfl
  | n + 1, h => by
    unfold cntF
    rw [cntF_congr n (fun i hi => h i (by omega)), h n (by omega)]
theorem cntF_set {f g : Nat → Bool} {i : Nat} (h0 : f i = false) (h1 : g i = true) (hs : ∀ j, j ≠ i → g j = f j) : ∀ n, i < n → cntF g n = cntF f n + 1
  | 0, h => by omega
  | n + 1, h => by
    unfold cntF
    by_cases hn : i = n
    · subst hn
      rw [cntF_congr i (fun j hj => hs j (by omega)), h0, h1]
      simp
    · rw [cntF_set h0 h1 hs n (by omega), hs n (fun q => hn q.symm)]
      omega
theorem goOnL_cnt (pl tk n : Nat) : ∀ (is : List Nat) (lim : Nat) (S : gSt), is.Nodup → (∀ i ∈ is, i < n ∧ S.2.2.2.1 i 8 = 1) → cntF (fun i => decide ((goOnL pl tk is lim S).1.2.2.2.1 i 8 = 2)) n = cntF (fun i => decide (S.2.2.2.1 i 8 = 2)) n + (goOnL pl tk is lim S).2 := by
  intro is
  induction is with
  | nil => intro lim S _ _; rfl
  | cons i is ih =>
    intro lim S hn hm
    rw [List.nodup_cons] at hn
    obtain ⟨hi, h8⟩ := hm i List.mem_cons_self
    unfold goOnL
    split
    · rw [ih _ _ hn.2 (fun j hj => ⟨(hm j (List.mem_cons_of_mem _ hj)).1, by rw [← (hm j (List.mem_cons_of_mem _ hj)).2]; simp [sC]⟩)]
      congr 1
      exact cntF_congr n (fun j _ => by simp [sC])
    · show cntF (fun j => decide ((goOnL pl tk is lim (sO (sC S i 8 2) i (nI tk))).1.2.2.2.1 j 8 = 2)) n = _ + ((goOnL pl tk is lim (sO (sC S i 8 2) i (nI tk))).2 + 1)
      rw [ih _ _ hn.2 (fun j hj => by
        have hji : j ≠ i := fun q => hn.1 (q ▸ hj)
        exact ⟨(hm j (List.mem_cons_of_mem _ hj)).1, by rw [← (hm j (List.mem_cons_of_mem _ hj)).2]; simp [sO, sC, hji]⟩)]
      rw [cntF_set (f := fun j => decide (S.2.2.2.1 j 8 = 2)) (g := fun j => decide ((sO (sC S i 8 2) i (nI tk)).2.2.2.1 j 8 = 2)) (i := i) (by simp [h8]) (by simp [sO, sC]) (fun j hj => by simp [sO, sC, hj]) n hi]
      omega
theorem sLeave_eq (S : gSt) (l : Nat) (ys : List Nat) : sLeave S l ys = sQ (sQ (sC S l 8 0) (S.2.2.2.1 l 1) (l :: S.2.1 (S.2.2.2.1 l 1))) 2 ys := by
  have h : (sC S l 8 0).2.2.2.1 l 1 = S.2.2.2.1 l 1 := by simp [sC]
  unfold sLeave
  simp only [h]
  rfl
theorem goBack_st {S : gSt} (h : WF S) (i : Nat) : (sGoBack S).2.2.2.1 i 8 = 2 ↔ S.2.2.2.1 i 8 = 2 := by
  rcases List.eq_nil_or_concat (S.2.1 2) with hq | ⟨ys, l, hq⟩
  · unfold sGoBack
    rw [hq]
    exact Iff.rfl
  · have hq : S.2.1 2 = ys ++ [l] := hq.trans (List.concat_eq_append ..)
    have hrev : (S.2.1 2).reverse = l :: ys.reverse := by rw [hq]; simp
    have hl8 : S.2.2.2.1 l 8 = 1 := ((h.2.2.2.2.1 l).mp (by rw [hq]; simp)).2
    have hn := nodup_rev h.ne
    rw [hrev] at hn
    unfold sGoBack
    rw [hrev]
    simp only []
    split
    · rw [(backL_spec ys.reverse _ (List.nodup_cons.mp hn).2).2.2.2.2.1 i 8 (by decide), sLeave_eq]
      show (if i = l ∧ 8 = 8 then 0 else S.2.2.2.1 i 8) = 2 ↔ _
      by_cases hi : i = l
      · subst hi; simp [hl8]
      · simp [hi]
    · rw [(backL_spec (l :: ys.reverse) S hn).2.2.2.2.1 i 8 (by decide)]
theorem come_st {S : gSt} (h : WF S) (i : Nat) : (sCome S).2.2.2.1 i 8 = 2 ↔ S.2.2.2.1 i 8 = 2 := by
  cases hq : S.2.1 (S.1 1) with
  | nil => rw [sCome_nil hq]
  | cons c ys =>
    have hc8 : S.2.2.2.1 c 8 = 0 := (h.qmem (e := S.1 1) (by have := h.1.1; omega) (by rw [hq]; exact List.mem_cons_self)).2.1
    by_cases hroom : sRoom S c = true
    · rw [sCome_eq hq hroom]
      split
      · show (if i = c ∧ 8 = 8 then 3 else S.2.2.2.1 i 8) = 2 ↔ _
        by_cases hi : i = c
        · subst hi; simp [hc8]
        · simp [hi]
      · show (if i = c ∧ 8 = 9 then 0 else if i = c ∧ 8 = 8 then 1 else (if (sQ S (S.1 1) ys).2.2.2.1 c 7 = 0 then sPay (sQ S (S.1 1) ys) (S.1 1) c else sQ S (S.1 1) ys).2.2.2.1 i 8) = 2 ↔ _
        by_cases hi : i = c
        · subst hi; simp [hc8]
        · rw [if_neg (by omega), if_neg (by omega)]
          split
          · rw [(sPay_c (sQ S (S.1 1) ys) (S.1 1) c).1 i 8 (by decide) (by decide)]; rfl
          · rfl
    · rw [sCome_no hq (by simpa using hroom)]
theorem cntS_congr {S T : gSt} (h6 : T.1 6 = S.1 6) (h : ∀ i, T.2.2.2.1 i 8 = 2 ↔ S.2.2.2.1 i 8 = 2) : sCnt T 2 = sCnt S 2 := by
  unfold sCnt
  rw [h6]
  exact cntF_congr _ (fun i _ => by simp [h i])
theorem move_cnt {S : gSt} (h : WF S) : sCnt (sMove S).1 2 = sCnt S 2 + (sMove S).2 := by
  unfold sMove
  split
  · rfl
  · split
    · show cntF (fun i => decide ((goOnL (S.1 2) (S.1 0) (S.2.1 2) (S.1 2 + 4) S).1.2.2.2.1 i 8 = 2)) ((goOnL (S.1 2) (S.1 0) (S.2.1 2) (S.1 2 + 4) S).1.1 6) = _
      rw [(goOnL_same _ _ _ _ S).1]
      exact goOnL_cnt _ _ _ _ _ _ h.ne (fun i hi => (h.2.2.2.2.1 i).mp hi)
    · exact cntS_congr (by rw [sGoBack_num S h]) (goBack_st h)
theorem tick_cnt {S : gSt} (h : WF S) : sCnt (sTick S).1 2 = sCnt S 2 + (sMove S).2 := by
  rw [← move_cnt h]
  refine (cntS_congr (S := sCome (sMove S).1) (T := (sTick S).1) rfl (fun i => Iff.rfl)).trans (cntS_congr ?_ (come_st h.move))
  rw [sCome_num]
def sScan (S : gSt) (kk : Nat) : Nat := if S.1 1 = 0 then S.1 2 - 1 - kk else kk
theorem scan_on {f : Nat → Nat} {is : List Nat} {w : Nat} (hpw : is.Pairwise (fun i j => f j < f i)) (hb : ∀ i ∈ is, f i < w + 1) : (∃ i js, is = i :: js ∧ f i = w) ∨ ∀ i ∈ is, f i < w := by
  cases is with
  | nil => exact Or.inr (fun i h => by cases h)
  | cons i is =>
    rw [List.pairwise_cons] at hpw
    have h0 := hb i List.mem_cons_self
    by_cases h : f i = w
    · exact Or.inl ⟨i, is, rfl, h⟩
    · refine Or.inr (fun j hj => ?_)
      rcases List.mem_cons.mp hj with q | q
      · rw [q]; omega
      · have := hpw.1 j q; omega
theorem scan_back {f : Nat → Nat} {is : List Nat} {w : Nat} (hpw : is.Pairwise (fun i j => f i < f j)) (hb : ∀ i ∈ is, w ≤ f i) : (∃ i js, is = i :: js ∧ f i = w) ∨ ∀ i ∈ is, w < f i := by
  cases is with
  | nil => exact Or.inr (fun i h => by cases h)
  | cons i is =>
    rw [List.pairwise_cons] at hpw
    have h0 := hb i List.mem_cons_self
    by_cases h : f i = w
    · exact Or.inl ⟨i, is, rfl, h⟩
    · refine Or.inr (fun j hj => ?_)
      rcases List.mem_cons.mp hj with q | q
      · rw [q]; omega
      · have := hpw.1 j q; omega
/-- what the scan going on holds -/
def OnInv (S T : gSt) (kk lim : Nat) (is : List Nat) : Prop :=
  T.1 = S.1 ∧ T.2.1 = S.2.1 ∧ (goOnL (S.1 2) (S.1 0) (S.2.1 2) (S.1 2 + 4) S).1 = (goOnL (S.1 2) (S.1 0) is lim T).1 ∧
  (∀ i ∈ is, T.2.2.2.1 i 9 = S.2.2.2.1 i 9 ∧ T.2.2.2.1 i 8 = 1 ∧ S.2.2.2.1 i 9 < S.1 2 - kk ∧ S.2.2.2.1 i 9 < lim ∧ i ∈ S.2.1 2) ∧
  (∀ i q, q ≠ 8 → q ≠ 9 → T.2.2.2.1 i q = S.2.2.2.1 i q) ∧ is.Pairwise (fun i j => S.2.2.2.1 j 9 < S.2.2.2.1 i 9) ∧ (lim < S.1 2 ∨ lim = S.1 2 + 4) ∧
  (∀ j, j < S.1 6 → T.2.2.2.1 j 8 = 1 → j ∈ is ∨ (lim ≤ T.2.2.2.1 j 9 ∧ S.1 2 - kk ≤ T.2.2.2.1 j 9 ∧ T.2.2.2.1 j 9 < S.1 2 ∧ j ∈ S.2.1 2)) ∧
  (lim < S.1 2 → ∃ j, j < S.1 6 ∧ T.2.2.2.1 j 8 = 1 ∧ j ∉ is ∧ T.2.2.2.1 j 9 = lim) ∧ (∀ i, T.2.2.2.1 i 8 ≤ 3 ∨ T.2.2.2.1 i 8 = S.2.2.2.1 i 8)
theorem OnInv.start {S : gSt} (h : WF S) : OnInv S S 0 (S.1 2 + 4) (S.2.1 2) := by
  refine ⟨rfl, rfl, rfl, fun i hi => ⟨rfl, ((h.2.2.2.2.1 i).mp hi).2, ?_, ?_, hi⟩, fun _ _ _ _ => rfl, h.2.2.2.1, Or.inr rfl, fun j hj h8 => Or.inl (h.on hj h8), fun q => by omega, fun i => Or.inr rfl⟩
  · exact h.2.2.2.2.2.1 i hi
  · have := h.2.2.2.2.2.1 i hi; omega
theorem OnInv.pass {S T : gSt} {kk lim : Nat} {is : List Nat} (h : OnInv S T kk lim is) (hb : ∀ i ∈ is, S.2.2.2.1 i 9 < S.1 2 - 1 - kk) : OnInv S T (kk + 1) lim is := by
  obtain ⟨a1, a2, a3, a4, a5, a6, a7, a8, a9, a10⟩ := h
  refine ⟨a1, a2, a3, fun i hi => ?_, a5, a6, a7, fun j hj h8 => ?_, a9, a10⟩
  · obtain ⟨b1, b2, b3, b4, b5⟩ := a4 i hi
    have := hb i hi
    exact ⟨b1, b2, by omega, b4, b5⟩
  · rcases a8 j hj h8 with q | ⟨q1, q2, q3, q4⟩
    · exact Or.inl q
    · exact Or.inr ⟨q1, by omega, q3, q4⟩
theorem OnInv.step {S T : gSt} {kk lim i : Nat} {js : List Nat} (hw : WF S) (h : OnInv S T kk lim (i :: js)) (hk : kk < S.1 2) (hi9 : S.2.2.2.1 i 9 = S.1 2 - 1 - kk) : ∃ lim', OnInv S (goStep T i lim) (kk + 1) lim' js := by
  obtain ⟨a1, a2, a3, a4, a5, a6, a7, a8, a9, a10⟩ := h
  rw [List.pairwise_cons] at a6
  obtain ⟨b1, b2, b3, b4, b5⟩ := a4 i List.mem_cons_self
  have hne : ∀ j ∈ js, j ≠ i := fun j hj q => by subst q; exact Nat.lt_irrefl _ (a6.1 j hj)
  have hnm : i ∉ js := fun q => hne i q rfl
  by_cases hv : min (T.2.2.2.1 i 9 + T.2.2.2.1 i 4) (lim - 1) < S.1 2
  · have hgs : goStep T i lim = sC T i 9 (min (T.2.2.2.1 i 9 + T.2.2.2.1 i 4) (lim - 1)) := by unfold goStep; rw [if_pos (by rw [a1]; exact hv)]
    have hG : (goOnL (S.1 2) (S.1 0) (i :: js) lim T) = goOnL (S.1 2) (S.1 0) js (min (T.2.2.2.1 i 9 + T.2.2.2.1 i 4) (lim - 1)) (sC T i 9 (min (T.2.2.2.1 i 9 + T.2.2.2.1 i 4) (lim - 1))) := by rw [goOnL, if_pos hv]
    rw [hgs]
    rw [hG] at a3
    have hge : S.2.2.2.1 i 9 ≤ min (T.2.2.2.1 i 9 + T.2.2.2.1 i 4) (lim - 1) := by omega
    have hlt : min (T.2.2.2.1 i 9 + T.2.2.2.1 i 4) (lim - 1) < lim := by omega
    generalize min (T.2.2.2.1 i 9 + T.2.2.2.1 i 4) (lim - 1) = v at *
    have c : ∀ j, j ≠ i → ∀ q, (sC T i 9 v).2.2.2.1 j q = T.2.2.2.1 j q := fun j hj q => by simp [sC, hj]
    have c9 : (sC T i 9 v).2.2.2.1 i 9 = v := by simp [sC]
    have ck : ∀ j q, q ≠ 9 → (sC T i 9 v).2.2.2.1 j q = T.2.2.2.1 j q := fun j q hq => by simp [sC, hq]
    refine ⟨v, a1, a2, a3, fun j hj => ?_, fun j q h8 h9 => ?_, a6.2, Or.inl hv, fun j hj h8 => ?_, fun _ => ⟨i, hw.mem b5, ?_, hnm, c9⟩, fun j => ?_⟩
    · obtain ⟨d1, d2, d3, d4, d5⟩ := a4 j (List.mem_cons_of_mem _ hj)
      have := a6.1 j hj
      exact ⟨by rw [c j (hne j hj)]; exact d1, by rw [ck j 8 (by decide)]; exact d2, by omega, by omega, d5⟩
    · rw [ck j q h9]; exact a5 j q h8 h9
    · rw [ck j 8 (by decide)] at h8
      by_cases hji : j = i
      · subst hji
        exact Or.inr ⟨by rw [c9]; exact Nat.le_refl _, by rw [c9]; omega, by rw [c9]; exact hv, b5⟩
      · rw [c j hji]
        rcases a8 j hj h8 with q | ⟨q1, q2, q3, q4⟩
        · rcases List.mem_cons.mp q with z | z
          · exact absurd z hji
          · exact Or.inl z
        · exact Or.inr ⟨by omega, by omega, q3, q4⟩
    · rw [ck i 8 (by decide)]; exact b2
    · rw [ck j 8 (by decide)]; exact a10 j
  · have hgs : goStep T i lim = sO (sC T i 8 2) i (nI (S.1 0)) := by unfold goStep; rw [if_neg (by rw [a1]; exact hv), a1]
    have hG : (goOnL (S.1 2) (S.1 0) (i :: js) lim T).1 = (goOnL (S.1 2) (S.1 0) js lim (sO (sC T i 8 2) i (nI (S.1 0)))).1 := by rw [goOnL, if_neg hv]
    rw [hgs]
    rw [hG] at a3
    have c : ∀ j, j ≠ i → ∀ q, (sO (sC T i 8 2) i (nI (S.1 0))).2.2.2.1 j q = T.2.2.2.1 j q := fun j hj q => by simp [sO, sC, hj]
    have c8 : (sO (sC T i 8 2) i (nI (S.1 0))).2.2.2.1 i 8 = 2 := by simp [sO, sC]
    have ck : ∀ j q, q ≠ 8 → (sO (sC T i 8 2) i (nI (S.1 0))).2.2.2.1 j q = T.2.2.2.1 j q := fun j q hq => by simp [sO, sC, hq]
    refine ⟨lim, a1, a2, a3, fun j hj => ?_, fun j q h8 h9 => ?_, a6.2, a7, fun j hj h8 => ?_, fun hl => ?_, fun j => ?_⟩
    · obtain ⟨d1, d2, d3, d4, d5⟩ := a4 j (List.mem_cons_of_mem _ hj)
      have := a6.1 j hj
      exact ⟨by rw [c j (hne j hj)]; exact d1, by rw [c j (hne j hj)]; exact d2, by omega, d4, d5⟩
    · rw [ck j q h8]; exact a5 j q h8 h9
    · by_cases hji : j = i
      · subst hji; rw [c8] at h8; cases h8
      · rw [c j hji] at h8 ⊢
        rcases a8 j hj h8 with q | ⟨q1, q2, q3, q4⟩
        · rcases List.mem_cons.mp q with z | z
          · exact absurd z hji
          · exact Or.inl z
        · exact Or.inr ⟨q1, by omega, q3, q4⟩
    · obtain ⟨j, e1, e2, e3, e4⟩ := a9 hl
      have hji : j ≠ i := fun q => e3 (q ▸ List.mem_cons_self)
      exact ⟨j, e1, by rw [c j hji]; exact e2, fun q => e3 (List.mem_cons_of_mem _ q), by rw [c j hji]; exact e4⟩
    · by_cases hji : j = i
      · subst hji; rw [c8]; exact Or.inl (by decide)
      · rw [c j hji]; exact a10 j
theorem OnInv.ok {S T : gSt} {kk lim : Nat} {is : List Nat} (h : OnInv S T kk lim is) (hw : WF S) {i : Nat} (hi : i < S.1 6) : sCartOk T i := by
  have h0 := hw.2.1 i hi
  refine h0.of (fun q h1 h7 => h.2.2.2.2.1 i q (by omega) (by omega)) ?_
  rcases h.2.2.2.2.2.2.2.2.2 i with q | q
  · exact q
  · rw [q]; exact h0.2.2.2.2.2.2.2
/-- all of those on the bridge back by one; one at its start leaves -/
def backA (is : List Nat) (S : gSt) : gSt := match is with
  | [] => S
  | l :: rs => if S.2.2.2.1 l 9 = 0 then backL rs (sLeave S l rs.reverse) else backL (l :: rs) S
theorem backA_pos {is : List Nat} {S : gSt} (h : ∀ i ∈ is, 0 < S.2.2.2.1 i 9) : backA is S = backL is S := by
  cases is with
  | nil => rfl
  | cons i is =>
    unfold backA
    simp only []
    rw [if_neg (by have := h i List.mem_cons_self; omega)]
def BkInv (S T : gSt) (kk : Nat) (is : List Nat) : Prop :=
  T.1 = S.1 ∧ sGoBack S = backA is T ∧ (∀ i ∈ is, T.2.2.2.1 i 9 = S.2.2.2.1 i 9 ∧ T.2.2.2.1 i 8 = 1 ∧ kk ≤ S.2.2.2.1 i 9 ∧ i ∈ S.2.1 2) ∧
  (∀ i q, q ≠ 8 → q ≠ 9 → T.2.2.2.1 i q = S.2.2.2.1 i q) ∧ is.Pairwise (fun i j => S.2.2.2.1 i 9 < S.2.2.2.1 j 9) ∧
  (∀ j, j < S.1 6 → T.2.2.2.1 j 8 = 1 → j ∈ is ∨ (T.2.2.2.1 j 9 + 1 < kk ∧ T.2.2.2.1 j 9 < S.1 2 ∧ j ∈ S.2.1 2)) ∧ (kk = 0 → T = S) ∧ (∀ i, T.2.2.2.1 i 8 ≤ 3 ∨ T.2.2.2.1 i 8 = S.2.2.2.1 i 8) ∧ (∀ e, e < 2 → (T.2.1 e).length + is.length ≤ 16)
theorem BkInv.start {S : gSt} (h : WF S) : BkInv S S 0 (S.2.1 2).reverse := by
  refine ⟨rfl, rfl, fun i hi => ⟨rfl, ((h.2.2.2.2.1 i).mp (List.mem_reverse.mp hi)).2, Nat.zero_le _, List.mem_reverse.mp hi⟩, fun _ _ _ _ => rfl, List.pairwise_reverse.mpr h.2.2.2.1, fun j hj h8 => Or.inl (List.mem_reverse.mpr (h.on hj h8)), fun _ => rfl, fun i => Or.inr rfl, fun e he => ?_⟩
  have h2 := nodup_le (S.1 6) (S.2.1 e ++ S.2.1 2) (List.nodup_append.mpr ⟨(h.2.2.1 e he).1, h.ne, fun a ha c hc q => by
    subst q
    have h3 := (h.qmem he ha).2.1
    have h4 := ((h.2.2.2.2.1 a).mp hc).2
    omega⟩) (fun x hx => by
    rcases List.mem_append.mp hx with q | q
    · exact (h.qmem he q).1
    · exact h.mem q)
  have h3 := h.1.2.2.2.2.2
  rw [List.length_append] at h2
  rw [List.length_reverse]
  omega
theorem BkInv.pass' {S T : gSt} {kk : Nat} {is : List Nat} (h : BkInv S T kk is) (hb : ∀ i ∈ is, kk < S.2.2.2.1 i 9) : BkInv S T (kk + 1) is := by
  obtain ⟨a1, a2, a3, a4, a5, a6, a7, a8, a9⟩ := h
  refine ⟨a1, a2, fun i hi => ?_, a4, a5, fun j hj h8 => ?_, fun q => by omega, a8, a9⟩
  · obtain ⟨b1, b2, b3, b4⟩ := a3 i hi
    exact ⟨b1, b2, hb i hi, b4⟩
  · rcases a6 j hj h8 with q | ⟨q1, q2, q3⟩
    · exact Or.inl q
    · exact Or.inr ⟨by omega, q2, q3⟩
def bkS (T : gSt) (i : Nat) (js : List Nat) : gSt := if T.2.2.2.1 i 9 = 0 then sLeave T i js.reverse else sC T i 9 (T.2.2.2.1 i 9 - 1)
theorem BkInv.step {S T : gSt} {kk i : Nat} {js : List Nat} (hw : WF S) (h : BkInv S T kk (i :: js)) (hi9 : S.2.2.2.1 i 9 = kk) : BkInv S (bkS T i js) (kk + 1) js := by
  obtain ⟨a1, a2, a3, a4, a5, a6, a7, a8, a9⟩ := h
  rw [List.pairwise_cons] at a5
  obtain ⟨b1, b2, b3, b4⟩ := a3 i List.mem_cons_self
  have hne : ∀ j ∈ js, j ≠ i := fun j hj q => by subst q; exact Nat.lt_irrefl _ (a5.1 j hj)
  have hpos : ∀ j ∈ js, 0 < S.2.2.2.1 j 9 := fun j hj => by have := a5.1 j hj; omega
  unfold bkS
  split
  · rename_i hz
    have c : ∀ j, j ≠ i → ∀ q, (sLeave T i js.reverse).2.2.2.1 j q = T.2.2.2.1 j q := fun j hj q => by rw [sLeave_eq]; simp [sQ, sC, hj]
    have c8 : (sLeave T i js.reverse).2.2.2.1 i 8 = 0 := by rw [sLeave_eq]; simp [sQ, sC]
    have ck : ∀ j q, q ≠ 8 → (sLeave T i js.reverse).2.2.2.1 j q = T.2.2.2.1 j q := fun j q hq => by rw [sLeave_eq]; simp [sQ, sC, hq]
    refine ⟨by rw [sLeave_eq]; exact a1, ?_, fun j hj => ?_, fun j q h8 h9 => ?_, a5.2, fun j hj h8 => ?_, fun q => by omega, fun j => ?_, fun e he => ?_⟩
    · rw [a2]
      show (if T.2.2.2.1 i 9 = 0 then _ else _) = _
      rw [if_pos hz, backA_pos (fun j hj => by rw [c j (hne j hj), (a3 j (List.mem_cons_of_mem _ hj)).1]; exact hpos j hj)]
    · obtain ⟨d1, d2, d3, d4⟩ := a3 j (List.mem_cons_of_mem _ hj)
      have := a5.1 j hj
      exact ⟨by rw [c j (hne j hj)]; exact d1, by rw [c j (hne j hj)]; exact d2, by omega, d4⟩
    · rw [ck j q h8]; exact a4 j q h8 h9
    · by_cases hji : j = i
      · subst hji; rw [c8] at h8; cases h8
      · rw [c j hji] at h8 ⊢
        rcases a6 j hj h8 with q | ⟨q1, q2, q3⟩
        · rcases List.mem_cons.mp q with z | z
          · exact absurd z hji
          · exact Or.inl z
        · exact Or.inr ⟨by omega, q2, q3⟩
    · by_cases hji : j = i
      · subst hji; rw [c8]; exact Or.inl (by decide)
      · rw [c j hji]; exact a8 j
    · have h16 := a9 e he
      rw [List.length_cons] at h16
      rw [sLeave_eq]
      show (if e = 2 then js.reverse else if e = T.2.2.2.1 i 1 then i :: T.2.1 (T.2.2.2.1 i 1) else T.2.1 e).length + js.length ≤ 16
      rw [if_neg (by omega)]
      split
      · rename_i q; rw [List.length_cons, ← q]; omega
      · omega
  · rename_i hz
    have c : ∀ j, j ≠ i → ∀ q, (sC T i 9 (T.2.2.2.1 i 9 - 1)).2.2.2.1 j q = T.2.2.2.1 j q := fun j hj q => by simp [sC, hj]
    have c9 : (sC T i 9 (T.2.2.2.1 i 9 - 1)).2.2.2.1 i 9 = T.2.2.2.1 i 9 - 1 := by simp [sC]
    have ck : ∀ j q, q ≠ 9 → (sC T i 9 (T.2.2.2.1 i 9 - 1)).2.2.2.1 j q = T.2.2.2.1 j q := fun j q hq => by simp [sC, hq]
    have hpl := hw.2.2.2.2.2.1 i b4
    refine ⟨a1, ?_, fun j hj => ?_, fun j q h8 h9 => ?_, a5.2, fun j hj h8 => ?_, fun q => by omega, fun j => ?_, fun e he => ?_⟩
    · rw [a2]
      show (if T.2.2.2.1 i 9 = 0 then _ else backL (i :: js) T) = _
      rw [if_neg hz, backA_pos (fun j hj => by rw [c j (hne j hj), (a3 j (List.mem_cons_of_mem _ hj)).1]; exact hpos j hj)]
      rfl
    · obtain ⟨d1, d2, d3, d4⟩ := a3 j (List.mem_cons_of_mem _ hj)
      have := a5.1 j hj
      exact ⟨by rw [c j (hne j hj)]; exact d1, by rw [c j (hne j hj)]; exact d2, by omega, d4⟩
    · rw [ck j q h9]; exact a4 j q h8 h9
    · rw [ck j 8 (by decide)] at h8
      by_cases hji : j = i
      · subst hji
        rw [c9]
        exact Or.inr ⟨by omega, by omega, b4⟩
      · rw [c j hji]
        rcases a6 j hj h8 with q | ⟨q1, q2, q3⟩
        · rcases List.mem_cons.mp q with z | z
          · exact absurd z hji
          · exact Or.inl z
        · exact Or.inr ⟨by omega, q2, q3⟩
    · rw [ck j 8 (by decide)]; exact a8 j
    · have h16 := a9 e he
      rw [List.length_cons] at h16
      show (T.2.1 e).length + js.length ≤ 16
      omega
theorem BkInv.ok {S T : gSt} {kk : Nat} {is : List Nat} (h : BkInv S T kk is) (hw : WF S) {i : Nat} (hi : i < S.1 6) : sCartOk T i := by
  have h0 := hw.2.1 i hi
  refine h0.of (fun q h1 h7 => h.2.2.2.1 i q (by omega) (by omega)) ?_
  rcases h.2.2.2.2.2.2.2.1 i with q | q
  · exact q
  · rw [q]; exact h0.2.2.2.2.2.2.2
theorem AbsM.bkOf {V : gMem} {k : Nat} {T : gSt} {i : Nat} {js : List Nat} (h : AbsM V k (bkStep T i)) : AbsM V k (bkS T i js) := by
  unfold bkS
  unfold bkStep at h
  split
  · rename_i hz
    rw [if_pos hz] at h
    rw [sLeave_eq]
    exact h.congr rfl (fun e he => if_neg (by omega)) rfl
  · rename_i hz
    rw [if_neg hz] at h
    exact h
theorem move_on {V : gMem} {k : Nat} {S T : gSt} (hgo : ∀ i ∈ S.2.1 2, S.2.2.2.1 i 1 = S.1 1) (h : AbsM V k T) (hq : T.2.1 = S.2.1) (hG : (goOnL (S.1 2) (S.1 0) (S.2.1 2) (S.1 2 + 4) S).1 = T) : AbsM V k (sMove S).1 := by
  unfold sMove
  split
  · rename_i hn
    rw [hn] at hG
    rw [show T = S from hG.symm] at h
    exact h
  · rename_i i js hn
    rw [if_pos (hgo i (by rw [hn]; exact List.mem_cons_self))]
    unfold sGoOn
    rw [hG]
    exact h.congr rfl (fun e he => if_neg (by omega)) rfl
theorem move_back {S : gSt} (hw : WF S) (hgo : ¬ ∀ i ∈ S.2.1 2, S.2.2.2.1 i 1 = S.1 1) : sMove S = (sGoBack S, 0) ∧ ∀ i ∈ S.2.1 2, S.2.2.2.1 i 1 ≠ S.1 1 := by
  have hall : ∀ i ∈ S.2.1 2, S.2.2.2.1 i 1 ≠ S.1 1 := fun i hi q => hgo (fun j hj => (hw.2.2.2.2.2.2.1 j hj i hi).trans q)
  refine ⟨?_, hall⟩
  unfold sMove
  split
  · rename_i hn
    exact absurd (fun i hi => by rw [hn] at hi; cases hi) hgo
  · rename_i i js hn
    rw [if_neg (hall i (by rw [hn]; exact List.mem_cons_self))]

abbrev rmX7_pass : Room := { frames := 4, cells := 0, slots := 0, locals := 110 }
set_option maxRecDepth 20000 in
theorem k_pass {l : Launch} {B : gB} (hI : gI B) (V : gMem) (k : Nat) (S : gSt) (hk : k < 2) (hA : AbsM V k S) (hw : WF S) : gM l B yX7_pass cX7_pass 4 (some .int) rmX7_pass [.ref (B.2.1 23 k 0)] V (fun v V' => v = some (.int (nI (sTick S).2)) ∧ stmod V V' k ∧ AbsM V' k (sTick S).1) := by
  refine gM_of (own := RX7) (L := [(0, .ref (B.2.1 23 k 0))]) (by decide +kernel) rfl hI (Nat.le_of_ble_eq_true rfl) rfl ?_
  intro Z hnL hR X F
  have hN : S.1 6 ≤ 16 := hw.1.2.2.2.2.2
  have hpl := hw.1.2.1
  have hdir := hw.1.1
  refine g_aload_n X 0 rfl dX7_pass_0 ?_
  refine g_iconst X 2 (by decide) dX7_pass_1 ?_
  refine g_callV X hR (rest := []) mX7_how lX7_87 (k_how hI V k S 2 (by first | assumption | decide | omega) hA (by first | assumption | decide | omega) (fun i hi => (hw.2.1 i hi).2.2.2.2.2.2.2) (by first | assumption | decide | omega)) rfl rfl (Nat.le_of_ble_eq_true rfl) (gP_23 (by first | assumption | decide | omega)) rfl rfl rfl ⟨Nat.le_of_ble_eq_true rfl, Nat.le_of_ble_eq_true rfl, Nat.le_of_ble_eq_true rfl, Nat.le_of_ble_eq_true rfl⟩ dX7_pass_2 (fun r1 V2 hz_3 => ?_)
  refine gG_ret hz_3.1 hz_3.2 ?_
  refine gG_st [.int (nI (sCnt S 2))] rfl ?_
  refine g_istore_n X rfl dX7_pass_5 [(1, .int (nI (sCnt S 2))), (0, .ref (B.2.1 23 k 0))] rfl (gnl_lt hnL (by decide)) ?_
  refine g_iconst X 0 (by decide) dX7_pass_6 ?_
  refine g_istore_n X rfl dX7_pass_7 [(2, .int 0), (1, .int (nI (sCnt S 2))), (0, .ref (B.2.1 23 k 0))] rfl (gnl_lt hnL (by decide)) ?_
  refine gG_L [2, 1, 0] (L' := [(0, .ref (B.2.1 23 k 0)), (1, .int (nI (sCnt S 2))), (2, .int 0)]) rfl ?_
  have tail : ∀ V1 : gMem, AbsM V1 k (sMove S).1 → stmod V V1 k → gG Z B (0, 0) V1 63 [(0, .ref (B.2.1 23 k 0)), (1, .int (nI (sCnt S 2))), (2, .int (nI (S.1 2)))] [] := by
    intro V1 hT hm1
    refine g_aload_n X 0 rfl dX7_pass_63 ?_
    refine g_callV X hR (rest := []) mX7_comeOn lX7_93 (k_mcomeOn hI V1 k (sMove S).1 (by first | assumption | decide | omega) hT hw.move) rfl rfl (Nat.le_of_ble_eq_true rfl) (gP_23 (by first | assumption | decide | omega)) rfl rfl rfl ⟨Nat.le_of_ble_eq_true rfl, Nat.le_of_ble_eq_true rfl, Nat.le_of_ble_eq_true rfl, Nat.le_of_ble_eq_true rfl⟩ dX7_pass_64 (fun r4 V5 hz_6 => ?_)
    refine gG_rv hz_6.1 ?_
    obtain ⟨-, hmV5, haV5⟩ := hz_6
    refine gG_st [] rfl ?_
    have hmm := hm1.trans hmV5
    obtain ⟨S2, eS2⟩ : ∃ y, y = sCome (sMove S).1 := ⟨_, rfl⟩
    rw [← eS2] at haV5
    have hw2 : WF S2 := by rw [eS2]; exact hw.move.come
    refine g_aload_n X 0 rfl dX7_pass_67 ?_
    refine g_dup X rfl dX7_pass_68 ?_
    refine gg_X7_tick X (gP_23 (by first | assumption | decide | omega)) fX7_34 dX7_pass_69 ?_
    refine gG_top (nI (S2.1 0)) (haV5.1.1) ?_
    refine g_iconst X 1 (by decide) dX7_pass_72 ?_
    refine g_iadd X dX7_pass_73 ?_
    refine gG_top (nI ((S2.1 0) + 1)) (nI_1 _) ?_
    refine gp_X7_tick X (gP_23 (by first | assumption | decide | omega)) fX7_34 dX7_pass_74 ?_
    refine gG_nm (fun V7 hV7 => ?_)
    have hT3 : AbsM V7 k (sN S2 0 (S2.1 0 + 1)) := by rw [hV7]; exact haV5.setN 0 _ (by decide)
    have hw3 := hw2.tick1
    refine g_aload_n X 0 rfl dX7_pass_77 ?_
    refine g_iconst X 2 (by decide) dX7_pass_78 ?_
    refine g_callV X hR (rest := []) mX7_how lX7_87 (k_how hI V7 k (sN S2 0 (S2.1 0 + 1)) 2 (by first | assumption | decide | omega) hT3 hw3.1.2.2.2.2.2 (fun i hi => (hw3.2.1 i hi).2.2.2.2.2.2.2) (by first | assumption | decide | omega)) rfl rfl (Nat.le_of_ble_eq_true rfl) (gP_23 (by first | assumption | decide | omega)) rfl rfl rfl ⟨Nat.le_of_ble_eq_true rfl, Nat.le_of_ble_eq_true rfl, Nat.le_of_ble_eq_true rfl, Nat.le_of_ble_eq_true rfl⟩ dX7_pass_79 (fun r8 V9 hz_10 => ?_)
    refine gG_ret hz_10.1 hz_10.2 ?_
    refine gG_st [.int (nI (sCnt (sN S2 0 (S2.1 0 + 1)) 2))] rfl ?_
    refine gG_top (nI (sCnt S 2 + (sMove S).2)) (by rw [eS2]; exact congrArg nI (tick_cnt hw)) ?_
    refine g_iload_n X 1 rfl dX7_pass_82 ?_
    refine g_isub X dX7_pass_83 ?_
    refine gG_top (nI (sMove S).2) (by rw [pk_sub (Nat.le_add_right _ _), Nat.add_sub_cancel_left]) ?_
    refine g_iret X F ?_ rfl dX7_pass_84
    refine ⟨rfl, ?_, ?_⟩
    · rw [hV7]; exact hmm.up (by decide) (by decide)
    · show AbsM _ k (sN (sCome (sMove S).1) 0 ((sCome (sMove S).1).1 0 + 1))
      rw [← eS2]; exact hT3
  by_cases hgo : ∀ i ∈ S.2.1 2, S.2.2.2.1 i 1 = S.1 1
  · have loopOn : ∀ (f : Nat) (kk : Nat) (is : List Nat) (lim : Nat) (V1 : gMem) (T : gSt), kk + f = S.1 2 → OnInv S T kk lim is → AbsM V1 k T → stmod V V1 k → gG Z B (0, 0) V1 8 [(0, .ref (B.2.1 23 k 0)), (1, .int (nI (sCnt S 2))), (2, .int (nI kk))] [] := by
      intro f
      induction f with
      | zero =>
        intro kk is lim V1 T hf hO hT hm1
        have hnil : is = [] := by
          cases is with
          | nil => rfl
          | cons i is => have := (hO.2.2.2.1 i List.mem_cons_self).2.2.1; omega
        refine g_iload_n X 2 rfl dX7_pass_8 ?_
        refine g_aload_n X 0 rfl dX7_pass_9 ?_
        refine gg_X7_this_0 X (gP_23 (by first | assumption | decide | omega)) fX7_3 dX7_pass_10 ?_
        refine gg_X8_places X ⟨by decide, by decide⟩ fX7_59 dX7_pass_13 ?_
        refine gG_top (nI (S.1 2)) ((hT.2.2.2.2.2.1).trans (by rw [hO.1])) ?_
        refine g_icmp_ge X 63 (by decide) dX7_pass_16 (fun c11 => ?_) (fun c11 => ?_)
        · refine gG_Le [(0, .ref (B.2.1 23 k 0)), (1, .int (nI (sCnt S 2))), (2, .int (nI (S.1 2)))] (by rw [show kk = S.1 2 by omega]) ?_
          exact tail V1 (move_on hgo hT hO.2.1 (by rw [hO.2.2.1, hnil]; rfl)) hm1
        · first | exact absurd (nI_le (by omega) (by omega)) c11 | exact absurd c11 (nI_le (by omega) (by omega))
      | succ f ih =>
        intro kk is lim V1 T hf hO hT hm1
        refine g_iload_n X 2 rfl dX7_pass_8 ?_
        refine g_aload_n X 0 rfl dX7_pass_9 ?_
        refine gg_X7_this_0 X (gP_23 (by first | assumption | decide | omega)) fX7_3 dX7_pass_10 ?_
        refine gg_X8_places X ⟨by decide, by decide⟩ fX7_59 dX7_pass_13 ?_
        refine gG_top (nI (S.1 2)) ((hT.2.2.2.2.2.1).trans (by rw [hO.1])) ?_
        refine g_icmp_ge X 63 (by decide) dX7_pass_16 (fun c12 => ?_) (fun c12 => ?_)
        · first | exact absurd (nI_ge (by omega) (by omega)) c12 | exact absurd c12 (nI_ge (by omega) (by omega))
        · refine g_aload_n X 0 rfl dX7_pass_19 ?_
          refine gg_X7_at X (gP_23 (by first | assumption | decide | omega)) fX7_19 dX7_pass_20 ?_
          refine g_aload_n X 0 rfl dX7_pass_23 ?_
          refine gg_X7_open X (gP_23 (by first | assumption | decide | omega)) fX7_38 dX7_pass_24 ?_
          refine gG_top (nI (S.1 1)) ((hT.1.2.1).trans (by rw [hO.1])) ?_
          have hsc : sScan S kk < S.1 2 := by unfold sScan; split <;> omega
          have rest : gG Z B (0, 0) V1 45 [(0, .ref (B.2.1 23 k 0)), (1, .int (nI (sCnt S 2))), (2, .int (nI kk))] [.int (nI (sScan S kk)), .ref (B.2.1 25 k 0)] := by
            refine g_ialdN X (sScan S kk) rfl (by omega) (by decide) (gP_25 (by first | assumption | decide | omega)) rfl dX7_pass_45 ?_
            have hb : ∀ i ∈ is, S.2.2.2.1 i 9 < S.1 2 - 1 - kk + 1 := fun i hi => by have := (hO.2.2.2.1 i hi).2.2.1; omega
            rcases scan_on hO.2.2.2.2.2.1 hb with ⟨i, js, rfl, hi9⟩ | hlow
            · obtain ⟨b1, b2, b3, b4, b5⟩ := hO.2.2.2.1 i List.mem_cons_self
              have hi := hw.mem b5
              have hie : T.2.2.2.1 i 1 = S.1 1 := by rw [hO.2.2.2.2.1 i 1 (by decide) (by decide)]; exact hgo i b5
              have hsp : sPos T i = sScan S kk := by rw [sPos_of hie, hO.1, b1, hi9]; unfold sScan; split <;> omega
              have hat := hT.2.2.1.1 i (by rw [hO.1]; exact hi) b2
              rw [hsp] at hat
              have hpw := List.pairwise_cons.mp hO.2.2.2.2.2.1
              refine gG_top (nI i) (hat) ?_
              refine g_istore_n X rfl dX7_pass_46 [(3, .int (nI i)), (0, .ref (B.2.1 23 k 0)), (1, .int (nI (sCnt S 2))), (2, .int (nI kk))] rfl (gnl_lt hnL (by decide)) ?_
              refine g_iload_n X 0 rfl dX7_pass_47 ?_
              refine g_iconst X (-1) (by decide) dX7_pass_48 ?_
              refine g_icmp_eq X 57 (by decide) dX7_pass_49 (fun c13 => ?_) (fun c13 => ?_)
              · first | exact absurd (nI_ne_m1 (by omega)) c13 | exact absurd c13 (nI_ne_m1 (by omega))
              · refine g_aload_n X 1 rfl dX7_pass_52 ?_
                refine g_iload_n X 0 rfl dX7_pass_53 ?_
                refine g_callV X hR (rest := []) mX7_move lX7_90 (k_moveOn hI V1 k T i lim (by first | assumption | decide | omega) hT (by unfold sNumOk; rw [hO.1]; exact hw.1) (hO.ok hw hi) (by rw [hO.1]; exact hi) b2 (by rw [hie, hO.1]) (by rw [b1]; exact b4) (by rw [hO.1]; exact hO.2.2.2.2.2.2.1) (fun j hj h8 => by
                    rw [hO.1] at hj
                    rcases hO.2.2.2.2.2.2.2.1 j hj h8 with q | ⟨q1, q2, q3, q4⟩
                    · obtain ⟨d1, d2, d3, d4, d5⟩ := hO.2.2.2.1 j q
                      exact ⟨by rw [hO.2.2.2.2.1 j 1 (by decide) (by decide), hO.1]; exact hgo j d5, by rw [hO.1, d1]; omega⟩
                    · exact ⟨by rw [hO.2.2.2.2.1 j 1 (by decide) (by decide), hO.1]; exact hgo j q4, by rw [hO.1]; exact q3⟩) (fun j hj h8 hji => by
                    rw [hO.1] at hj
                    rcases hO.2.2.2.2.2.2.2.1 j hj h8 with q | ⟨q1, q2, q3, q4⟩
                    · rcases List.mem_cons.mp q with z | z
                      · exact absurd z hji
                      · rw [(hO.2.2.2.1 j q).1, b1]; exact Or.inl (hpw.1 j z)
                    · exact Or.inr q1) (fun hl => by
                    rw [hO.1] at hl ⊢
                    obtain ⟨j, e1, e2, e3, e4⟩ := hO.2.2.2.2.2.2.2.2.1 hl
                    exact ⟨j, e1, e2, fun q => e3 (q ▸ List.mem_cons_self), e4⟩)) rfl rfl (Nat.le_of_ble_eq_true rfl) (gP_23 (by first | assumption | decide | omega)) rfl rfl rfl ⟨Nat.le_of_ble_eq_true rfl, Nat.le_of_ble_eq_true rfl, Nat.le_of_ble_eq_true rfl, Nat.le_of_ble_eq_true rfl⟩ dX7_pass_54 (fun r14 V15 hz_16 => ?_)
                refine gG_rv hz_16.1 ?_
                obtain ⟨-, hmV15, haV15⟩ := hz_16
                refine gG_st [] rfl ?_
                refine g_iinc X 3 rfl (nI (kk + 1)) (iinc_1 _) dX7_pass_57 [(2, .int (nI (kk + 1))), (3, .int (nI i)), (0, .ref (B.2.1 23 k 0)), (1, .int (nI (sCnt S 2)))] rfl (gnl_lt hnL (by decide)) ?_
                refine g_goto X 8 (by decide) dX7_pass_60 ?_
                refine gG_L [2, 3, 0] (L' := [(0, .ref (B.2.1 23 k 0)), (1, .int (nI (sCnt S 2))), (2, .int (nI (kk + 1)))]) rfl ?_
                obtain ⟨lim2, hO2⟩ := hO.step hw (by omega) hi9
                refine ih (kk + 1) js lim2 V15 (goStep T i lim) (by omega) hO2 haV15 (hm1.trans hmV15)
            · have hat := hT.2.2.1.2 (sScan S kk) (by omega) (fun j hj h8 => by
                rw [hO.1] at hj
                rcases hO.2.2.2.2.2.2.2.1 j hj h8 with q | ⟨q1, q2, q3, q4⟩
                · have h1 := hlow j q
                  obtain ⟨d1, d2, d3, d4, d5⟩ := hO.2.2.2.1 j q
                  rw [sPos_of ((hO.2.2.2.2.1 j 1 (by decide) (by decide)).trans (hgo j d5)), hO.1, d1]
                  unfold sScan
                  split <;> omega
                · rw [sPos_of ((hO.2.2.2.2.1 j 1 (by decide) (by decide)).trans (hgo j q4)), hO.1]
                  unfold sScan
                  split <;> omega)
              refine gG_top ((-1)) (hat) ?_
              refine g_istore_n X rfl dX7_pass_46 [(3, .int ((-1))), (0, .ref (B.2.1 23 k 0)), (1, .int (nI (sCnt S 2))), (2, .int (nI kk))] rfl (gnl_lt hnL (by decide)) ?_
              refine g_iload_n X 0 rfl dX7_pass_47 ?_
              refine g_iconst X (-1) (by decide) dX7_pass_48 ?_
              refine g_icmp_eq X 57 (by decide) dX7_pass_49 (fun c17 => ?_) (fun c17 => ?_)
              · refine g_iinc X 3 rfl (nI (kk + 1)) (iinc_1 _) dX7_pass_57 [(2, .int (nI (kk + 1))), (3, .int ((-1))), (0, .ref (B.2.1 23 k 0)), (1, .int (nI (sCnt S 2)))] rfl (gnl_lt hnL (by decide)) ?_
                refine g_goto X 8 (by decide) dX7_pass_60 ?_
                refine gG_L [2, 3, 0] (L' := [(0, .ref (B.2.1 23 k 0)), (1, .int (nI (sCnt S 2))), (2, .int (nI (kk + 1)))]) rfl ?_
                refine ih (kk + 1) is lim V1 T (by omega) (hO.pass hlow) hT hm1
              ·  exact absurd c17 (by decide)
          by_cases hd0 : S.1 1 = 0
          · refine gG_top 0 (by rw [hd0]; rfl) ?_
            refine g_if_ne X 44 (by decide) dX7_pass_27 (fun c18 => ?_) (fun c18 => ?_)
            ·  exact absurd c18 (by decide)
            · refine g_aload_n X 0 rfl dX7_pass_30 ?_
              refine gg_X7_this_0 X (gP_23 (by first | assumption | decide | omega)) fX7_3 dX7_pass_31 ?_
              refine gg_X8_places X ⟨by decide, by decide⟩ fX7_59 dX7_pass_34 ?_
              refine gG_top (nI (S.1 2)) ((hT.2.2.2.2.2.1).trans (by rw [hO.1])) ?_
              refine g_iconst X 1 (by decide) dX7_pass_37 ?_
              refine g_isub X dX7_pass_38 ?_
              refine g_iload_n X 2 rfl dX7_pass_39 ?_
              refine g_isub X dX7_pass_40 ?_
              refine g_goto X 45 (by decide) dX7_pass_41 ?_
              refine gG_top (nI (sScan S kk)) (by unfold sScan; rw [if_pos hd0, nI_dec (by omega), pk_sub (by omega)]) ?_
              exact rest
          · skip
            refine g_if_ne X 44 (by decide) dX7_pass_27 (fun c19 => ?_) (fun c19 => ?_)
            · refine g_iload_n X 2 rfl dX7_pass_44 ?_
              refine gG_top (nI (sScan S kk)) (by unfold sScan; rw [if_neg hd0]) ?_
              exact rest
            · first | exact absurd (nI_ne0 (by omega) (by omega)) c19 | exact absurd c19 (nI_ne0 (by omega) (by omega))
    exact loopOn (S.1 2) 0 (S.2.1 2) (S.1 2 + 4) V S (by omega) (OnInv.start hw) hA stmod.rf
  · obtain ⟨hmv, hgb⟩ := move_back hw hgo
    have loopBack : ∀ (f : Nat) (kk : Nat) (is : List Nat) (V1 : gMem) (T : gSt), kk + f = S.1 2 → BkInv S T kk is → AbsM V1 k T → stmod V V1 k → gG Z B (0, 0) V1 8 [(0, .ref (B.2.1 23 k 0)), (1, .int (nI (sCnt S 2))), (2, .int (nI kk))] [] := by
      intro f
      induction f with
      | zero =>
        intro kk is V1 T hf hO hT hm1
        have hnil : is = [] := by
          cases is with
          | nil => rfl
          | cons i is => have h1 := (hO.2.2.1 i List.mem_cons_self).2.2; have h2 := hw.2.2.2.2.2.1 i h1.2; omega
        refine g_iload_n X 2 rfl dX7_pass_8 ?_
        refine g_aload_n X 0 rfl dX7_pass_9 ?_
        refine gg_X7_this_0 X (gP_23 (by first | assumption | decide | omega)) fX7_3 dX7_pass_10 ?_
        refine gg_X8_places X ⟨by decide, by decide⟩ fX7_59 dX7_pass_13 ?_
        refine gG_top (nI (S.1 2)) ((hT.2.2.2.2.2.1).trans (by rw [hO.1])) ?_
        refine g_icmp_ge X 63 (by decide) dX7_pass_16 (fun c20 => ?_) (fun c20 => ?_)
        · refine gG_Le [(0, .ref (B.2.1 23 k 0)), (1, .int (nI (sCnt S 2))), (2, .int (nI (S.1 2)))] (by rw [show kk = S.1 2 by omega]) ?_
          exact tail V1 (by rw [hmv]; show AbsM V1 k (sGoBack S); rw [hO.2.1, hnil]; exact hT) hm1
        · first | exact absurd (nI_le (by omega) (by omega)) c20 | exact absurd c20 (nI_le (by omega) (by omega))
      | succ f ih =>
        intro kk is V1 T hf hO hT hm1
        refine g_iload_n X 2 rfl dX7_pass_8 ?_
        refine g_aload_n X 0 rfl dX7_pass_9 ?_
        refine gg_X7_this_0 X (gP_23 (by first | assumption | decide | omega)) fX7_3 dX7_pass_10 ?_
        refine gg_X8_places X ⟨by decide, by decide⟩ fX7_59 dX7_pass_13 ?_
        refine gG_top (nI (S.1 2)) ((hT.2.2.2.2.2.1).trans (by rw [hO.1])) ?_
        refine g_icmp_ge X 63 (by decide) dX7_pass_16 (fun c21 => ?_) (fun c21 => ?_)
        · first | exact absurd (nI_ge (by omega) (by omega)) c21 | exact absurd c21 (nI_ge (by omega) (by omega))
        · refine g_aload_n X 0 rfl dX7_pass_19 ?_
          refine gg_X7_at X (gP_23 (by first | assumption | decide | omega)) fX7_19 dX7_pass_20 ?_
          refine g_aload_n X 0 rfl dX7_pass_23 ?_
          refine gg_X7_open X (gP_23 (by first | assumption | decide | omega)) fX7_38 dX7_pass_24 ?_
          refine gG_top (nI (S.1 1)) ((hT.1.2.1).trans (by rw [hO.1])) ?_
          have hsc : sScan S kk < S.1 2 := by unfold sScan; split <;> omega
          have rest : gG Z B (0, 0) V1 45 [(0, .ref (B.2.1 23 k 0)), (1, .int (nI (sCnt S 2))), (2, .int (nI kk))] [.int (nI (sScan S kk)), .ref (B.2.1 25 k 0)] := by
            refine g_ialdN X (sScan S kk) rfl (by omega) (by decide) (gP_25 (by first | assumption | decide | omega)) rfl dX7_pass_45 ?_
            rcases scan_back hO.2.2.2.2.1 (fun i hi => (hO.2.2.1 i hi).2.2.1) with ⟨i, js, rfl, hi9⟩ | hlow
            · obtain ⟨b1, b2, b3, b4⟩ := hO.2.2.1 i List.mem_cons_self
              have hi := hw.mem b4
              have hie : T.2.2.2.1 i 1 = S.2.2.2.1 i 1 := hO.2.2.2.1 i 1 (by decide) (by decide)
              have hie2 := hgb i b4
              have hie3 := (hw.2.1 i hi).1
              have hsp : sPos T i = sScan S kk := by
                rw [sPos_of hie, hO.1, b1, hi9]; unfold sScan
                split <;> split <;> omega
              have hat := hT.2.2.1.1 i (by rw [hO.1]; exact hi) b2
              rw [hsp] at hat
              have hpw := List.pairwise_cons.mp hO.2.2.2.2.1
              refine gG_top (nI i) (hat) ?_
              refine g_istore_n X rfl dX7_pass_46 [(3, .int (nI i)), (0, .ref (B.2.1 23 k 0)), (1, .int (nI (sCnt S 2))), (2, .int (nI kk))] rfl (gnl_lt hnL (by decide)) ?_
              refine g_iload_n X 0 rfl dX7_pass_47 ?_
              refine g_iconst X (-1) (by decide) dX7_pass_48 ?_
              refine g_icmp_eq X 57 (by decide) dX7_pass_49 (fun c22 => ?_) (fun c22 => ?_)
              · first | exact absurd (nI_ne_m1 (by omega)) c22 | exact absurd c22 (nI_ne_m1 (by omega))
              · refine g_aload_n X 1 rfl dX7_pass_52 ?_
                refine g_iload_n X 0 rfl dX7_pass_53 ?_
                refine g_callV X hR (rest := []) mX7_move lX7_90 (k_moveBack hI V1 k T i (by first | assumption | decide | omega) hT (by unfold sNumOk; rw [hO.1]; exact hw.1) (hO.ok hw hi) (by rw [hO.1]; exact hi) b2 (by rw [hie, hO.1]; exact hie2) (fun j hj h8 => by
                    rw [hO.1] at hj
                    rcases hO.2.2.2.2.2.1 j hj h8 with q | ⟨q1, q2, q3⟩
                    · obtain ⟨d1, d2, d3, d4⟩ := hO.2.2.1 j q
                      exact ⟨by rw [hO.2.2.2.1 j 1 (by decide) (by decide), hie]; exact hw.2.2.2.2.2.2.1 j d4 i b4, by rw [hO.1, d1]; exact hw.2.2.2.2.2.1 j d4⟩
                    · exact ⟨by rw [hO.2.2.2.1 j 1 (by decide) (by decide), hie]; exact hw.2.2.2.2.2.2.1 j q3 i b4, by rw [hO.1]; exact q2⟩) (fun j hj h8 hji => by
                    rw [hO.1] at hj
                    rcases hO.2.2.2.2.2.1 j hj h8 with q | ⟨q1, q2, q3⟩
                    · rcases List.mem_cons.mp q with z | z
                      · exact absurd z hji
                      · have := hpw.1 j z; rw [(hO.2.2.1 j q).1, b1]; omega
                    · omega) (fun j hj h8 hji => by
                    rw [hO.1] at hj
                    rcases hO.2.2.2.2.2.1 j hj h8 with q | ⟨q1, q2, q3⟩
                    · rcases List.mem_cons.mp q with z | z
                      · exact absurd z hji
                      · have := hpw.1 j z; rw [(hO.2.2.1 j q).1, b1]; omega
                    · omega) (by have h9 := hO.2.2.2.2.2.2.2.2 (T.2.2.2.1 i 1) (by rw [hie]; omega); rw [List.length_cons] at h9; omega)) rfl rfl (Nat.le_of_ble_eq_true rfl) (gP_23 (by first | assumption | decide | omega)) rfl rfl rfl ⟨Nat.le_of_ble_eq_true rfl, Nat.le_of_ble_eq_true rfl, Nat.le_of_ble_eq_true rfl, Nat.le_of_ble_eq_true rfl⟩ dX7_pass_54 (fun r23 V24 hz_25 => ?_)
                refine gG_rv hz_25.1 ?_
                obtain ⟨-, hmV24, haV24⟩ := hz_25
                refine gG_st [] rfl ?_
                refine g_iinc X 3 rfl (nI (kk + 1)) (iinc_1 _) dX7_pass_57 [(2, .int (nI (kk + 1))), (3, .int (nI i)), (0, .ref (B.2.1 23 k 0)), (1, .int (nI (sCnt S 2)))] rfl (gnl_lt hnL (by decide)) ?_
                refine g_goto X 8 (by decide) dX7_pass_60 ?_
                refine gG_L [2, 3, 0] (L' := [(0, .ref (B.2.1 23 k 0)), (1, .int (nI (sCnt S 2))), (2, .int (nI (kk + 1)))]) rfl ?_
                refine ih (kk + 1) js V24 (bkS T i js) (by omega) (hO.step hw hi9) haV24.bkOf (hm1.trans hmV24)
            · have hat := hT.2.2.1.2 (sScan S kk) (by omega) (fun j hj h8 => by
                rw [hO.1] at hj
                have hj2 := hgb j
                have hj3 := (hw.2.1 j hj).1
                rcases hO.2.2.2.2.2.1 j hj h8 with q | ⟨q1, q2, q3⟩
                · have h1 := hlow j q
                  obtain ⟨d1, d2, d3, d4⟩ := hO.2.2.1 j q
                  have h2 := hj2 d4
                  have h3 := hw.2.2.2.2.2.1 j d4
                  rw [sPos_of (hO.2.2.2.1 j 1 (by decide) (by decide)), hO.1, d1]
                  unfold sScan
                  split <;> split <;> omega
                · have h2 := hj2 q3
                  rw [sPos_of (hO.2.2.2.1 j 1 (by decide) (by decide)), hO.1]
                  unfold sScan
                  split <;> split <;> omega)
              refine gG_top ((-1)) (hat) ?_
              refine g_istore_n X rfl dX7_pass_46 [(3, .int ((-1))), (0, .ref (B.2.1 23 k 0)), (1, .int (nI (sCnt S 2))), (2, .int (nI kk))] rfl (gnl_lt hnL (by decide)) ?_
              refine g_iload_n X 0 rfl dX7_pass_47 ?_
              refine g_iconst X (-1) (by decide) dX7_pass_48 ?_
              refine g_icmp_eq X 57 (by decide) dX7_pass_49 (fun c26 => ?_) (fun c26 => ?_)
              · refine g_iinc X 3 rfl (nI (kk + 1)) (iinc_1 _) dX7_pass_57 [(2, .int (nI (kk + 1))), (3, .int ((-1))), (0, .ref (B.2.1 23 k 0)), (1, .int (nI (sCnt S 2)))] rfl (gnl_lt hnL (by decide)) ?_
                refine g_goto X 8 (by decide) dX7_pass_60 ?_
                refine gG_L [2, 3, 0] (L' := [(0, .ref (B.2.1 23 k 0)), (1, .int (nI (sCnt S 2))), (2, .int (nI (kk + 1)))]) rfl ?_
                refine ih (kk + 1) is V1 T (by omega) (hO.pass' hlow) hT hm1
              ·  exact absurd c26 (by decide)
          by_cases hd0 : S.1 1 = 0
          · refine gG_top 0 (by rw [hd0]; rfl) ?_
            refine g_if_ne X 44 (by decide) dX7_pass_27 (fun c27 => ?_) (fun c27 => ?_)
            ·  exact absurd c27 (by decide)
            · refine g_aload_n X 0 rfl dX7_pass_30 ?_
              refine gg_X7_this_0 X (gP_23 (by first | assumption | decide | omega)) fX7_3 dX7_pass_31 ?_
              refine gg_X8_places X ⟨by decide, by decide⟩ fX7_59 dX7_pass_34 ?_
              refine gG_top (nI (S.1 2)) ((hT.2.2.2.2.2.1).trans (by rw [hO.1])) ?_
              refine g_iconst X 1 (by decide) dX7_pass_37 ?_
              refine g_isub X dX7_pass_38 ?_
              refine g_iload_n X 2 rfl dX7_pass_39 ?_
              refine g_isub X dX7_pass_40 ?_
              refine g_goto X 45 (by decide) dX7_pass_41 ?_
              refine gG_top (nI (sScan S kk)) (by unfold sScan; rw [if_pos hd0, nI_dec (by omega), pk_sub (by omega)]) ?_
              exact rest
          · skip
            refine g_if_ne X 44 (by decide) dX7_pass_27 (fun c28 => ?_) (fun c28 => ?_)
            · refine g_iload_n X 2 rfl dX7_pass_44 ?_
              refine gG_top (nI (sScan S kk)) (by unfold sScan; rw [if_neg hd0]) ?_
              exact rest
            · first | exact absurd (nI_ne0 (by omega) (by omega)) c28 | exact absurd c28 (nI_ne0 (by omega) (by omega))
    exact loopBack (S.1 2) 0 (S.2.1 2).reverse V S (by omega) (BkInv.start hw) hA stmod.rf

