/-! what a tick keeps: pure facts of S -/
theorem dec_ne {S : gSt} {i : Nat} {is : List Nat} (h : ∀ k ∈ is, S.2.2.2.1 k 9 < S.2.2.2.1 i 9) : i ∉ is := fun q => Nat.lt_irrefl _ (h i q)
/-- what goOnL leaves as it is -/
theorem goOnL_same (pl tk : Nat) : ∀ (is : List Nat) (lim : Nat) (S : gSt), (goOnL pl tk is lim S).1.1 = S.1 ∧ (goOnL pl tk is lim S).1.2.1 = S.2.1 ∧ (goOnL pl tk is lim S).1.2.2.1 = S.2.2.1 ∧ (∀ i k, k ≠ 8 → k ≠ 9 → (goOnL pl tk is lim S).1.2.2.2.1 i k = S.2.2.2.1 i k) ∧ (∀ i, i ∉ is → (∀ k, (goOnL pl tk is lim S).1.2.2.2.1 i k = S.2.2.2.1 i k) ∧ (goOnL pl tk is lim S).1.2.2.2.2 i = S.2.2.2.2 i) := by
  intro is
  induction is with
  | nil => intro lim S; exact ⟨rfl, rfl, rfl, fun _ _ _ _ => rfl, fun _ _ => ⟨fun _ => rfl, rfl⟩⟩
  | cons i is ih =>
    intro lim S
    unfold goOnL
    split
    · obtain ⟨a1, a2, a3, a4, a5⟩ := ih (min (S.2.2.2.1 i 9 + S.2.2.2.1 i 4) (lim - 1)) (sC S i 9 (min (S.2.2.2.1 i 9 + S.2.2.2.1 i 4) (lim - 1)))
      refine ⟨a1, a2, a3, fun j k h8 h9 => ?_, fun j hj => ?_⟩
      · rw [a4 j k h8 h9]; simp [sC, h9]
      · have h1 : j ≠ i := fun q => hj (by rw [q]; exact List.mem_cons_self)
        obtain ⟨b1, b2⟩ := a5 j (fun q => hj (List.mem_cons_of_mem _ q))
        exact ⟨fun k => by rw [b1 k]; simp [sC, h1], b2⟩
    · obtain ⟨a1, a2, a3, a4, a5⟩ := ih lim (sO (sC S i 8 2) i (nI tk))
      refine ⟨a1, a2, a3, fun j k h8 h9 => ?_, fun j hj => ?_⟩
      · rw [a4 j k h8 h9]; simp [sO, sC, h8]
      · have h1 : j ≠ i := fun q => hj (by rw [q]; exact List.mem_cons_self)
        obtain ⟨b1, b2⟩ := a5 j (fun q => hj (List.mem_cons_of_mem _ q))
        exact ⟨fun k => by rw [b1 k]; simp [sO, sC, h1], by rw [b2]; simp [sO, sC, h1]⟩
/-- what goOnL does: the first ones are over, the others go on -/
theorem goOnL_spec (pl tk : Nat) : ∀ (is : List Nat) (lim : Nat) (S : gSt), is.Pairwise (fun i j => S.2.2.2.1 j 9 < S.2.2.2.1 i 9) → (∀ i ∈ is, S.2.2.2.1 i 9 < lim) → (lim ≤ pl → (goOnL pl tk is lim S).2 = 0) ∧
    (∀ i ∈ is.take (goOnL pl tk is lim S).2, (goOnL pl tk is lim S).1.2.2.2.1 i 8 = 2 ∧ (goOnL pl tk is lim S).1.2.2.2.2 i = nI tk) ∧
    (∀ i ∈ is.drop (goOnL pl tk is lim S).2, (goOnL pl tk is lim S).1.2.2.2.1 i 8 = S.2.2.2.1 i 8 ∧ (goOnL pl tk is lim S).1.2.2.2.2 i = S.2.2.2.2 i ∧ (goOnL pl tk is lim S).1.2.2.2.1 i 9 < pl ∧ (goOnL pl tk is lim S).1.2.2.2.1 i 9 < lim) ∧
    (is.drop (goOnL pl tk is lim S).2).Pairwise (fun i j => (goOnL pl tk is lim S).1.2.2.2.1 j 9 < (goOnL pl tk is lim S).1.2.2.2.1 i 9) := by
  intro is
  induction is with
  | nil => intro lim S _ _; exact ⟨fun _ => rfl, fun i h => by simp at h, fun i h => by simp at h, by simp⟩
  | cons i is ih =>
    intro lim S hp hl
    rw [List.pairwise_cons] at hp
    have hi := hl i List.mem_cons_self
    have hni := dec_ne hp.1
    unfold goOnL
    split
    · rename_i hlt
      have hw : S.2.2.2.1 i 9 ≤ min (S.2.2.2.1 i 9 + S.2.2.2.1 i 4) (lim - 1) := by omega
      have hwl : min (S.2.2.2.1 i 9 + S.2.2.2.1 i 4) (lim - 1) < lim := by omega
      generalize min (S.2.2.2.1 i 9 + S.2.2.2.1 i 4) (lim - 1) = w at hlt hw hwl ⊢
      have e : ∀ k ∈ is, (sC S i 9 w).2.2.2.1 k 9 = S.2.2.2.1 k 9 := fun k hk => by
        have : k ≠ i := fun q => hni (q ▸ hk)
        simp [sC, this]
      have hp2 : is.Pairwise (fun a c => (sC S i 9 w).2.2.2.1 c 9 < (sC S i 9 w).2.2.2.1 a 9) := hp.2.imp_of_mem (fun ha hc q => by rw [e _ ha, e _ hc]; exact q)
      obtain ⟨b0, b1, b2, b3⟩ := ih w (sC S i 9 w) hp2 (fun k hk => by rw [e k hk]; have := hp.1 k hk; omega)
      have h0 := b0 (Nat.le_of_lt hlt)
      rw [h0] at b1 b2 b3 ⊢
      obtain ⟨-, -, -, -, s5⟩ := goOnL_same pl tk is w (sC S i 9 w)
      obtain ⟨s6, s7⟩ := s5 i hni
      have hwi : (goOnL pl tk is w (sC S i 9 w)).1.2.2.2.1 i 9 = w := by rw [s6]; simp [sC]
      rw [List.drop_zero] at b2 b3 ⊢
      refine ⟨fun _ => rfl, fun k h => by simp at h, fun k hk => ?_, ?_⟩
      · rcases List.mem_cons.mp hk with q | q
        · subst q
          exact ⟨by rw [s6]; simp [sC], by rw [s7]; rfl, by rw [hwi]; exact hlt, by rw [hwi]; exact hwl⟩
        · obtain ⟨c1, c2, c3, c4⟩ := b2 k q
          have : k ≠ i := fun z => hni (z ▸ q)
          exact ⟨by rw [c1]; simp [sC, this], by rw [c2]; rfl, c3, Nat.lt_trans c4 hwl⟩
      · rw [List.pairwise_cons]
        exact ⟨fun k hk => by rw [hwi]; exact (b2 k hk).2.2.2, b3⟩
    · rename_i hge
      have e : ∀ k ∈ is, (sO (sC S i 8 2) i (nI tk)).2.2.2.1 k 9 = S.2.2.2.1 k 9 := fun k hk => by simp [sO, sC]
      have hp2 : is.Pairwise (fun a c => (sO (sC S i 8 2) i (nI tk)).2.2.2.1 c 9 < (sO (sC S i 8 2) i (nI tk)).2.2.2.1 a 9) := hp.2.imp_of_mem (fun ha hc q => by rw [e _ ha, e _ hc]; exact q)
      obtain ⟨b0, b1, b2, b3⟩ := ih lim (sO (sC S i 8 2) i (nI tk)) hp2 (fun k hk => by rw [e k hk]; exact hl k (List.mem_cons_of_mem _ hk))
      obtain ⟨-, -, -, -, s5⟩ := goOnL_same pl tk is lim (sO (sC S i 8 2) i (nI tk))
      obtain ⟨s6, s7⟩ := s5 i hni
      refine ⟨fun q => absurd hge (by omega), fun k hk => ?_, fun k hk => ?_, ?_⟩
      · rw [List.take_succ_cons] at hk
        rcases List.mem_cons.mp hk with q | q
        · subst q
          exact ⟨by rw [s6]; simp [sO, sC], by rw [s7]; simp [sO]⟩
        · exact b1 k q
      · rw [List.drop_succ_cons] at hk
        obtain ⟨c1, c2, c3, c4⟩ := b2 k hk
        have : k ≠ i := fun z => hni (z ▸ List.mem_of_mem_drop hk)
        exact ⟨by rw [c1]; simp [sO, sC, this], by rw [c2]; simp [sO, sC, this], c3, c4⟩
      · rw [List.drop_succ_cons]
        exact b3
theorem sGoOn_num (S : gSt) : (sGoOn S).1.1 = S.1 := (goOnL_same _ _ _ _ S).1
theorem WF.goOn {S : gSt} (h : WF S) : WF (sGoOn S).1 := by
  obtain ⟨a1, a2, a3, a4, a5⟩ := goOnL_same (S.1 2) (S.1 0) (S.2.1 2) (S.1 2 + 4) S
  obtain ⟨b0, b1, b2, b3⟩ := goOnL_spec (S.1 2) (S.1 0) (S.2.1 2) (S.1 2 + 4) S h.2.2.2.1 (fun i hi => by have := h.2.2.2.2.2.1 i hi; omega)
  unfold sGoOn
  generalize goOnL (S.1 2) (S.1 0) (S.2.1 2) (S.1 2 + 4) S = r at *
  have hn : (sQ r.1 2 ((S.2.1 2).drop r.2)).1 = S.1 := a1
  have hmem : ∀ i, i ∈ S.2.1 2 → i ∈ (S.2.1 2).take r.2 ∨ i ∈ (S.2.1 2).drop r.2 := fun i hi => by
    rw [← List.take_append_drop r.2 (S.2.1 2)] at hi
    exact List.mem_append.mp hi
  have hst : ∀ i, r.1.2.2.2.1 i 8 = S.2.2.2.1 i 8 ∨ (r.1.2.2.2.1 i 8 = 2 ∧ S.2.2.2.1 i 8 = 1 ∧ i ∈ (S.2.1 2).take r.2) := fun i => by
    by_cases hi : i ∈ S.2.1 2
    · rcases hmem i hi with q | q
      · exact Or.inr ⟨(b1 i q).1, ((h.2.2.2.2.1 i).mp hi).2, q⟩
      · exact Or.inl (b2 i q).1
    · exact Or.inl ((a5 i hi).1 8)
  refine ⟨?_, fun i hi => ?_, fun e he => ?_, ?_, fun i => ?_, fun i hi => ?_, fun i hi j hj => ?_, fun i hi h8 => ?_⟩
  · show sNumOk (r.1.1, _)
    rw [a1]
    exact h.1
  · have hi' : i < S.1 6 := by rw [← a1]; exact hi
    obtain ⟨c1, c2, c3, c4, c5, c6, c7, c8⟩ := h.2.1 i hi'
    have e := fun k (h1 : k ≠ 8) (h2 : k ≠ 9) => a4 i k h1 h2
    refine ⟨?_, ?_, ?_, ?_, ?_, ?_, ?_, ?_⟩
    · show r.1.2.2.2.1 i 1 ≤ 1; rw [e 1 (by decide) (by decide)]; exact c1
    · show 1 ≤ r.1.2.2.2.1 i 2 ∧ r.1.2.2.2.1 i 2 ≤ 4; rw [e 2 (by decide) (by decide)]; exact c2
    · show r.1.2.2.2.1 i 3 ≤ 200; rw [e 3 (by decide) (by decide)]; exact c3
    · show 1 ≤ r.1.2.2.2.1 i 4 ∧ r.1.2.2.2.1 i 4 ≤ 3; rw [e 4 (by decide) (by decide)]; exact c4
    · show r.1.2.2.2.1 i 5 ≤ 100; rw [e 5 (by decide) (by decide)]; exact c5
    · show r.1.2.2.2.1 i 6 ≤ 1; rw [e 6 (by decide) (by decide)]; exact c6
    · show r.1.2.2.2.1 i 7 ≤ 1; rw [e 7 (by decide) (by decide)]; exact c7
    · show r.1.2.2.2.1 i 8 ≤ 3
      rcases hst i with q | q
      · rw [q]; exact c8
      · rw [q.1]; decide
  · have hq : (sQ r.1 2 ((S.2.1 2).drop r.2)).2.1 e = S.2.1 e := by
      simp only [sQ]; rw [if_neg (by omega), a2]
    rw [hq, hn]
    refine ⟨(h.2.2.1 e he).1, fun i => ((h.2.2.1 e he).2 i).trans ?_⟩
    show _ ↔ i < S.1 6 ∧ r.1.2.2.2.1 i 8 = 0 ∧ r.1.2.2.2.1 i 1 = e
    rw [a4 i 1 (by decide) (by decide)]
    rcases hst i with q | q
    · rw [q]
    · rw [q.1, q.2.1]; simp
  · exact b3
  · show i ∈ (S.2.1 2).drop r.2 ↔ i < r.1.1 6 ∧ r.1.2.2.2.1 i 8 = 1
    rw [a1]
    constructor
    · intro q
      have h1 := (h.2.2.2.2.1 i).mp (List.mem_of_mem_drop q)
      exact ⟨h1.1, by rw [(b2 i q).1]; exact h1.2⟩
    · rintro ⟨q1, q2⟩
      rcases hst i with q | q
      · have h1 : i ∈ S.2.1 2 := (h.2.2.2.2.1 i).mpr ⟨q1, by rw [← q]; exact q2⟩
        rcases hmem i h1 with z | z
        · have := (b1 i z).1; omega
        · exact z
      · omega
  · show r.1.2.2.2.1 i 9 < r.1.1 2
    rw [a1]
    exact (b2 i hi).2.2.1
  · show r.1.2.2.2.1 i 1 = r.1.2.2.2.1 j 1
    rw [a4 i 1 (by decide) (by decide), a4 j 1 (by decide) (by decide)]
    exact h.2.2.2.2.2.2.1 i (List.mem_of_mem_drop hi) j (List.mem_of_mem_drop hj)
  · show ∃ t : Nat, t ≤ r.1.1 0 ∧ r.1.2.2.2.2 i = nI t
    rw [a1]
    have hi' : i < S.1 6 := by rw [← a1]; exact hi
    by_cases hx : i ∈ S.2.1 2
    · rcases hmem i hx with q | q
      · exact ⟨S.1 0, Nat.le_refl _, (b1 i q).2⟩
      · have h9 : r.1.2.2.2.1 i 8 = 2 := h8
        rw [(b2 i q).1, ((h.2.2.2.2.1 i).mp hx).2] at h9
        cases h9
    · have h9 : r.1.2.2.2.1 i 8 = 2 := h8
      rw [(a5 i hx).1 8] at h9
      rw [(a5 i hx).2]
      exact h.2.2.2.2.2.2.2 i hi' h9
theorem nodup_rev {l : List Nat} (h : l.Nodup) : l.reverse.Nodup := List.pairwise_reverse.mpr (h.imp (fun q e => q e.symm))
theorem backL_spec : ∀ (is : List Nat) (S : gSt), is.Nodup → (backL is S).1 = S.1 ∧ (backL is S).2.1 = S.2.1 ∧ (backL is S).2.2.1 = S.2.2.1 ∧ (backL is S).2.2.2.2 = S.2.2.2.2 ∧ (∀ i k, k ≠ 9 → (backL is S).2.2.2.1 i k = S.2.2.2.1 i k) ∧ (∀ i, i ∉ is → (backL is S).2.2.2.1 i 9 = S.2.2.2.1 i 9) ∧ (∀ i ∈ is, (backL is S).2.2.2.1 i 9 = S.2.2.2.1 i 9 - 1) := by
  intro is
  induction is with
  | nil => intro S _; exact ⟨rfl, rfl, rfl, rfl, fun _ _ _ => rfl, fun _ _ => rfl, fun i h => by cases h⟩
  | cons i is ih =>
    intro S hn
    rw [List.nodup_cons] at hn
    unfold backL
    obtain ⟨a1, a2, a3, a4, a5, a6, a7⟩ := ih (sC S i 9 (S.2.2.2.1 i 9 - 1)) hn.2
    refine ⟨a1, a2, a3, a4, fun j k hk => ?_, fun j hj => ?_, fun j hj => ?_⟩
    · rw [a5 j k hk]; simp [sC, hk]
    · have h1 : j ≠ i := fun q => hj (by rw [q]; exact List.mem_cons_self)
      rw [a6 j (fun q => hj (List.mem_cons_of_mem _ q))]
      simp [sC, h1]
    · by_cases h1 : j = i
      · subst h1
        rw [a6 j hn.1]; simp [sC]
      · rcases List.mem_cons.mp hj with q | q
        · exact absurd q h1
        · rw [a7 j q]; simp [sC, h1]
theorem sCartOk.of {S S' : gSt} {i : Nat} (h : sCartOk S i) (e : ∀ k, 1 ≤ k → k ≤ 7 → S'.2.2.2.1 i k = S.2.2.2.1 i k) (h8 : S'.2.2.2.1 i 8 ≤ 3) : sCartOk S' i := by
  obtain ⟨c1, c2, c3, c4, c5, c6, c7, c8⟩ := h
  refine ⟨?_, ?_, ?_, ?_, ?_, ?_, ?_, h8⟩
  · rw [e 1 (by decide) (by decide)]; exact c1
  · rw [e 2 (by decide) (by decide)]; exact c2
  · rw [e 3 (by decide) (by decide)]; exact c3
  · rw [e 4 (by decide) (by decide)]; exact c4
  · rw [e 5 (by decide) (by decide)]; exact c5
  · rw [e 6 (by decide) (by decide)]; exact c6
  · rw [e 7 (by decide) (by decide)]; exact c7
theorem sNumOk.of {S S' : gSt} (h : sNumOk S) (e : S'.1 = S.1) : sNumOk S' := by
  unfold sNumOk
  rw [e]
  exact h
/-- all go back by one, none leaves -/
theorem WF.backAll {S : gSt} (h : WF S) (hpos : ∀ i ∈ S.2.1 2, 0 < S.2.2.2.1 i 9) : WF (backL (S.2.1 2).reverse S) := by
  obtain ⟨a1, a2, a3, a4, a5, a6, a7⟩ := backL_spec (S.2.1 2).reverse S (nodup_rev h.ne)
  generalize backL (S.2.1 2).reverse S = T at *
  have e8 : ∀ i, T.2.2.2.1 i 8 = S.2.2.2.1 i 8 := fun i => a5 i 8 (by decide)
  have e1 : ∀ i, T.2.2.2.1 i 1 = S.2.2.2.1 i 1 := fun i => a5 i 1 (by decide)
  have e9 : ∀ i ∈ S.2.1 2, T.2.2.2.1 i 9 = S.2.2.2.1 i 9 - 1 := fun i hi => a7 i (List.mem_reverse.mpr hi)
  refine ⟨h.1.of a1, fun i hi => ?_, fun e he => ?_, ?_, fun i => ?_, fun i hi => ?_, fun i hi j hj => ?_, fun i hi h8 => ?_⟩
  · rw [a1] at hi
    exact (h.2.1 i hi).of (fun k _ h2 => a5 i k (by omega)) (by rw [e8]; exact (h.2.1 i hi).2.2.2.2.2.2.2)
  · rw [a1, a2]
    refine ⟨(h.2.2.1 e he).1, fun i => ?_⟩
    rw [e8, e1]
    exact (h.2.2.1 e he).2 i
  · rw [a2]
    exact h.2.2.2.1.imp_of_mem (fun ha hc q => by
      rw [e9 _ ha, e9 _ hc]
      have := hpos _ hc
      omega)
  · rw [a2, a1, e8]
    exact h.2.2.2.2.1 i
  · rw [a2] at hi
    rw [a1, e9 i hi]
    have := h.2.2.2.2.2.1 i hi
    omega
  · rw [a2] at hi hj
    rw [e1, e1]
    exact h.2.2.2.2.2.2.1 i hi j hj
  · rw [a1] at hi ⊢
    rw [e8] at h8
    rw [a4]
    exact h.2.2.2.2.2.2.2 i hi h8
/-- the hindmost leaves -/
theorem WF.leave {S : gSt} (h : WF S) {ys : List Nat} {l : Nat} (hq : S.2.1 2 = ys ++ [l]) : WF (sLeave S l ys) := by
  have hlm : l ∈ S.2.1 2 := by rw [hq]; simp
  have hl := h.mem hlm
  have hst : S.2.2.2.1 l 8 = 1 := ((h.2.2.2.2.1 l).mp hlm).2
  have hcl := h.2.1 l hl
  have hnd := h.ne
  rw [hq] at hnd
  have hly : l ∉ ys := by
    rw [List.nodup_append] at hnd
    exact fun q => hnd.2.2 l q l (List.mem_singleton.mpr rfl) rfl
  have hE : (sC S l 8 0).2.2.2.1 l 1 = S.2.2.2.1 l 1 := by simp [sC]
  have c8 : ∀ i, (sLeave S l ys).2.2.2.1 i 8 = if i = l then 0 else S.2.2.2.1 i 8 := fun i => by simp [sLeave, sQ, sC]
  have ck : ∀ i k, k ≠ 8 → (sLeave S l ys).2.2.2.1 i k = S.2.2.2.1 i k := fun i k hk => by simp [sLeave, sQ, sC, hk]
  have q2 : (sLeave S l ys).2.1 2 = ys := by simp [sLeave, sQ]
  have qe : ∀ e, e < 2 → (sLeave S l ys).2.1 e = if e = S.2.2.2.1 l 1 then l :: S.2.1 e else S.2.1 e := fun e he => by
    simp only [sLeave, sQ, hE]
    rw [if_neg (by omega)]
    by_cases h1 : e = S.2.2.2.1 l 1
    · subst h1; simp [sC]
    · rw [if_neg h1, if_neg h1]; rfl
  have n1 : (sLeave S l ys).1 = S.1 := rfl
  have o1 : (sLeave S l ys).2.2.2.2 = S.2.2.2.2 := rfl
  refine ⟨h.1.of n1, fun i hi => ?_, fun e he => ?_, ?_, fun i => ?_, fun i hi => ?_, fun i hi j hj => ?_, fun i hi h8 => ?_⟩
  · refine (h.2.1 i hi).of (fun k _ h2 => ck i k (by omega)) ?_
    rw [c8]
    split
    · decide
    · exact (h.2.1 i hi).2.2.2.2.2.2.2
  · rw [qe e he, n1]
    have hnot : l ∉ S.2.1 e := fun q => by have := (h.qmem he q).2.1; omega
    constructor
    · split
      · exact List.nodup_cons.mpr ⟨hnot, (h.2.2.1 e he).1⟩
      · exact (h.2.2.1 e he).1
    · intro i
      rw [c8, ck i 1 (by decide)]
      by_cases hi : i = l
      · subst hi
        rw [if_pos rfl]
        by_cases h1 : e = S.2.2.2.1 i 1
        · rw [if_pos h1]; simp [hl, h1]
        · rw [if_neg h1]
          constructor
          · intro q; exact absurd q hnot
          · rintro ⟨-, -, q⟩; exact absurd q.symm h1
      · rw [if_neg hi, ← (h.2.2.1 e he).2 i]
        split
        · simp [hi]
        · rfl
  · rw [q2]
    have h9 := h.2.2.2.1
    rw [hq, List.pairwise_append] at h9
    exact h9.1.imp (fun q => by rw [ck _ 9 (by decide), ck _ 9 (by decide)]; exact q)
  · rw [q2, n1, c8]
    have h9 := h.2.2.2.2.1 i
    rw [hq, List.mem_append, List.mem_singleton] at h9
    by_cases hi : i = l
    · subst hi
      rw [if_pos rfl]
      constructor
      · intro q; exact absurd q hly
      · rintro ⟨-, q⟩; cases q
    · rw [if_neg hi, ← h9]
      simp [hi]
  · rw [q2] at hi
    rw [n1, ck _ 9 (by decide)]
    exact h.2.2.2.2.2.1 i (by rw [hq]; exact List.mem_append_left _ hi)
  · rw [q2] at hi hj
    rw [ck _ 1 (by decide), ck _ 1 (by decide)]
    exact h.2.2.2.2.2.2.1 i (by rw [hq]; exact List.mem_append_left _ hi) j (by rw [hq]; exact List.mem_append_left _ hj)
  · rw [o1, n1]
    rw [c8] at h8
    split at h8
    · cases h8
    · exact h.2.2.2.2.2.2.2 i hi h8
theorem last_min {S : gSt} (h : WF S) {ys : List Nat} {l : Nat} (hq : S.2.1 2 = ys ++ [l]) : ∀ a ∈ ys, S.2.2.2.1 l 9 < S.2.2.2.1 a 9 := by
  have h9 := h.2.2.2.1
  rw [hq, List.pairwise_append] at h9
  exact fun a ha => h9.2.2 a ha l (List.mem_singleton.mpr rfl)
theorem WF.goBack {S : gSt} (h : WF S) : WF (sGoBack S) := by
  rcases List.eq_nil_or_concat (S.2.1 2) with hq | ⟨ys, l, hq⟩
  · unfold sGoBack
    rw [hq]
    exact h
  · have hq : S.2.1 2 = ys ++ [l] := hq.trans (List.concat_eq_append ..)
    have hmin := last_min h hq
    have hrev : (S.2.1 2).reverse = l :: ys.reverse := by rw [hq]; simp
    by_cases hz : S.2.2.2.1 l 9 = 0
    · have hs : sGoBack S = backL ((sLeave S l ys).2.1 2).reverse (sLeave S l ys) := by
        unfold sGoBack
        rw [hrev]
        simp only []
        rw [if_pos hz, List.reverse_reverse]
        rfl
      rw [hs]
      have hl2 : (sLeave S l ys).2.1 2 = ys := by simp [sLeave, sQ]
      refine (h.leave hq).backAll (fun i hi => ?_)
      rw [hl2] at hi
      have := hmin i hi
      have e : (sLeave S l ys).2.2.2.1 i 9 = S.2.2.2.1 i 9 := by simp [sLeave, sQ, sC]
      omega
    · have hs : sGoBack S = backL (S.2.1 2).reverse S := by
        unfold sGoBack
        rw [hrev]
        simp only []
        rw [if_neg hz]
      rw [hs]
      refine h.backAll (fun i hi => ?_)
      rw [hq] at hi
      rcases List.mem_append.mp hi with q | q
      · have := hmin i q; omega
      · rw [List.mem_singleton.mp q]; omega
theorem sGoBack_num (S : gSt) (h : WF S) : (sGoBack S).1 = S.1 := by
  rcases List.eq_nil_or_concat (S.2.1 2) with hq | ⟨ys, l, hq⟩
  · unfold sGoBack
    rw [hq]
    rfl
  · have hq : S.2.1 2 = ys ++ [l] := hq.trans (List.concat_eq_append ..)
    have hrev : (S.2.1 2).reverse = l :: ys.reverse := by rw [hq]; simp
    have hn := nodup_rev h.ne
    rw [hrev, List.nodup_cons] at hn
    unfold sGoBack
    rw [hrev]
    simp only []
    split
    · rw [(backL_spec ys.reverse _ hn.2).1]; rfl
    · rw [(backL_spec (l :: ys.reverse) S (List.nodup_cons.mpr hn)).1]
/-- from the queue onto the bridge, or away -/
theorem sTake_c (S : gSt) (e i a c : Nat) : (sTake S e i a c).2.2.2 = S.2.2.2 ∧ (sTake S e i a c).1 = S.1 ∧ (sTake S e i a c).2.1 = S.2.1 := ⟨rfl, rfl, rfl⟩
theorem sPay_c (S : gSt) (e i : Nat) : (∀ j k, k ≠ 5 → k ≠ 7 → (sPay S e i).2.2.2.1 j k = S.2.2.2.1 j k) ∧ (∀ j, j ≠ i → ∀ k, (sPay S e i).2.2.2.1 j k = S.2.2.2.1 j k) ∧ (sPay S e i).2.2.2.1 i 5 = S.2.2.2.1 i 5 - sDue S i ∧ (sPay S e i).2.2.2.1 i 7 = 1 ∧ (sPay S e i).2.2.2.2 = S.2.2.2.2 ∧ (sPay S e i).1 = S.1 ∧ (sPay S e i).2.1 = S.2.1 := by
  unfold sPay
  obtain ⟨h1, h2, h3⟩ := sTake_c (sC (sC S i 5 (S.2.2.2.1 i 5 - sDue S i)) i 7 1) e i (sDue S i) (sToll S (S.2.2.2.1 i 2) (S.2.2.2.1 i 3))
  refine ⟨fun j k h5 h7 => ?_, fun j hj k => ?_, ?_, ?_, ?_, h2, h3⟩
  · rw [h1]; simp [sC, h5, h7]
  · rw [h1]; simp [sC, hj]
  · rw [h1]; simp [sC]
  · rw [h1]; simp [sC]
  · rw [h1]; rfl
theorem sCome_eq {S : gSt} {i : Nat} {ys : List Nat} (hq : S.2.1 (S.1 1) = i :: ys) (hroom : sRoom S i = true) : sCome S = (if (sQ S (S.1 1) ys).2.2.2.1 i 7 = 0 ∧ (sQ S (S.1 1) ys).2.2.2.1 i 5 < sDue (sQ S (S.1 1) ys) i then sC (sQ S (S.1 1) ys) i 8 3 else sQ (sC (sC (if (sQ S (S.1 1) ys).2.2.2.1 i 7 = 0 then sPay (sQ S (S.1 1) ys) (S.1 1) i else sQ S (S.1 1) ys) i 8 1) i 9 0) 2 ((sC (sC (if (sQ S (S.1 1) ys).2.2.2.1 i 7 = 0 then sPay (sQ S (S.1 1) ys) (S.1 1) i else sQ S (S.1 1) ys) i 8 1) i 9 0).2.1 2 ++ [i])) := by
  unfold sCome
  rw [hq]
  exact if_pos hroom
theorem WF.come {S : gSt} (h : WF S) : WF (sCome S) := by
  have hd : S.1 1 < 2 := by have := h.1.1; omega
  cases hq : S.2.1 (S.1 1) with
  | nil =>
    have : sCome S = S := by unfold sCome; rw [hq]
    rw [this]; exact h
  | cons i ys =>
    have hiq : i ∈ S.2.1 (S.1 1) := by rw [hq]; exact List.mem_cons_self
    obtain ⟨hi, hst, hend⟩ := h.qmem hd hiq
    have hci := h.2.1 i hi
    have hnd := (h.2.2.1 _ hd).1
    rw [hq, List.nodup_cons] at hnd
    have hncr : i ∉ S.2.1 2 := fun q => by have := ((h.2.2.2.2.1 i).mp q).2; omega
    -- a state that differs from S in i's state, way, coins, paid, the queue, the row and the boxes alone
    have go : ∀ (T : gSt) (st : Nat) (cr : List Nat), T.1 = S.1 → (∀ e, e < 2 → T.2.1 e = if e = S.1 1 then ys else S.2.1 e) → T.2.1 2 = cr → (∀ j, j ≠ i → ∀ k, T.2.2.2.1 j k = S.2.2.2.1 j k) → T.2.2.2.1 i 8 = st → (∀ k, 1 ≤ k → k ≤ 7 → k ≠ 5 → k ≠ 7 → T.2.2.2.1 i k = S.2.2.2.1 i k) → T.2.2.2.1 i 5 ≤ 100 → T.2.2.2.1 i 7 ≤ 1 → T.2.2.2.2 = S.2.2.2.2 →
        (st = 3 ∧ cr = S.2.1 2 ∨ st = 1 ∧ cr = S.2.1 2 ++ [i] ∧ T.2.2.2.1 i 9 = 0 ∧ sFree S = true) → WF T := by
      intro T st cr e1 eq ecr eo es ek e5 e7 eot hcase
      have hst3 : st = 3 ∨ st = 1 := by rcases hcase with q | q; exact Or.inl q.1; exact Or.inr q.1
      have hcrj : ∀ j, j ≠ i → (j ∈ cr ↔ j ∈ S.2.1 2) := fun j hj => by
        rcases hcase with q | q
        · rw [q.2]
        · rw [q.2.1]; simp [hj]
      refine ⟨h.1.of e1, fun j hj => ?_, fun e he => ?_, ?_, fun j => ?_, fun j hj => ?_, fun j hj k hk => ?_, fun j hj h8 => ?_⟩
      · rw [e1] at hj
        by_cases hji : j = i
        · subst hji
          obtain ⟨c1, c2, c3, c4, c5, c6, c7, c8⟩ := hci
          refine ⟨?_, ?_, ?_, ?_, e5, ?_, e7, by rw [es]; omega⟩
          · rw [ek 1 (by decide) (by decide) (by decide) (by decide)]; exact c1
          · rw [ek 2 (by decide) (by decide) (by decide) (by decide)]; exact c2
          · rw [ek 3 (by decide) (by decide) (by decide) (by decide)]; exact c3
          · rw [ek 4 (by decide) (by decide) (by decide) (by decide)]; exact c4
          · rw [ek 6 (by decide) (by decide) (by decide) (by decide)]; exact c6
        · exact (h.2.1 j hj).of (fun k _ _ => eo j hji k) (by rw [eo j hji]; exact (h.2.1 j hj).2.2.2.2.2.2.2)
      · rw [e1, eq e he]
        constructor
        · split
          · exact hnd.2
          · exact (h.2.2.1 e he).1
        · intro j
          by_cases hji : j = i
          · subst hji
            rw [es]
            constructor
            · intro q
              split at q
              · exact absurd q hnd.1
              · have := (h.qmem he q).2.2; omega
            · rintro ⟨-, q, -⟩; omega
          · rw [eo j hji, eo j hji, ← (h.2.2.1 e he).2 j]
            split
            · rename_i he2; subst he2; rw [hq]; simp [hji]
            · rfl
      · rw [ecr]
        rcases hcase with q | q
        · rw [q.2]
          exact h.2.2.2.1.imp_of_mem (fun {a c} ha hc z => by
            rw [eo c (fun y => hncr (y ▸ hc)), eo a (fun y => hncr (y ▸ ha))]; exact z)
        · rw [q.2.1, List.pairwise_append]
          refine ⟨h.2.2.2.1.imp_of_mem (fun {a c} ha hc z => by
            rw [eo c (fun y => hncr (y ▸ hc)), eo a (fun y => hncr (y ▸ ha))]; exact z), by simp, fun a ha c hc => ?_⟩
          rw [List.mem_singleton.mp hc, q.2.2.1, eo a (fun y => hncr (y ▸ ha))]
          have hf := q.2.2.2
          unfold sFree at hf
          rcases List.eq_nil_or_concat (S.2.1 2) with hz | ⟨zs, l, hz⟩
          · rw [hz] at ha; cases ha
          · have hz : S.2.1 2 = zs ++ [l] := hz.trans (List.concat_eq_append ..)
            have hl : (S.2.1 2).getLast? = some l := by rw [hz]; simp
            rw [hl] at hf
            simp only [Bool.and_eq_true, decide_eq_true_eq] at hf
            rw [hz] at ha
            rcases List.mem_append.mp ha with y | y
            · have := last_min h hz a y; omega
            · rw [List.mem_singleton.mp y]; exact hf.2
      · rw [ecr, e1]
        by_cases hji : j = i
        · subst hji
          rw [es]
          rcases hcase with q | q
          · rw [q.2, q.1]; simp [hncr]
          · rw [q.2.1, q.1]; simp [hi]
        · rw [hcrj j hji, eo j hji]
          exact h.2.2.2.2.1 j
      · rw [ecr] at hj
        rw [e1]
        by_cases hji : j = i
        · subst hji
          rcases hcase with q | q
          · rw [q.2] at hj; exact absurd hj hncr
          · rw [q.2.2.1]; have := h.1.2.1; omega
        · rw [eo j hji]
          exact h.2.2.2.2.2.1 j ((hcrj j hji).mp hj)
      · rw [ecr] at hj hk
        rcases hcase with q | q
        · rw [q.2] at hj hk
          rw [eo j (fun y => hncr (y ▸ hj)), eo k (fun y => hncr (y ▸ hk))]
          exact h.2.2.2.2.2.2.1 j hj k hk
        · have hd2 : ∀ a, a ∈ S.2.1 2 → S.2.2.2.1 a 1 = S.1 1 := fun a ha => by
            have hf := q.2.2.2
            unfold sFree at hf
            rcases List.eq_nil_or_concat (S.2.1 2) with hz | ⟨zs, l, hz⟩
            · rw [hz] at ha; cases ha
            · have hz : S.2.1 2 = zs ++ [l] := hz.trans (List.concat_eq_append ..)
              have hl : (S.2.1 2).getLast? = some l := by rw [hz]; simp
              rw [hl] at hf
              simp only [Bool.and_eq_true, decide_eq_true_eq] at hf
              rw [h.2.2.2.2.2.2.1 a ha l (getLast_mem hl)]
              exact hf.1
          have hall : ∀ a, a ∈ cr → T.2.2.2.1 a 1 = S.1 1 := fun a ha => by
            by_cases hai : a = i
            · subst hai
              rw [ek 1 (by decide) (by decide) (by decide) (by decide)]; exact hend
            · rw [eo a hai]; exact hd2 a ((hcrj a hai).mp ha)
          rw [hall j hj, hall k hk]
      · rw [e1] at hj ⊢
        rw [eot]
        by_cases hji : j = i
        · subst hji; rw [es] at h8; omega
        · rw [eo j hji] at h8
          exact h.2.2.2.2.2.2.2 j hj h8
    by_cases hroom : sRoom S i = true
    · have hfree : sFree S = true := by unfold sRoom at hroom; simp only [Bool.and_eq_true] at hroom; exact hroom.1
      have hS := sCome_eq hq hroom
      have hqe : ∀ e, e < 2 → (sQ S (S.1 1) ys).2.1 e = if e = S.1 1 then ys else S.2.1 e := fun e _ => rfl
      by_cases hp : (sQ S (S.1 1) ys).2.2.2.1 i 7 = 0
      · by_cases hd2 : (sQ S (S.1 1) ys).2.2.2.1 i 5 < sDue (sQ S (S.1 1) ys) i
        · rw [if_pos ⟨hp, hd2⟩] at hS
          rw [hS]
          refine go _ 3 (S.2.1 2) rfl hqe (if_neg (by omega)) (fun j hj k => by simp [sC, sQ, hj]) (by simp [sC]) (fun k _ _ _ _ => by rw [show k = k from rfl]; simp [sC, sQ]; omega) (by simp [sC, sQ]; exact hci.2.2.2.2.1) (by simp [sC, sQ]; exact hci.2.2.2.2.2.2.1) rfl (Or.inl ⟨rfl, rfl⟩)
        · rw [if_neg (fun q => hd2 q.2), if_pos hp] at hS
          rw [hS]
          obtain ⟨p1, p2, p3, p4, p5, p6, p7⟩ := sPay_c (sQ S (S.1 1) ys) (S.1 1) i
          refine go _ 1 (S.2.1 2 ++ [i]) (by show (sPay (sQ S (S.1 1) ys) (S.1 1) i).1 = S.1; rw [p6]; rfl) (fun e he => ?_) ?_ (fun j hj k => ?_) ?_ (fun k h1 h7 k5 k7 => ?_) ?_ ?_ ?_ (Or.inr ⟨rfl, rfl, ?_, hfree⟩)
          · simp only [sQ, sC]; rw [if_neg (by omega)]
            show (sPay (sQ S (S.1 1) ys) (S.1 1) i).2.1 e = _
            rw [p7]; rfl
          · show (sPay (sQ S (S.1 1) ys) (S.1 1) i).2.1 2 ++ [i] = _
            rw [p7]
            show (if 2 = S.1 1 then ys else S.2.1 2) ++ [i] = _
            rw [if_neg (by omega)]
          · show (if j = i ∧ k = 9 then 0 else if j = i ∧ k = 8 then 1 else (sPay (sQ S (S.1 1) ys) (S.1 1) i).2.2.2.1 j k) = _
            rw [if_neg (fun q => hj q.1), if_neg (fun q => hj q.1), p2 j hj k]; rfl
          · simp [sC, sQ]
          · show (if i = i ∧ k = 9 then 0 else if i = i ∧ k = 8 then 1 else (sPay (sQ S (S.1 1) ys) (S.1 1) i).2.2.2.1 i k) = _
            rw [if_neg (by omega), if_neg (by omega), p1 i k k5 k7]; rfl
          · show (if i = i ∧ 5 = 9 then 0 else if i = i ∧ 5 = 8 then 1 else (sPay (sQ S (S.1 1) ys) (S.1 1) i).2.2.2.1 i 5) ≤ 100
            rw [if_neg (by omega), if_neg (by omega), p3]
            have : (sQ S (S.1 1) ys).2.2.2.1 i 5 ≤ 100 := hci.2.2.2.2.1
            omega
          · show (if i = i ∧ 7 = 9 then 0 else if i = i ∧ 7 = 8 then 1 else (sPay (sQ S (S.1 1) ys) (S.1 1) i).2.2.2.1 i 7) ≤ 1
            rw [if_neg (by omega), if_neg (by omega), p4]
            exact Nat.le_refl _
          · exact p5
          · simp [sC, sQ]
      · rw [if_neg (fun q => hp q.1), if_neg hp] at hS
        rw [hS]
        refine go _ 1 (S.2.1 2 ++ [i]) rfl (fun e he => ?_) ?_ (fun j hj k => ?_) ?_ (fun k h1 h7 k5 k7 => ?_) ?_ ?_ rfl (Or.inr ⟨rfl, rfl, ?_, hfree⟩)
        · simp only [sQ, sC]; rw [if_neg (by omega)]
        · show (if 2 = S.1 1 then ys else S.2.1 2) ++ [i] = _
          rw [if_neg (by omega)]
        · simp [sC, sQ, hj]
        · simp [sC, sQ]
        · show (if i = i ∧ k = 9 then 0 else if i = i ∧ k = 8 then 1 else S.2.2.2.1 i k) = _
          rw [if_neg (by omega), if_neg (by omega)]
        · simp [sC, sQ]; exact hci.2.2.2.2.1
        · simp [sC, sQ]; exact hci.2.2.2.2.2.2.1
        · simp [sC, sQ]
    · have : sCome S = S := by unfold sCome; rw [hq]; simp [hroom]
      rw [this]; exact h
def sMove (S : gSt) : gSt × Nat := match S.2.1 2 with
  | [] => (S, 0)
  | i :: _ => if S.2.2.2.1 i 1 = S.1 1 then sGoOn S else (sGoBack S, 0)
def sTick (S : gSt) : gSt × Nat := (sN (sCome (sMove S).1) 0 ((sCome (sMove S).1).1 0 + 1), (sMove S).2)
def sRun : Nat → gSt → gSt × Nat
  | 0, S => (S, 0)
  | n + 1, S => ((sRun n (sTick S).1).1, (sTick S).2 + (sRun n (sTick S).1).2)
theorem WF.move {S : gSt} (h : WF S) : WF (sMove S).1 := by
  unfold sMove
  split
  · exact h
  · split
    · exact h.goOn
    · exact h.goBack
theorem sMove_num {S : gSt} (h : WF S) : (sMove S).1.1 = S.1 := by
  unfold sMove
  split
  · rfl
  · split
    · exact sGoOn_num S
    · exact sGoBack_num S h
theorem sCome_num (S : gSt) : (sCome S).1 = S.1 := by
  cases hq : S.2.1 (S.1 1) with
  | nil => unfold sCome; rw [hq]
  | cons i ys =>
    by_cases hroom : sRoom S i = true
    · rw [sCome_eq hq hroom]
      split
      · rfl
      · show (if (sQ S (S.1 1) ys).2.2.2.1 i 7 = 0 then sPay (sQ S (S.1 1) ys) (S.1 1) i else sQ S (S.1 1) ys).1 = S.1
        split
        · rfl
        · rfl
    · unfold sCome; rw [hq]; simp [hroom]
theorem WF.tick1 {S : gSt} (h : WF S) : WF (sN S 0 (S.1 0 + 1)) := by
  have e : ∀ k, k ≠ 0 → (sN S 0 (S.1 0 + 1)).1 k = S.1 k := fun k hk => by simp [sN, hk]
  refine ⟨?_, fun i hi => ?_, fun x he => ?_, h.2.2.2.1, fun i => ?_, fun i hi => ?_, h.2.2.2.2.2.2.1, fun i hi h8 => ?_⟩
  · unfold sNumOk
    rw [e 1 (by decide), e 2 (by decide), e 3 (by decide), e 4 (by decide), e 5 (by decide), e 6 (by decide)]
    exact h.1
  · rw [e 6 (by decide)] at hi
    exact (h.2.1 i hi).of (fun _ _ _ => rfl) (h.2.1 i hi).2.2.2.2.2.2.2
  · rw [e 6 (by decide)]
    exact h.2.2.1 x he
  · rw [e 6 (by decide)]
    exact h.2.2.2.2.1 i
  · rw [e 2 (by decide)]
    exact h.2.2.2.2.2.1 i hi
  · rw [e 6 (by decide)] at hi
    obtain ⟨t, h1, h2⟩ := h.2.2.2.2.2.2.2 i hi h8
    exact ⟨t, by simp [sN]; omega, h2⟩
theorem WF.tick {S : gSt} (h : WF S) : WF (sTick S).1 := h.move.come.tick1
theorem WF.run : ∀ (n : Nat) {S : gSt}, WF S → WF (sRun n S).1 := by
  intro n
  induction n with
  | zero => intro S h; exact h
  | succ n ih => intro S h; exact ih h.tick
