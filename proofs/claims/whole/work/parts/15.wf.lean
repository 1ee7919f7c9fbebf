/-! what a tick keeps: pure facts of S -/
theorem dec_ne {S : gSt} {i : Nat} {is : List Nat} (h : ∀ k ∈ is, S.2.2.2.1 k 9 < S.2.2.2.1 i 9) : i ∉ is := fun q => Nat.lt_irrefl _ (h i q)
/-- what goOnL leaves as it is -/
theorem goOnL_same (pl tk : Nat) : ∀ (is : List Nat) (lim : Nat) (S : gSt), (goOnL pl tk is lim S).1.1 = S.1 ∧ (goOnL pl tk is lim S).1.2.1 = S.2.1 ∧ (goOnL pl tk is lim S).1.2.2.1 = S.2.2.1 ∧ (∀ i k, k ≠ 8 → k ≠ 9 → (goOnL pl tk is lim S).1.2.2.2.1 i k = S.2.2.2.1 i k) ∧ (∀ i, i ∉ is → (∀ k, (goOnL pl tk is lim S).1.2.2.2.1 i k = S.2.2.2.1 i k) ∧ (goOnL pl tk is lim S).1.2.2.2.2 i = S.2.2.2.2 i) := by
  intro is
  induction is with
  | nil => intro lim S; exact ⟨rfl, rfl, rfl, fun _ _ _ _ => rfl, fun _ _ => ⟨fun _ => rfl, rfl⟩⟩
  | cons i is ih =>
    intro lim S
    unfold goOnL
    split
    · obtain ⟨a1, a2, a3, a4, a5⟩ := ih (min (S.2.2.2.1 i 9 + S.2.2.2.1 i 4) (lim - 1)) (sC S i 9 (min (S.2.2.2.1 i 9 + S.2.2.2.1 i 4) (lim - 1)))
      refine ⟨a1, a2, a3, fun j k h8 h9 => ?_, fun j hj => ?_⟩
      · rw [a4 j k h8 h9]; simp [sC, h9]
      · have h1 : j ≠ i := fun q => hj (by rw [q]; exact List.mem_cons_self)
        obtain ⟨b1, b2⟩ := a5 j (fun q => hj (List.mem_cons_of_mem _ q))
        exact ⟨fun k => by rw [b1 k]; simp [sC, h1], b2⟩
    · obtain ⟨a1, a2, a3, a4, a5⟩ := ih lim (sO (sC S i 8 2) i (nI tk))
      refine ⟨a1, a2, a3, fun j k h8 h9 => ?_, fun j hj => ?_⟩
      · rw [a4 j k h8 h9]; simp [sO, sC, h8]
      · have h1 : j ≠ i := fun q => hj (by rw [q]; exact List.mem_cons_self)
        obtain ⟨b1, b2⟩ := a5 j (fun q => hj (List.mem_cons_of_mem _ q))
        exact ⟨fun k => by rw [b1 k]; simp [sO, sC, h1], by rw [b2]; simp [sO, sC, h1]⟩
/-- what goOnL does: the first ones are over, the others go on -/
theorem goOnL_spec (pl tk : Nat) : ∀ (is : List Nat) (lim : Nat) (S : gSt), is.Pairwise (fun i j => S.2.2.2.1 j 9 < S.2.2.2.1 i 9) → (∀ i ∈ is, S.2.2.2.1 i 9 < lim) → (lim ≤ pl → (goOnL pl tk is lim S).2 = 0) ∧
    (∀ i ∈ is.take (goOnL pl tk is lim S).2, (goOnL pl tk is lim S).1.2.2.2.1 i 8 = 2 ∧ (goOnL pl tk is lim S).1.2.2.2.2 i = nI tk) ∧
    (∀ i ∈ is.drop (goOnL pl tk is lim S).2, (goOnL pl tk is lim S).1.2.2.2.1 i 8 = S.2.2.2.1 i 8 ∧ (goOnL pl tk is lim S).1.2.2.2.2 i = S.2.2.2.2 i ∧ (goOnL pl tk is lim S).1.2.2.2.1 i 9 < pl ∧ (goOnL pl tk is lim S).1.2.2.2.1 i 9 < lim) ∧
    (is.drop (goOnL pl tk is lim S).2).Pairwise (fun i j => (goOnL pl tk is lim S).1.2.2.2.1 j 9 < (goOnL pl tk is lim S).1.2.2.2.1 i 9) := by
  intro is
  induction is with
  | nil => intro lim S _ _; exact ⟨fun _ => rfl, fun i h => by simp at h, fun i h => by simp at h, by simp⟩
  | cons i is ih =>
    intro lim S hp hl
    rw [List.pairwise_cons] at hp
    have hi := hl i List.mem_cons_self
    have hni := dec_ne hp.1
    unfold goOnL
    split
    · rename_i hlt
      have hw : S.2.2.2.1 i 9 ≤ min (S.2.2.2.1 i 9 + S.2.2.2.1 i 4) (lim - 1) := by omega
      have hwl : min (S.2.2.2.1 i 9 + S.2.2.2.1 i 4) (lim - 1) < lim := by omega
      generalize min (S.2.2.2.1 i 9 + S.2.2.2.1 i 4) (lim - 1) = w at hlt hw hwl ⊢
      have e : ∀ k ∈ is, (sC S i 9 w).2.2.2.1 k 9 = S.2.2.2.1 k 9 := fun k hk => by
        have : k ≠ i := fun q => hni (q ▸ hk)
        simp [sC, this]
      have hp2 : is.Pairwise (fun a c => (sC S i 9 w).2.2.2.1 c 9 < (sC S i 9 w).2.2.2.1 a 9) := hp.2.imp_of_mem (fun ha hc q => by rw [e _ ha, e _ hc]; exact q)
      obtain ⟨b0, b1, b2, b3⟩ := ih w (sC S i 9 w) hp2 (fun k hk => by rw [e k hk]; have := hp.1 k hk; omega)
      have h0 := b0 (Nat.le_of_lt hlt)
      rw [h0] at b1 b2 b3 ⊢
      obtain ⟨-, -, -, -, s5⟩ := goOnL_same pl tk is w (sC S i 9 w)
      obtain ⟨s6, s7⟩ := s5 i hni
      have hwi : (goOnL pl tk is w (sC S i 9 w)).1.2.2.2.1 i 9 = w := by rw [s6]; simp [sC]
      rw [List.drop_zero] at b2 b3 ⊢
      refine ⟨fun _ => rfl, fun k h => by simp at h, fun k hk => ?_, ?_⟩
      · rcases List.mem_cons.mp hk with q | q
        · subst q
          exact ⟨by rw [s6]; simp [sC], by rw [s7]; rfl, by rw [hwi]; exact hlt, by rw [hwi]; exact hwl⟩
        · obtain ⟨c1, c2, c3, c4⟩ := b2 k q
          have : k ≠ i := fun z => hni (z ▸ q)
          exact ⟨by rw [c1]; simp [sC, this], by rw [c2]; rfl, c3, Nat.lt_trans c4 hwl⟩
      · rw [List.pairwise_cons]
        exact ⟨fun k hk => by rw [hwi]; exact (b2 k hk).2.2.2, b3⟩
    · rename_i hge
      have e : ∀ k ∈ is, (sO (sC S i 8 2) i (nI tk)).2.2.2.1 k 9 = S.2.2.2.1 k 9 := fun k hk => by simp [sO, sC]
      have hp2 : is.Pairwise (fun a c => (sO (sC S i 8 2) i (nI tk)).2.2.2.1 c 9 < (sO (sC S i 8 2) i (nI tk)).2.2.2.1 a 9) := hp.2.imp_of_mem (fun ha hc q => by rw [e _ ha, e _ hc]; exact q)
      obtain ⟨b0, b1, b2, b3⟩ := ih lim (sO (sC S i 8 2) i (nI tk)) hp2 (fun k hk => by rw [e k hk]; exact hl k (List.mem_cons_of_mem _ hk))
      obtain ⟨-, -, -, -, s5⟩ := goOnL_same pl tk is lim (sO (sC S i 8 2) i (nI tk))
      obtain ⟨s6, s7⟩ := s5 i hni
      refine ⟨fun q => absurd hge (by omega), fun k hk => ?_, fun k hk => ?_, ?_⟩
      · rw [List.take_succ_cons] at hk
        rcases List.mem_cons.mp hk with q | q
        · subst q
          exact ⟨by rw [s6]; simp [sO, sC], by rw [s7]; simp [sO]⟩
        · exact b1 k q
      · rw [List.drop_succ_cons] at hk
        obtain ⟨c1, c2, c3, c4⟩ := b2 k hk
        have : k ≠ i := fun z => hni (z ▸ List.mem_of_mem_drop hk)
        exact ⟨by rw [c1]; simp [sO, sC, this], by rw [c2]; simp [sO, sC, this], c3, c4⟩
      · rw [List.drop_succ_cons]
        exact b3
theorem sGoOn_num (S : gSt) : (sGoOn S).1.1 = S.1 := (goOnL_same _ _ _ _ S).1
theorem WF.goOn {S : gSt} (h : WF S) : WF (sGoOn S).1 := by
  obtain ⟨a1, a2, a3, a4, a5⟩ := goOnL_same (S.1 2) (S.1 0) (S.2.1 2) (S.1 2 + 4) S
  obtain ⟨b0, b1, b2, b3⟩ := goOnL_spec (S.1 2) (S.1 0) (S.2.1 2) (S.1 2 + 4) S h.2.2.2.1 (fun i hi => by have := h.2.2.2.2.2.1 i hi; omega)
  unfold sGoOn
  generalize goOnL (S.1 2) (S.1 0) (S.2.1 2) (S.1 2 + 4) S = r at *
  have hn : (sQ r.1 2 ((S.2.1 2).drop r.2)).1 = S.1 := a1
  have hmem : ∀ i, i ∈ S.2.1 2 → i ∈ (S.2.1 2).take r.2 ∨ i ∈ (S.2.1 2).drop r.2 := fun i hi => by
    rw [← List.take_append_drop r.2 (S.2.1 2)] at hi
    exact List.mem_append.mp hi
  have hst : ∀ i, r.1.2.2.2.1 i 8 = S.2.2.2.1 i 8 ∨ (r.1.2.2.2.1 i 8 = 2 ∧ S.2.2.2.1 i 8 = 1 ∧ i ∈ (S.2.1 2).take r.2) := fun i => by
    by_cases hi : i ∈ S.2.1 2
    · rcases hmem i hi with q | q
      · exact Or.inr ⟨(b1 i q).1, ((h.2.2.2.2.1 i).mp hi).2, q⟩
      · exact Or.inl (b2 i q).1
    · exact Or.inl ((a5 i hi).1 8)
  refine ⟨?_, fun i hi => ?_, fun e he => ?_, ?_, fun i => ?_, fun i hi => ?_, fun i hi j hj => ?_, fun i hi h8 => ?_⟩
  · show sNumOk (r.1.1, _)
    rw [a1]
    exact h.1
  · have hi' : i < S.1 6 := by rw [← a1]; exact hi
    obtain ⟨c1, c2, c3, c4, c5, c6, c7, c8⟩ := h.2.1 i hi'
    have e := fun k (h1 : k ≠ 8) (h2 : k ≠ 9) => a4 i k h1 h2
    refine ⟨?_, ?_, ?_, ?_, ?_, ?_, ?_, ?_⟩
    · show r.1.2.2.2.1 i 1 ≤ 1; rw [e 1 (by decide) (by decide)]; exact c1
    · show 1 ≤ r.1.2.2.2.1 i 2 ∧ r.1.2.2.2.1 i 2 ≤ 4; rw [e 2 (by decide) (by decide)]; exact c2
    · show r.1.2.2.2.1 i 3 ≤ 200; rw [e 3 (by decide) (by decide)]; exact c3
    · show 1 ≤ r.1.2.2.2.1 i 4 ∧ r.1.2.2.2.1 i 4 ≤ 3; rw [e 4 (by decide) (by decide)]; exact c4
    · show r.1.2.2.2.1 i 5 ≤ 100; rw [e 5 (by decide) (by decide)]; exact c5
    · show r.1.2.2.2.1 i 6 ≤ 1; rw [e 6 (by decide) (by decide)]; exact c6
    · show r.1.2.2.2.1 i 7 ≤ 1; rw [e 7 (by decide) (by decide)]; exact c7
    · show r.1.2.2.2.1 i 8 ≤ 3
      rcases hst i with q | q
      · rw [q]; exact c8
      · rw [q.1]; decide
  · have hq : (sQ r.1 2 ((S.2.1 2).drop r.2)).2.1 e = S.2.1 e := by
      simp only [sQ]; rw [if_neg (by omega), a2]
    rw [hq, hn]
    refine ⟨(h.2.2.1 e he).1, fun i => ((h.2.2.1 e he).2 i).trans ?_⟩
    show _ ↔ i < S.1 6 ∧ r.1.2.2.2.1 i 8 = 0 ∧ r.1.2.2.2.1 i 1 = e
    rw [a4 i 1 (by decide) (by decide)]
    rcases hst i with q | q
    · rw [q]
    · rw [q.1, q.2.1]; simp
  · exact b3
  · show i ∈ (S.2.1 2).drop r.2 ↔ i < r.1.1 6 ∧ r.1.2.2.2.1 i 8 = 1
    rw [a1]
    constructor
    · intro q
      have h1 := (h.2.2.2.2.1 i).mp (List.mem_of_mem_drop q)
      exact ⟨h1.1, by rw [(b2 i q).1]; exact h1.2⟩
    · rintro ⟨q1, q2⟩
      rcases hst i with q | q
      · have h1 : i ∈ S.2.1 2 := (h.2.2.2.2.1 i).mpr ⟨q1, by rw [← q]; exact q2⟩
        rcases hmem i h1 with z | z
        · have := (b1 i z).1; omega
        · exact z
      · omega
  · show r.1.2.2.2.1 i 9 < r.1.1 2
    rw [a1]
    exact (b2 i hi).2.2.1
  · show r.1.2.2.2.1 i 1 = r.1.2.2.2.1 j 1
    rw [a4 i 1 (by decide) (by decide), a4 j 1 (by decide) (by decide)]
    exact h.2.2.2.2.2.2.1 i (List.mem_of_mem_drop hi) j (List.mem_of_mem_drop hj)
  · show ∃ t : Nat, t ≤ r.1.1 0 ∧ r.1.2.2.2.2 i = nI t
    rw [a1]
    have hi' : i < S.1 6 := by rw [← a1]; exact hi
    by_cases hx : i ∈ S.2.1 2
    · rcases hmem i hx with q | q
      · exact ⟨S.1 0, Nat.le_refl _, (b1 i q).2⟩
      · have h9 : r.1.2.2.2.1 i 8 = 2 := h8
        rw [(b2 i q).1, ((h.2.2.2.2.1 i).mp hx).2] at h9
        cases h9
    · have h9 : r.1.2.2.2.1 i 8 = 2 := h8
      rw [(a5 i hx).1 8] at h9
      rw [(a5 i hx).2]
      exact h.2.2.2.2.2.2.2 i hi' h9
