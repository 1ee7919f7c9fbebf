/-! a cart comes -/
def nwC (e ax wt pc cn ch k : Nat) : Nat := match k with
  | 1 => e
  | 2 => ax
  | 3 => wt
  | 4 => pc
  | 5 => cn
  | 6 => ch
  | _ => 0
def sNew (S : gSt) (e ax wt pc cn ch : Nat) : gSt := (fun k => if k = 6 then S.1 6 + 1 else S.1 k, fun r => if r = e then S.2.1 e ++ [S.1 6] else S.2.1 r, S.2.2.1, fun i k => if i = S.1 6 then nwC e ax wt pc cn ch k else S.2.2.2.1 i k, fun i => if i = S.1 6 then -1 else S.2.2.2.2 i)
theorem WF.new {S : gSt} (h : WF S) (hn : S.1 6 < 16) {e ax wt pc cn ch : Nat} (he : e < 2) (hax : 1 ≤ ax ∧ ax ≤ 4) (hwt : wt ≤ 200) (hpc : 1 ≤ pc ∧ pc ≤ 3) (hcn : cn ≤ 100) (hch : ch ≤ 1) : WF (sNew S e ax wt pc cn ch) := by
  have hcr : ∀ i ∈ S.2.1 2, i ≠ S.1 6 := fun i hi => by have := h.mem hi; omega
  have q2 : (sNew S e ax wt pc cn ch).2.1 2 = S.2.1 2 := if_neg (by omega)
  have co : ∀ i, i ≠ S.1 6 → ∀ k, (sNew S e ax wt pc cn ch).2.2.2.1 i k = S.2.2.2.1 i k := fun i hi k => if_neg hi
  have cn' : ∀ k, (sNew S e ax wt pc cn ch).2.2.2.1 (S.1 6) k = nwC e ax wt pc cn ch k := fun k => if_pos rfl
  have n6 : (sNew S e ax wt pc cn ch).1 6 = S.1 6 + 1 := rfl
  have nk : ∀ k, k ≠ 6 → (sNew S e ax wt pc cn ch).1 k = S.1 k := fun k hk => if_neg hk
  refine ⟨?_, fun i hi => ?_, fun x hx => ?_, ?_, fun i => ?_, fun i hi => ?_, fun i hi j hj => ?_, fun i hi h8 => ?_⟩
  · obtain ⟨a, b, c, d, y, z⟩ := h.1
    exact ⟨a, b, c, d, y, hn⟩
  · rw [n6] at hi
    by_cases hin : i = S.1 6
    · subst hin
      exact ⟨by rw [cn']; exact Nat.le_of_lt_succ he, by rw [cn']; exact hax, by rw [cn']; exact hwt, by rw [cn']; exact hpc, by rw [cn']; exact hcn, by rw [cn']; exact hch, by rw [cn']; exact Nat.zero_le _, by rw [cn']; exact Nat.zero_le _⟩
    · exact (h.2.1 i (by omega)).of (fun k _ _ => co i hin k) (by rw [co i hin]; exact (h.2.1 i (by omega)).2.2.2.2.2.2.2)
  · have hnot : S.1 6 ∉ S.2.1 x := fun q => by have := (h.qmem hx q).1; omega
    have hq := h.2.2.1 x hx
    by_cases hxe : x = e
    · subst hxe
      have qx : (sNew S x ax wt pc cn ch).2.1 x = S.2.1 x ++ [S.1 6] := if_pos rfl
      rw [qx]
      refine ⟨List.nodup_append.mpr ⟨hq.1, by simp, fun a ha c hc q => hnot (by rw [List.mem_singleton.mp hc] at q; exact q ▸ ha)⟩, fun i => ?_⟩
      rw [List.mem_append, List.mem_singleton, n6]
      by_cases hin : i = S.1 6
      · subst hin
        rw [cn', cn']
        exact ⟨fun _ => ⟨Nat.lt_succ_self _, rfl, rfl⟩, fun _ => Or.inr rfl⟩
      · rw [co i hin, co i hin]
        constructor
        · rintro (q | q)
          · obtain ⟨a, b, c⟩ := (hq.2 i).mp q; exact ⟨by omega, b, c⟩
          · exact absurd q hin
        · rintro ⟨a, b, c⟩; exact Or.inl ((hq.2 i).mpr ⟨by omega, b, c⟩)
    · have qx : (sNew S e ax wt pc cn ch).2.1 x = S.2.1 x := if_neg hxe
      rw [qx]
      refine ⟨hq.1, fun i => ?_⟩
      rw [n6]
      by_cases hin : i = S.1 6
      · subst hin
        rw [cn', cn']
        constructor
        · intro q; exact absurd q hnot
        · rintro ⟨-, -, q⟩; exact absurd q.symm hxe
      · rw [co i hin, co i hin, hq.2 i]
        constructor
        · rintro ⟨a, b, c⟩; exact ⟨by omega, b, c⟩
        · rintro ⟨a, b, c⟩; exact ⟨by omega, b, c⟩
  · rw [q2]
    exact h.2.2.2.1.imp_of_mem (fun {a c} ha hc z => by rw [co c (hcr c hc), co a (hcr a ha)]; exact z)
  · rw [q2, n6]
    by_cases hin : i = S.1 6
    · subst hin
      rw [cn']
      constructor
      · intro q; exact absurd rfl (hcr _ q)
      · rintro ⟨-, q⟩; cases q
    · rw [co i hin, h.2.2.2.2.1 i]
      constructor
      · rintro ⟨a, b⟩; exact ⟨by omega, b⟩
      · rintro ⟨a, b⟩; exact ⟨by omega, b⟩
  · rw [q2] at hi
    rw [co i (hcr i hi), nk 2 (by decide)]
    exact h.2.2.2.2.2.1 i hi
  · rw [q2] at hi hj
    rw [co i (hcr i hi), co j (hcr j hj)]
    exact h.2.2.2.2.2.2.1 i hi j hj
  · rw [n6] at hi
    by_cases hin : i = S.1 6
    · subst hin
      rw [cn'] at h8
      cases h8
    · rw [co i hin] at h8
      rw [nk 0 (by decide)]
      show ∃ t : Nat, t ≤ S.1 0 ∧ (if i = S.1 6 then -1 else S.2.2.2.2 i) = nI t
      rw [if_neg hin]
      exact h.2.2.2.2.2.2.2 i (by omega) h8
def oCome (w : gWd) (e ax wt pc cn ch : Int32) : gOu := if ixB e 2 ∧ inB ax 1 4 ∧ inB wt 1 200 ∧ inB pc 1 3 ∧ inB cn 0 100 then (if w.1.1 6 = 16 then (2, 0, w) else (0, nI (w.1.1 6), (sNew w.1 e.toNatClampNeg ax.toNatClampNeg wt.toNatClampNeg pc.toNatClampNeg cn.toNatClampNeg ch.toNatClampNeg, w.2))) else (1, 0, w)
theorem wOk.come {w : gWd} (h : wOk w) (e ax wt pc cn : Int32) {c : Nat} (hc : c ≤ 1) : wOk (oCome w e ax wt pc cn (nI c)).2.2 := by
  unfold oCome
  split
  · rename_i h1
    obtain ⟨q1, q2, q3, q4, q5⟩ := h1
    split
    · exact h
    · rename_i h6
      have := h.1.1.2.2.2.2.2
      obtain ⟨j1, a1, rfl⟩ := (ixB_iff (n := 2) (by decide)).mp q1
      obtain ⟨j2, b1, b2, rfl⟩ := (inB_iff (a := 1) (n := 4) (by decide) (by decide)).mp q2
      obtain ⟨j3, c1, c2, rfl⟩ := (inB_iff (a := 1) (n := 200) (by decide) (by decide)).mp q3
      obtain ⟨j4, d1, d2, rfl⟩ := (inB_iff (a := 1) (n := 3) (by decide) (by decide)).mp q4
      obtain ⟨j5, e1, e2, rfl⟩ := (inB_iff (a := 0) (n := 100) (by decide) (by decide)).mp q5
      refine ⟨?_, h.2⟩
      show WF (sNew w.1 (nI j1).toNatClampNeg (nI j2).toNatClampNeg (nI j3).toNatClampNeg (nI j4).toNatClampNeg (nI j5).toNatClampNeg (nI c).toNatClampNeg)
      rw [nI_clamp (n := j1) (by omega), nI_clamp (n := j2) (by omega), nI_clamp (n := j3) (by omega), nI_clamp (n := j4) (by omega), nI_clamp (n := j5) (by omega), nI_clamp (n := c) (by omega)]
      exact h.1.new (by omega) a1 ⟨b1, b2⟩ c2 ⟨d1, d2⟩ e2 hc
  · exact h

