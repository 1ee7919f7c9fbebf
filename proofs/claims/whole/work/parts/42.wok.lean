/-! what each call keeps -/
theorem wOk.fog {w : gWd} (h : wOk w) (x y : Int32) : wOk (oFog w x y).2.2 := by
  unfold oFog
  split
  · split
    · rename_i h2
      obtain ⟨z, -, hz, rfl⟩ := (inB_iff (a := 0) (n := 9) (by decide) (by decide)).mp h2
      refine ⟨h.1, h.2.1, fun j hj => ?_⟩
      show (if j = _ then _ else w.2.2 j) ≤ 9
      split
      · rw [nI_clamp (by omega)]; exact hz
      · exact h.2.2 j hj
    · exact h
  · exact h
theorem wOk.add {w : gWd} (h : wOk w) (x : Int32) : wOk (oAdd w x).2.2 := by
  unfold oAdd
  split
  · rename_i h1
    split
    · exact h
    · rename_i h2
      have h8 := h.2.1.1
      unfold rowX at h1
      rw [Bool.and_eq_true] at h1
      obtain ⟨r1, r2, r3⟩ := rowB_iff.mp h1.2
      have h9 : w.2.1.1 ≠ 8 := fun q => h2 (Or.inr q)
      exact ⟨h.1, h.2.1.add (by omega) r3 (lt_nLen 6 r2) r1, h.2.2⟩
  · exact h
theorem WF.build {S : gSt} (h : WF S) (h0 : S.2.1 2 = []) {p q : Nat} (hp : 4 ≤ p ∧ p ≤ 30) (hq : q ≤ 500) : WF (sPB S p q) := by
  obtain ⟨⟨a, b, c, d, e, f⟩, h2, h3, h4, h5, h6, h7, h8⟩ := h
  refine ⟨⟨a, hp, hq, d, e, f⟩, h2, h3, h4, h5, fun i hi => ?_, h7, h8⟩
  have hi : i ∈ S.2.1 2 := hi
  rw [h0] at hi
  cases hi
theorem wOk.build {w : gWd} (h : wOk w) (p q : Int32) : wOk (oBuild w p q).2.2 := by
  unfold oBuild
  split
  · rename_i h1
    split
    · rename_i h0
      obtain ⟨j, j1, j2, rfl⟩ := (inB_iff (a := 4) (n := 30) (by decide) (by decide)).mp h1.1
      obtain ⟨z, z1, z2, rfl⟩ := (inB_iff (a := 10) (n := 500) (by decide) (by decide)).mp h1.2
      refine ⟨h.1.build h0 ?_ ?_, h.2⟩
      · rw [nI_clamp (by omega)]; exact ⟨j1, j2⟩
      · rw [nI_clamp (by omega)]; exact z2
    · exact h
  · exact h
theorem WF.toll {S : gSt} (h : WF S) {p q : Nat} (hp : p ≤ 9) (hq : q ≤ 9) : WF (sN (sN S 4 p) 5 q) := by
  obtain ⟨⟨a, b, c, d, e, f⟩, h2, h3, h4, h5, h6, h7, h8⟩ := h
  exact ⟨⟨a, b, c, hp, hq, f⟩, h2, h3, h4, h5, h6, h7, h8⟩
theorem wOk.toll {w : gWd} (h : wOk w) (p q : Int32) : wOk (oToll w p q).2.2 := by
  unfold oToll
  split
  · rename_i h1
    obtain ⟨j, j1, j2, rfl⟩ := (inB_iff (a := 0) (n := 9) (by decide) (by decide)).mp h1.1
    obtain ⟨z, z1, z2, rfl⟩ := (inB_iff (a := 0) (n := 9) (by decide) (by decide)).mp h1.2
    refine ⟨h.1.toll ?_ ?_, h.2⟩
    · rw [nI_clamp (by omega)]; exact j2
    · rw [nI_clamp (by omega)]; exact z2
  · exact h
theorem wOk.turn {w : gWd} (h : wOk w) : wOk (sTurn w.1, w.2) := ⟨h.1.turn, h.2⟩
theorem wOk.read {w : gWd} (h : wOk w) (x q : Int32) : wOk (oRead w x q).2.2 := by
  unfold oRead
  split
  · split <;> exact h
  · exact h
theorem wOk.heard {w : gWd} (h : wOk w) (x : Int32) : wOk (oHeard w x).2.2 := by unfold oHeard; split <;> exact h
theorem wOk.safe {w : gWd} (h : wOk w) (x : Int32) : wOk (oSafe w x).2.2 := by unfold oSafe; split <;> exact h
theorem wOk.cart {w : gWd} (h : wOk w) (x q : Int32) : wOk (oCart w x q).2.2 := by unfold oCart; split <;> exact h
theorem wOk.queue {w : gWd} (h : wOk w) (x q : Int32) : wOk (oQueue w x q).2.2 := by unfold oQueue; split <;> exact h
theorem wOk.box {w : gWd} (h : wOk w) (x q : Int32) : wOk (oBox w x q).2.2 := by unfold oBox; split <;> exact h
theorem wOk.over {w : gWd} (h : wOk w) (x : Int32) : wOk (oOver w x).2.2 := by unfold oOver; split <;> exact h
theorem wOk.see {w : gWd} (h : wOk w) (x q : Int32) : wOk (oSee w x q).2.2 := by
  unfold oSee
  split
  · split <;> exact h
  · exact h
theorem WF.box {S : gSt} (h : WF S) (e k v : Nat) : WF (sG S e k v) := h
theorem wOk.empty {w : gWd} (h : wOk w) (e : Int32) : wOk (oEmpty w e).2.2 := by
  unfold oEmpty
  split
  · exact ⟨(h.1.box _ _ _).box _ _ _, h.2⟩
  · exact h
theorem wOk.pass {w : gWd} (h : wOk w) (x : Int32) : wOk (oPass w x).2.2 := by
  unfold oPass
  split
  · exact ⟨h.1.run _, h.2⟩
  · exact h

