/-! carts that have not come yet stay as they were made -/
def frS (n : Nat) (S T : gSt) : Prop := ∀ i, n ≤ i → T.2.2.2.1 i = S.2.2.2.1 i ∧ T.2.2.2.2 i = S.2.2.2.2 i
theorem frS.rf {n : Nat} {S : gSt} : frS n S S := fun _ _ => ⟨rfl, rfl⟩
theorem frS.trans {n : Nat} {S T U : gSt} (h : frS n S T) (h2 : frS n T U) : frS n S U := fun i hi => ⟨(h2 i hi).1.trans (h i hi).1, (h2 i hi).2.trans (h i hi).2⟩
theorem frS.sC {n : Nat} (S : gSt) {i : Nat} (k v : Nat) (hi : i < n) : frS n S (sC S i k v) := fun j hj => ⟨funext fun k' => if_neg (fun q => by omega), rfl⟩
theorem frS.sO {n : Nat} (S : gSt) {i : Nat} (v : Int32) (hi : i < n) : frS n S (sO S i v) := fun j hj => ⟨rfl, if_neg (fun q => by omega)⟩
theorem frS.sQ {n : Nat} (S : gSt) (r : Nat) (xs : List Nat) : frS n S (sQ S r xs) := fun _ _ => ⟨rfl, rfl⟩
theorem frS.sG {n : Nat} (S : gSt) (e k v : Nat) : frS n S (sG S e k v) := fun _ _ => ⟨rfl, rfl⟩
theorem frS.sN {n : Nat} (S : gSt) (k v : Nat) : frS n S (sN S k v) := fun _ _ => ⟨rfl, rfl⟩
theorem goOnL_fr (pl tk n : Nat) : ∀ (is : List Nat) (lim : Nat) (S : gSt), (∀ i ∈ is, i < n) → frS n S (goOnL pl tk is lim S).1 := by
  intro is
  induction is with
  | nil => intro lim S _; exact frS.rf
  | cons i is ih =>
    intro lim S h
    have hi := h i List.mem_cons_self
    have hr : ∀ j ∈ is, j < n := fun j hj => h j (List.mem_cons_of_mem _ hj)
    unfold goOnL
    split
    · exact (frS.sC S 9 _ hi).trans (ih _ _ hr)
    · exact ((frS.sC S 8 2 hi).trans (frS.sO _ _ hi)).trans (ih _ _ hr)
theorem backL_fr (n : Nat) : ∀ (is : List Nat) (S : gSt), (∀ i ∈ is, i < n) → frS n S (backL is S) := by
  intro is
  induction is with
  | nil => intro S _; exact frS.rf
  | cons i is ih =>
    intro S h
    exact (frS.sC S 9 _ (h i List.mem_cons_self)).trans (ih _ (fun j hj => h j (List.mem_cons_of_mem _ hj)))
theorem sLeave_fr {n : Nat} (S : gSt) {l : Nat} (ys : List Nat) (hl : l < n) : frS n S (sLeave S l ys) := ((frS.sC S 8 0 hl).trans (frS.sQ _ _ _)).trans (frS.sQ _ _ _)
theorem sGoBack_fr {S : gSt} (h : WF S) : frS (S.1 6) S (sGoBack S) := by
  have hm : ∀ i ∈ (S.2.1 2).reverse, i < S.1 6 := fun i hi => h.mem (List.mem_reverse.mp hi)
  unfold sGoBack
  split
  · exact frS.rf
  · rename_i l rs e
    rw [e] at hm
    split
    · exact (sLeave_fr S rs.reverse (hm l List.mem_cons_self)).trans (backL_fr _ _ _ (fun j hj => hm j (List.mem_cons_of_mem _ hj)))
    · exact backL_fr _ _ _ hm
theorem sMove_fr {S : gSt} (h : WF S) : frS (S.1 6) S (sMove S).1 := by
  unfold sMove
  split
  · exact frS.rf
  · split
    · exact (goOnL_fr _ _ _ _ _ S (fun i hi => h.mem hi)).trans (frS.sQ _ _ _)
    · exact sGoBack_fr h
theorem sTake_fr {n : Nat} (S : gSt) (e i pd hn : Nat) : frS n S (sTake S e i pd hn) := fun _ _ => ⟨rfl, rfl⟩
theorem sPay_fr {n : Nat} (S : gSt) (e : Nat) {i : Nat} (hi : i < n) : frS n S (sPay S e i) := ((frS.sC S 5 _ hi).trans (frS.sC _ 7 1 hi)).trans (sTake_fr _ _ _ _ _)
theorem sCome_fr {S : gSt} (h : WF S) : frS (S.1 6) S (sCome S) := by
  have hd : S.1 1 < 2 := by have := h.1.1; omega
  unfold sCome
  split
  · exact frS.rf
  · rename_i i ys e
    have hi : i < S.1 6 := (h.qmem hd (by rw [e]; exact List.mem_cons_self)).1
    split
    · simp only
      split
      · exact (frS.sQ S _ ys).trans (frS.sC _ 8 3 hi)
      · refine (frS.sQ S (S.1 1) ys).trans ?_
        refine frS.trans ?_ (((frS.sC _ 8 1 hi).trans (frS.sC _ 9 0 hi)).trans (frS.sQ _ _ _))
        split
        · exact sPay_fr _ _ hi
        · exact frS.rf
    · exact frS.rf
def Fr (S : gSt) : Prop := ∀ i, S.1 6 ≤ i → i < 16 → S.2.2.2.1 i 7 = 0 ∧ S.2.2.2.1 i 8 = 0 ∧ S.2.2.2.1 i 9 = 0 ∧ S.2.2.2.2 i = -1
theorem Fr.of {S T : gSt} (h : Fr S) (h6 : T.1 6 = S.1 6) (hf : frS (S.1 6) S T) : Fr T := fun i hi h16 => by
  rw [h6] at hi
  rw [(hf i hi).1, (hf i hi).2]
  exact h i hi h16
theorem Fr.tick {S : gSt} (h : Fr S) (hw : WF S) : Fr (sTick S).1 := by
  have h1 := h.of (congrFun (sMove_num hw) 6) (sMove_fr hw)
  have h2 := h1.of (congrFun (sCome_num _) 6) (sCome_fr hw.move)
  exact h2.of rfl (frS.sN _ _ _)
theorem Fr.run : ∀ (n : Nat) {S : gSt}, Fr S → WF S → Fr (sRun n S).1
  | 0, _, h, _ => h
  | n + 1, _, h, hw => Fr.run n (h.tick hw) hw.tick
/-- the world is well, carts to come included -/
def vOk (w : gWd) : Prop := wOk w ∧ Fr w.1
theorem vOk.fog {w : gWd} (h : vOk w) (x y : Int32) : vOk (oFog w x y).2.2 := ⟨h.1.fog x y, by unfold oFog; split <;> (try split) <;> exact h.2⟩
theorem vOk.add {w : gWd} (h : vOk w) (x : Int32) : vOk (oAdd w x).2.2 := ⟨h.1.add x, by unfold oAdd; split <;> (try split) <;> exact h.2⟩
theorem vOk.build {w : gWd} (h : vOk w) (p q : Int32) : vOk (oBuild w p q).2.2 := ⟨h.1.build p q, by unfold oBuild; split <;> (try split) <;> exact h.2⟩
theorem vOk.toll {w : gWd} (h : vOk w) (p q : Int32) : vOk (oToll w p q).2.2 := ⟨h.1.toll p q, by unfold oToll; split <;> exact h.2⟩
theorem vOk.turn {w : gWd} (h : vOk w) : vOk (sTurn w.1, w.2) := ⟨h.1.turn, h.2⟩
theorem vOk.read {w : gWd} (h : vOk w) (x q : Int32) : vOk (oRead w x q).2.2 := ⟨h.1.read x q, by unfold oRead; split <;> (try split) <;> exact h.2⟩
theorem vOk.heard {w : gWd} (h : vOk w) (x : Int32) : vOk (oHeard w x).2.2 := ⟨h.1.heard x, by unfold oHeard; split <;> exact h.2⟩
theorem vOk.safe {w : gWd} (h : vOk w) (x : Int32) : vOk (oSafe w x).2.2 := ⟨h.1.safe x, by unfold oSafe; split <;> exact h.2⟩
theorem vOk.rows {w : gWd} (h : vOk w) (x : Int32) : vOk (oRows w x).2.2 := by unfold oRows; split <;> exact h
theorem vOk.count {w : gWd} (h : vOk w) (x : Int32) : vOk (oCount w x).2.2 := by unfold oCount; split <;> exact h
theorem vOk.cart {w : gWd} (h : vOk w) (x q : Int32) : vOk (oCart w x q).2.2 := ⟨h.1.cart x q, by unfold oCart; split <;> exact h.2⟩
theorem vOk.queue {w : gWd} (h : vOk w) (x q : Int32) : vOk (oQueue w x q).2.2 := ⟨h.1.queue x q, by unfold oQueue; split <;> exact h.2⟩
theorem vOk.box {w : gWd} (h : vOk w) (x q : Int32) : vOk (oBox w x q).2.2 := ⟨h.1.box x q, by unfold oBox; split <;> exact h.2⟩
theorem vOk.over {w : gWd} (h : vOk w) (x : Int32) : vOk (oOver w x).2.2 := ⟨h.1.over x, by unfold oOver; split <;> exact h.2⟩
theorem vOk.see {w : gWd} (h : vOk w) (x q : Int32) : vOk (oSee w x q).2.2 := ⟨h.1.see x q, by unfold oSee; split <;> (try split) <;> exact h.2⟩
theorem vOk.empty {w : gWd} (h : vOk w) (e : Int32) : vOk (oEmpty w e).2.2 := ⟨h.1.empty e, by unfold oEmpty; split <;> exact h.2⟩
theorem vOk.pass {w : gWd} (h : vOk w) (x : Int32) : vOk (oPass w x).2.2 := ⟨h.1.pass x, by unfold oPass; split <;> first | exact h.2.run _ h.1.1 | exact h.2⟩
theorem Fr.new {S : gSt} (h : Fr S) (e ax wt pc cn ch : Nat) : Fr (sNew S e ax wt pc cn ch) := fun i hi h16 => by
  have hi : S.1 6 + 1 ≤ i := hi
  have hin : i ≠ S.1 6 := by omega
  have e1 : ∀ k, (sNew S e ax wt pc cn ch).2.2.2.1 i k = S.2.2.2.1 i k := fun k => if_neg hin
  have e2 : (sNew S e ax wt pc cn ch).2.2.2.2 i = S.2.2.2.2 i := if_neg hin
  rw [e1, e1, e1, e2]
  exact h i (by omega) h16
theorem vOk.come {w : gWd} (h : vOk w) (e ax wt pc cn : Int32) {c : Nat} (hc : c ≤ 1) : vOk (oCome w e ax wt pc cn (nI c)).2.2 := ⟨h.1.come e ax wt pc cn hc, by
  unfold oCome
  split
  · split
    · exact h.2
    · exact h.2.new _ _ _ _ _ _
  · exact h.2⟩

