/-! WHAT THE LAW'S RUN KEEPS: pure facts of S -/
def sumN (f : Nat → Nat) : Nat → Nat
  | 0 => 0
  | n + 1 => sumN f n + f n
theorem sumN_congr {f g : Nat → Nat} : ∀ n, (∀ i, i < n → f i = g i) → sumN f n = sumN g n
  | 0, _ => rfl
  | n + 1, h => by
    unfold sumN
    rw [sumN_congr n (fun i hi => h i (by omega)), h n (by omega)]
theorem sumN_le {f : Nat → Nat} {b : Nat} : ∀ n, (∀ i, i < n → f i ≤ b) → sumN f n ≤ n * b
  | 0, _ => Nat.zero_le _
  | n + 1, h => by
    unfold sumN
    have h1 := sumN_le n (fun i hi => h i (by omega))
    have h2 := h n (by omega)
    rw [Nat.succ_mul]
    omega
theorem sumN_set {f g : Nat → Nat} {i : Nat} (hs : ∀ j, j ≠ i → g j = f j) : ∀ n, i < n → sumN g n + f i = sumN f n + g i
  | 0, h => by omega
  | n + 1, h => by
    unfold sumN
    by_cases hn : i = n
    · subst hn
      rw [sumN_congr (f := g) (g := f) i (fun j hj => hs j (by omega))]
      omega
    · have h1 := sumN_set hs n (by omega)
      have h2 := hs n (fun q => hn q.symm)
      omega
theorem sum_erase {f : Nat → Nat} {a : Nat} : ∀ {l : List Nat}, a ∈ l → (l.map f).sum = f a + ((l.erase a).map f).sum
  | [], h => absurd h List.not_mem_nil
  | b :: t, h => by
    by_cases hb : b = a
    · subst hb
      simp
    · have ht : a ∈ t := by
        rcases List.mem_cons.mp h with q | q
        · exact absurd q.symm hb
        · exact q
      have he : (b :: t).erase a = b :: t.erase a := by simp [hb]
      rw [he, List.map_cons, List.sum_cons, List.map_cons, List.sum_cons, sum_erase ht]
      omega
theorem sum_cnt {p : Nat → Bool} {f : Nat → Nat} : ∀ (n : Nat) {l : List Nat}, l.Nodup → (∀ i, i ∈ l ↔ (i < n ∧ p i = true)) → (l.map f).sum = sumN (fun i => if p i = true then f i else 0) n
  | 0, l, hn, h => by
    cases l with
    | nil => rfl
    | cons a l => exact absurd ((h a).mp List.mem_cons_self).1 (Nat.not_lt_zero _)
  | n + 1, l, hn, h => by
    unfold sumN
    by_cases hp : p n = true
    · have hm : n ∈ l := (h n).mpr ⟨Nat.lt_succ_self n, hp⟩
      have h1 := sum_cnt (f := f) n (l := l.erase n) (hn.erase n) (fun i => by
        rw [List.Nodup.mem_erase_iff hn, h i]
        constructor
        · rintro ⟨a, c, d⟩; exact ⟨by omega, d⟩
        · rintro ⟨a, c⟩; exact ⟨by omega, by omega, c⟩)
      rw [if_pos hp, sum_erase hm, h1]
      omega
    · rw [if_neg hp, Nat.add_zero]
      refine sum_cnt n hn (fun i => ?_)
      rw [h i]
      constructor
      · rintro ⟨a, c⟩
        have : i ≠ n := fun q => hp (q ▸ c)
        exact ⟨by omega, c⟩
      · rintro ⟨a, c⟩; exact ⟨by omega, c⟩
theorem sub_sum {f : Nat → Nat} : ∀ {l1 l2 : List Nat}, l1.Sublist l2 → (l1.map f).sum ≤ (l2.map f).sum := by
  intro l1 l2 h
  induction h with
  | slnil => exact Nat.le_refl _
  | cons a _ ih => rw [List.map_cons, List.sum_cons]; omega
  | cons_cons a _ ih => rw [List.map_cons, List.sum_cons, List.map_cons, List.sum_cons]; omega
theorem map_sum_congr {f g : Nat → Nat} : ∀ {l : List Nat}, (∀ i ∈ l, f i = g i) → (l.map f).sum = (l.map g).sum
  | [], _ => rfl
  | a :: l, h => by
    rw [List.map_cons, List.sum_cons, List.map_cons, List.sum_cons, h a List.mem_cons_self, map_sum_congr (fun i hi => h i (List.mem_cons_of_mem _ hi))]
/-- what moving leaves as it is -/
theorem mv_same {S : gSt} (h : WF S) : (sMove S).1.1 = S.1 ∧ (sMove S).1.2.2.1 = S.2.2.1 ∧ (∀ i k, k ≠ 8 → k ≠ 9 → (sMove S).1.2.2.2.1 i k = S.2.2.2.1 i k) ∧ (∀ i, (sMove S).1.2.2.2.1 i 8 ≠ 2 → (sMove S).1.2.2.2.2 i = S.2.2.2.2 i ∧ S.2.2.2.1 i 8 ≠ 2) ∧ (∀ i, (sMove S).1.2.2.2.1 i 8 = 3 ↔ S.2.2.2.1 i 8 = 3) ∧ ((sMove S).1.2.1 2).Sublist (S.2.1 2) := by
  have refl : S.1 = S.1 ∧ S.2.2.1 = S.2.2.1 ∧ (∀ i k, k ≠ 8 → k ≠ 9 → S.2.2.2.1 i k = S.2.2.2.1 i k) ∧ (∀ i, S.2.2.2.1 i 8 ≠ 2 → S.2.2.2.2 i = S.2.2.2.2 i ∧ S.2.2.2.1 i 8 ≠ 2) ∧ (∀ i, S.2.2.2.1 i 8 = 3 ↔ S.2.2.2.1 i 8 = 3) ∧ (S.2.1 2).Sublist (S.2.1 2) := ⟨rfl, rfl, fun _ _ _ _ => rfl, fun _ q => ⟨rfl, q⟩, fun _ => Iff.rfl, List.Sublist.refl _⟩
  unfold sMove
  split
  · exact refl
  · split
    · obtain ⟨a1, a2, a3, a4, a5⟩ := goOnL_same (S.1 2) (S.1 0) (S.2.1 2) (S.1 2 + 4) S
      obtain ⟨b0, b1, b2, b3⟩ := goOnL_spec (S.1 2) (S.1 0) (S.2.1 2) (S.1 2 + 4) S h.2.2.2.1 (fun i hi => by have := h.2.2.2.2.2.1 i hi; omega)
      unfold sGoOn
      generalize goOnL (S.1 2) (S.1 0) (S.2.1 2) (S.1 2 + 4) S = r at *
      have hcase : ∀ i, (r.1.2.2.2.1 i 8 = 2 ∧ S.2.2.2.1 i 8 = 1) ∨ (r.1.2.2.2.1 i 8 = S.2.2.2.1 i 8 ∧ r.1.2.2.2.2 i = S.2.2.2.2 i) := by
        intro i
        by_cases hi : i ∈ S.2.1 2
        · have hm := hi
          rw [← List.take_append_drop r.2 (S.2.1 2)] at hm
          rcases List.mem_append.mp hm with q | q
          · exact Or.inl ⟨(b1 i q).1, ((h.2.2.2.2.1 i).mp hi).2⟩
          · exact Or.inr ⟨(b2 i q).1, (b2 i q).2.1⟩
        · exact Or.inr ⟨(a5 i hi).1 8, (a5 i hi).2⟩
      refine ⟨a1, a3, a4, fun i h2 => ?_, fun i => ?_, ?_⟩
      · have h2 : r.1.2.2.2.1 i 8 ≠ 2 := h2
        rcases hcase i with q | q
        · exact absurd q.1 h2
        · exact ⟨q.2, by rw [← q.1]; exact h2⟩
      · show r.1.2.2.2.1 i 8 = 3 ↔ _
        rcases hcase i with q | q
        · omega
        · rw [q.1]
      · show ((S.2.1 2).drop r.2).Sublist (S.2.1 2)
        exact List.drop_sublist _ _
    · rcases List.eq_nil_or_concat (S.2.1 2) with hq | ⟨ys, l, hq⟩
      · unfold sGoBack
        rw [hq]
        refine ⟨rfl, rfl, fun _ _ _ _ => rfl, fun _ q => ⟨rfl, q⟩, fun _ => Iff.rfl, ?_⟩
        show (S.2.1 2).Sublist []
        rw [hq]
        exact List.Sublist.refl _
      · have hq : S.2.1 2 = ys ++ [l] := hq.trans (List.concat_eq_append ..)
        have hrev : (S.2.1 2).reverse = l :: ys.reverse := by rw [hq]; simp
        have hl8 : S.2.2.2.1 l 8 = 1 := ((h.2.2.2.2.1 l).mp (by rw [hq]; simp)).2
        have hn := nodup_rev h.ne
        rw [hrev] at hn
        unfold sGoBack
        rw [hrev]
        simp only []
        split
        · obtain ⟨a1, a2, a3, a4, a5, -, -⟩ := backL_spec ys.reverse (sLeave S l ys.reverse.reverse) (List.nodup_cons.mp hn).2
          rw [List.reverse_reverse] at *
          generalize backL ys.reverse (sLeave S l ys) = r at *
          rw [sLeave_eq] at *
          have e8 : ∀ i, r.2.2.2.1 i 8 = if i = l then 0 else S.2.2.2.1 i 8 := fun i => by
            rw [a5 i 8 (by decide)]
            simp [sQ, sC]
          refine ⟨a1, a3, fun i k h8 h9 => ?_, fun i h2 => ?_, fun i => ?_, ?_⟩
          · rw [a5 i k h9]
            simp [sQ, sC, h8]
          · rw [a4]
            refine ⟨rfl, fun q => ?_⟩
            rw [e8] at h2
            split at h2
            · rename_i hil; rw [hil] at q; omega
            · exact h2 q
          · rw [e8]
            split
            · rename_i hil; rw [hil]; omega
            · rfl
          · rw [a2]
            show List.Sublist ys (S.2.1 2)
            rw [hq]
            exact List.sublist_append_left _ _
        · obtain ⟨a1, a2, a3, a4, a5, -, -⟩ := backL_spec (l :: ys.reverse) S hn
          exact ⟨a1, a3, fun i k _ h9 => a5 i k h9, fun i h2 => ⟨by rw [a4], by rw [← a5 i 8 (by decide)]; exact h2⟩, fun i => by rw [a5 i 8 (by decide)], by rw [a2]; exact List.Sublist.refl _⟩
theorem sPay_g (S : gSt) (e i : Nat) : (∀ x k, x ≠ e → (sPay S e i).2.2.1 x k = S.2.2.1 x k) ∧ (sPay S e i).2.2.1 e 1 = S.2.2.1 e 1 + sDue S i ∧ (sPay S e i).2.2.1 e 2 = S.2.2.1 e 2 + 1 ∧ (sPay S e i).2.2.1 e 3 = S.2.2.1 e 3 + S.2.2.2.1 i 2 ∧ (sPay S e i).2.2.1 e 4 = S.2.2.1 e 4 + (sToll S (S.2.2.2.1 i 2) (S.2.2.2.1 i 3) - sDue S i) := by
  refine ⟨fun x k hx => ?_, ?_, ?_, ?_, ?_⟩ <;> simp [sPay, sTake, sG, sC, *]
/-- what the law's run keeps: coins as they were at first (c0), coins that were taken out of the boxes -/
def LI (c0 : Nat → Nat) (tk : Nat) (S : gSt) : Prop :=
  (∀ i, i < S.1 6 → S.2.2.2.1 i 8 ≠ 2 → S.2.2.2.2 i = -1) ∧
  (∀ i, i < S.1 6 → S.2.2.2.1 i 5 ≤ c0 i ∧ (S.2.2.2.1 i 7 = 0 → S.2.2.2.1 i 5 = c0 i) ∧ (S.2.2.2.1 i 8 = 3 → S.2.2.2.1 i 7 = 0)) ∧
  sumN (fun i => S.2.2.2.1 i 5) (S.1 6) + tk + S.2.2.1 0 1 + S.2.2.1 1 1 = sumN c0 (S.1 6) ∧
  (∀ e, e < 2 → S.2.2.1 e 2 = cntF (fun i => decide (S.2.2.2.1 i 7 = 1) && decide (S.2.2.2.1 i 1 = e)) (S.1 6) ∧ S.2.2.1 e 2 ≤ S.2.2.1 e 3 ∧ S.2.2.1 e 3 ≤ 4 * S.2.2.1 e 2 ∧ S.2.2.1 e 4 ≤ 27 * S.2.2.1 e 2) ∧
  sW S ≤ S.1 3
theorem LI.move {S : gSt} {c0 : Nat → Nat} {tk : Nat} (hw : WF S) (h : LI c0 tk S) : LI c0 tk (sMove S).1 := by
  obtain ⟨a1, a2, a3, a4, a5, a6⟩ := mv_same hw
  obtain ⟨h1, h2, h3, h4, h5⟩ := h
  generalize (sMove S).1 = T at *
  refine ⟨fun i hi hs => ?_, fun i hi => ?_, ?_, fun e he => ?_, ?_⟩
  · rw [a1] at hi
    rw [(a4 i hs).1]
    exact h1 i hi (a4 i hs).2
  · rw [a1] at hi
    rw [a3 i 5 (by decide) (by decide), a3 i 7 (by decide) (by decide), a5 i]
    exact h2 i hi
  · rw [a1, a2, sumN_congr (g := fun i => S.2.2.2.1 i 5) _ (fun i _ => a3 i 5 (by decide) (by decide))]
    exact h3
  · rw [a1, a2, cntF_congr (g := fun i => decide (S.2.2.2.1 i 7 = 1) && decide (S.2.2.2.1 i 1 = e)) _ (fun i _ => by rw [a3 i 7 (by decide) (by decide), a3 i 1 (by decide) (by decide)])]
    exact h4 e he
  · rw [a1]
    unfold sW
    rw [map_sum_congr (g := fun i => S.2.2.2.1 i 3) (fun i _ => a3 i 3 (by decide) (by decide))]
    exact Nat.le_trans (sub_sum a6) h5
/-- how coming on goes: nothing; the first one is away; it has paid, and is on; it pays, and is on -/
theorem cm_cases {S : gSt} (hw : WF S) : sCome S = S ∨ ∃ i ys, S.2.1 (S.1 1) = i :: ys ∧ i < S.1 6 ∧ S.2.2.2.1 i 8 = 0 ∧ S.2.2.2.1 i 1 = S.1 1 ∧ sW S + S.2.2.2.1 i 3 ≤ S.1 3 ∧
    ((S.2.2.2.1 i 7 = 0 ∧ sCome S = sC (sQ S (S.1 1) ys) i 8 3) ∨
     (S.2.2.2.1 i 7 ≠ 0 ∧ sCome S = sQ (sC (sC (sQ S (S.1 1) ys) i 8 1) i 9 0) 2 (S.2.1 2 ++ [i])) ∨
     (S.2.2.2.1 i 7 = 0 ∧ sDue S i ≤ S.2.2.2.1 i 5 ∧ sCome S = sQ (sC (sC (sPay (sQ S (S.1 1) ys) (S.1 1) i) i 8 1) i 9 0) 2 (S.2.1 2 ++ [i]))) := by
  have hd : S.1 1 < 2 := by have := hw.1.1; omega
  cases hq : S.2.1 (S.1 1) with
  | nil => exact Or.inl (sCome_nil hq)
  | cons i ys =>
    obtain ⟨hi, hst, hend⟩ := hw.qmem hd (by rw [hq]; exact List.mem_cons_self)
    by_cases hroom : sRoom S i = true
    · refine Or.inr ⟨i, ys, rfl, hi, hst, hend, ?_, ?_⟩
      · unfold sRoom at hroom
        simp only [Bool.and_eq_true, decide_eq_true_eq] at hroom
        exact hroom.2
      · have hS := sCome_eq hq hroom
        have h2 : (sQ S (S.1 1) ys).2.1 2 = S.2.1 2 := if_neg (by omega)
        by_cases hp : S.2.2.2.1 i 7 = 0
        · by_cases hc : S.2.2.2.1 i 5 < sDue S i
          · rw [if_pos (show (sQ S (S.1 1) ys).2.2.2.1 i 7 = 0 ∧ (sQ S (S.1 1) ys).2.2.2.1 i 5 < sDue (sQ S (S.1 1) ys) i from ⟨hp, hc⟩)] at hS
            exact Or.inl ⟨hp, hS⟩
          · rw [if_neg (show ¬ ((sQ S (S.1 1) ys).2.2.2.1 i 7 = 0 ∧ (sQ S (S.1 1) ys).2.2.2.1 i 5 < sDue (sQ S (S.1 1) ys) i) from fun q => hc q.2), if_pos (show (sQ S (S.1 1) ys).2.2.2.1 i 7 = 0 from hp)] at hS
            refine Or.inr (Or.inr ⟨hp, by omega, hS.trans ?_⟩)
            obtain ⟨-, -, -, -, -, -, p7⟩ := sPay_c (sQ S (S.1 1) ys) (S.1 1) i
            rw [show (sC (sC (sPay (sQ S (S.1 1) ys) (S.1 1) i) i 8 1) i 9 0).2.1 2 = S.2.1 2 from by rw [show (sC (sC (sPay (sQ S (S.1 1) ys) (S.1 1) i) i 8 1) i 9 0).2.1 = (sPay (sQ S (S.1 1) ys) (S.1 1) i).2.1 from rfl, p7]; exact h2]
        · rw [if_neg (show ¬ ((sQ S (S.1 1) ys).2.2.2.1 i 7 = 0 ∧ (sQ S (S.1 1) ys).2.2.2.1 i 5 < sDue (sQ S (S.1 1) ys) i) from fun q => hp q.1), if_neg (show ¬ (sQ S (S.1 1) ys).2.2.2.1 i 7 = 0 from hp)] at hS
          refine Or.inr (Or.inl ⟨hp, hS.trans ?_⟩)
          rw [show (sC (sC (sQ S (S.1 1) ys) i 8 1) i 9 0).2.1 2 = S.2.1 2 from h2]
    · exact Or.inl (sCome_no hq (by simpa using hroom))
theorem kept_27 {S : gSt} {i : Nat} (hn : sNumOk S) (hc : sCartOk S i) : sToll S (S.2.2.2.1 i 2) (S.2.2.2.1 i 3) - sDue S i ≤ 27 := by
  unfold sDue
  split
  · omega
  · unfold sToll
    have h1 : (S.2.2.2.1 i 2) * S.1 4 ≤ (3 + 1) * S.1 4 := Nat.mul_le_mul_right _ (by have := hc.2.1.2; omega)
    have h2 := hn.2.2.2.1
    rw [Nat.succ_mul] at h1
    omega
theorem LI.come {S : gSt} {c0 : Nat → Nat} {tk : Nat} (hw : WF S) (h : LI c0 tk S) : LI c0 tk (sCome S) := by
  rcases cm_cases hw with e | ⟨i, ys, hq, hi, h8, hend, hroom, hcase⟩
  · rw [e]; exact h
  · have hd : S.1 1 < 2 := by have := hw.1.1; omega
    have hci := hw.2.1 i hi
    have hni : i ∉ S.2.1 2 := fun q => by have := ((hw.2.2.2.2.1 i).mp q).2; omega
    obtain ⟨h1, h2, h3, h4, h5⟩ := h
    rcases hcase with ⟨h7, e⟩ | ⟨h7, e⟩ | ⟨h7, hdue, e⟩
    · rw [e]
      have ek : ∀ j k, k ≠ 8 → (sC (sQ S (S.1 1) ys) i 8 3).2.2.2.1 j k = S.2.2.2.1 j k := fun j k hk => by simp [sC, sQ, hk]
      have e8 : ∀ j, (sC (sQ S (S.1 1) ys) i 8 3).2.2.2.1 j 8 = if j = i then 3 else S.2.2.2.1 j 8 := fun j => by simp [sC, sQ]
      refine ⟨fun j hj hs => ?_, fun j hj => ?_, ?_, fun x hx => ?_, ?_⟩
      · refine h1 j hj (fun q => hs ?_)
        rw [e8, if_neg (fun z => by rw [z] at q; omega)]
        exact q
      · rw [ek j 5 (by decide), ek j 7 (by decide), e8]
        refine ⟨(h2 j hj).1, (h2 j hj).2.1, fun q => ?_⟩
        by_cases hji : j = i
        · rw [hji]; exact h7
        · rw [if_neg hji] at q; exact (h2 j hj).2.2 q
      · show sumN (fun j => (sC (sQ S (S.1 1) ys) i 8 3).2.2.2.1 j 5) (S.1 6) + tk + S.2.2.1 0 1 + S.2.2.1 1 1 = _
        rw [sumN_congr (g := fun j => S.2.2.2.1 j 5) _ (fun j _ => ek j 5 (by decide))]
        exact h3
      · have := h4 x hx
        show S.2.2.1 x 2 = cntF (fun j => decide ((sC (sQ S (S.1 1) ys) i 8 3).2.2.2.1 j 7 = 1) && decide ((sC (sQ S (S.1 1) ys) i 8 3).2.2.2.1 j 1 = x)) (S.1 6) ∧ _
        rw [cntF_congr (g := fun j => decide (S.2.2.2.1 j 7 = 1) && decide (S.2.2.2.1 j 1 = x)) _ (fun j _ => by rw [ek j 7 (by decide), ek j 1 (by decide)])]
        exact this
      · show ((if 2 = S.1 1 then ys else S.2.1 2).map _).sum ≤ S.1 3
        rw [if_neg (by omega), map_sum_congr (g := fun j => S.2.2.2.1 j 3) (fun j _ => ek j 3 (by decide))]
        exact h5
    · rw [e]
      have ek : ∀ j k, k ≠ 8 → k ≠ 9 → (sQ (sC (sC (sQ S (S.1 1) ys) i 8 1) i 9 0) 2 (S.2.1 2 ++ [i])).2.2.2.1 j k = S.2.2.2.1 j k := fun j k hk hk2 => by simp [sC, sQ, hk, hk2]
      have e8 : ∀ j, (sQ (sC (sC (sQ S (S.1 1) ys) i 8 1) i 9 0) 2 (S.2.1 2 ++ [i])).2.2.2.1 j 8 = if j = i then 1 else S.2.2.2.1 j 8 := fun j => by simp [sC, sQ]
      refine ⟨fun j hj hs => ?_, fun j hj => ?_, ?_, fun x hx => ?_, ?_⟩
      · refine h1 j hj (fun q => hs ?_)
        rw [e8, if_neg (fun z => by rw [z] at q; omega)]
        exact q
      · rw [ek j 5 (by decide) (by decide), ek j 7 (by decide) (by decide), e8]
        refine ⟨(h2 j hj).1, (h2 j hj).2.1, fun q => ?_⟩
        by_cases hji : j = i
        · rw [if_pos hji] at q; omega
        · rw [if_neg hji] at q; exact (h2 j hj).2.2 q
      · show sumN (fun j => (sQ (sC (sC (sQ S (S.1 1) ys) i 8 1) i 9 0) 2 (S.2.1 2 ++ [i])).2.2.2.1 j 5) (S.1 6) + tk + S.2.2.1 0 1 + S.2.2.1 1 1 = _
        rw [sumN_congr (g := fun j => S.2.2.2.1 j 5) _ (fun j _ => ek j 5 (by decide) (by decide))]
        exact h3
      · have := h4 x hx
        show S.2.2.1 x 2 = cntF (fun j => decide ((sQ (sC (sC (sQ S (S.1 1) ys) i 8 1) i 9 0) 2 (S.2.1 2 ++ [i])).2.2.2.1 j 7 = 1) && decide ((sQ (sC (sC (sQ S (S.1 1) ys) i 8 1) i 9 0) 2 (S.2.1 2 ++ [i])).2.2.2.1 j 1 = x)) (S.1 6) ∧ _
        rw [cntF_congr (g := fun j => decide (S.2.2.2.1 j 7 = 1) && decide (S.2.2.2.1 j 1 = x)) _ (fun j _ => by rw [ek j 7 (by decide) (by decide), ek j 1 (by decide) (by decide)])]
        exact this
      · show ((S.2.1 2 ++ [i]).map _).sum ≤ S.1 3
        rw [map_sum_congr (g := fun j => S.2.2.2.1 j 3) (fun j _ => ek j 3 (by decide) (by decide)), List.map_append, List.sum_append]
        show sW S + (S.2.2.2.1 i 3 + 0) ≤ _
        omega
    · rw [e]
      obtain ⟨p1, p2, p3, p4, p5, p6, p7⟩ := sPay_c (sQ S (S.1 1) ys) (S.1 1) i
      obtain ⟨g1, g2, g3, g4, g5⟩ := sPay_g (sQ S (S.1 1) ys) (S.1 1) i
      generalize sPay (sQ S (S.1 1) ys) (S.1 1) i = P at *
      have ek : ∀ j k, k ≠ 5 → k ≠ 7 → k ≠ 8 → k ≠ 9 → (sQ (sC (sC P i 8 1) i 9 0) 2 (S.2.1 2 ++ [i])).2.2.2.1 j k = S.2.2.2.1 j k := fun j k q5 q7 q8 q9 => by
        show (if j = i ∧ k = 9 then 0 else if j = i ∧ k = 8 then 1 else P.2.2.2.1 j k) = _
        rw [if_neg (by omega), if_neg (by omega), p1 j k q5 q7]; rfl
      have ej : ∀ j, j ≠ i → ∀ k, (sQ (sC (sC P i 8 1) i 9 0) 2 (S.2.1 2 ++ [i])).2.2.2.1 j k = S.2.2.2.1 j k := fun j hj k => by
        show (if j = i ∧ k = 9 then 0 else if j = i ∧ k = 8 then 1 else P.2.2.2.1 j k) = _
        rw [if_neg (by omega), if_neg (by omega), p2 j hj k]; rfl
      have e5 : (sQ (sC (sC P i 8 1) i 9 0) 2 (S.2.1 2 ++ [i])).2.2.2.1 i 5 = S.2.2.2.1 i 5 - sDue S i := by
        show (if i = i ∧ 5 = 9 then 0 else if i = i ∧ 5 = 8 then 1 else P.2.2.2.1 i 5) = _
        rw [if_neg (by omega), if_neg (by omega), p3]; rfl
      have e7 : (sQ (sC (sC P i 8 1) i 9 0) 2 (S.2.1 2 ++ [i])).2.2.2.1 i 7 = 1 := by
        show (if i = i ∧ 7 = 9 then 0 else if i = i ∧ 7 = 8 then 1 else P.2.2.2.1 i 7) = _
        rw [if_neg (by omega), if_neg (by omega), p4]
      have e8 : (sQ (sC (sC P i 8 1) i 9 0) 2 (S.2.1 2 ++ [i])).2.2.2.1 i 8 = 1 := by simp [sC, sQ]
      have eo : (sQ (sC (sC P i 8 1) i 9 0) 2 (S.2.1 2 ++ [i])).2.2.2.2 = S.2.2.2.2 := p5
      have en : (sQ (sC (sC P i 8 1) i 9 0) 2 (S.2.1 2 ++ [i])).1 = S.1 := p6
      have eg : (sQ (sC (sC P i 8 1) i 9 0) 2 (S.2.1 2 ++ [i])).2.2.1 = P.2.2.1 := rfl
      have eq2 : (sQ (sC (sC P i 8 1) i 9 0) 2 (S.2.1 2 ++ [i])).2.1 2 = S.2.1 2 ++ [i] := rfl
      generalize sQ (sC (sC P i 8 1) i 9 0) 2 (S.2.1 2 ++ [i]) = T at *
      refine ⟨fun j hj hs => ?_, fun j hj => ?_, ?_, fun x hx => ?_, ?_⟩
      · rw [en] at hj
        rw [eo]
        by_cases hji : j = i
        · rw [hji]; exact h1 i hi (by omega)
        · rw [ej j hji 8] at hs; exact h1 j hj hs
      · rw [en] at hj
        by_cases hji : j = i
        · rw [hji, e5, e7, e8]
          have := (h2 i hi).1
          exact ⟨by omega, fun q => by omega, fun q => by omega⟩
        · rw [ej j hji 5, ej j hji 7, ej j hji 8]; exact h2 j hj
      · rw [en, eg]
        have hs := sumN_set (f := fun j => S.2.2.2.1 j 5) (g := fun j => T.2.2.2.1 j 5) (i := i) (fun j hj => ej j hj 5) (S.1 6) hi
        simp only [e5] at hs
        have g2 : P.2.2.1 (S.1 1) 1 = S.2.2.1 (S.1 1) 1 + sDue S i := g2
        have hb : P.2.2.1 0 1 + P.2.2.1 1 1 = S.2.2.1 0 1 + S.2.2.1 1 1 + sDue S i := by
          rcases (show S.1 1 = 0 ∨ S.1 1 = 1 by omega) with q | q
          · have k1 : P.2.2.1 1 1 = S.2.2.1 1 1 := g1 1 1 (by omega)
            rw [q] at g2
            omega
          · have k1 : P.2.2.1 0 1 = S.2.2.1 0 1 := g1 0 1 (by omega)
            rw [q] at g2
            omega
        omega
      · rw [en, eg]
        have hx4 := h4 x hx
        by_cases hxd : x = S.1 1
        · subst hxd
          have g3 : P.2.2.1 (S.1 1) 2 = S.2.2.1 (S.1 1) 2 + 1 := g3
          have g4 : P.2.2.1 (S.1 1) 3 = S.2.2.1 (S.1 1) 3 + S.2.2.2.1 i 2 := g4
          have g5 : P.2.2.1 (S.1 1) 4 = S.2.2.1 (S.1 1) 4 + (sToll S (S.2.2.2.1 i 2) (S.2.2.2.1 i 3) - sDue S i) := g5
          have hc := cntF_set (f := fun j => decide (S.2.2.2.1 j 7 = 1) && decide (S.2.2.2.1 j 1 = S.1 1)) (g := fun j => decide (T.2.2.2.1 j 7 = 1) && decide (T.2.2.2.1 j 1 = S.1 1)) (i := i) (by simp [h7]) (by simp [e7, ek i 1 (by decide) (by decide) (by decide) (by decide), hend]) (fun j hj => by simp only [ej j hj 7, ej j hj 1]) (S.1 6) hi
          have h27 := kept_27 hw.1 hci
          have hax := hci.2.1
          rw [hc, g3, g4, g5]
          omega
        · have k2 : P.2.2.1 x 2 = S.2.2.1 x 2 := g1 x 2 hxd
          have k3 : P.2.2.1 x 3 = S.2.2.1 x 3 := g1 x 3 hxd
          have k4 : P.2.2.1 x 4 = S.2.2.1 x 4 := g1 x 4 hxd
          rw [k2, k3, k4, cntF_congr (g := fun j => decide (S.2.2.2.1 j 7 = 1) && decide (S.2.2.2.1 j 1 = x)) _ (fun j _ => ?_)]
          · exact hx4
          · by_cases hji : j = i
            · rw [hji, ek i 1 (by decide) (by decide) (by decide) (by decide), hend, decide_eq_false (show ¬ S.1 1 = x from fun q => hxd q.symm), Bool.and_false, Bool.and_false]
            · rw [ej j hji 7, ej j hji 1]
      · rw [en]
        unfold sW
        rw [eq2, map_sum_congr (g := fun j => S.2.2.2.1 j 3) (fun j _ => ek j 3 (by decide) (by decide) (by decide) (by decide)), List.map_append, List.sum_append]
        show sW S + (S.2.2.2.1 i 3 + 0) ≤ _
        omega
theorem LI.num {S : gSt} {c0 : Nat → Nat} {tk k v : Nat} (h : LI c0 tk S) (hk : k ≠ 3) (hk6 : k ≠ 6) : LI c0 tk (sN S k v) := by
  have e6 : (sN S k v).1 6 = S.1 6 := if_neg (fun q => hk6 q.symm)
  have e3 : (sN S k v).1 3 = S.1 3 := if_neg (fun q => hk q.symm)
  unfold LI
  rw [e6, e3]
  exact h
theorem LI.tick {S : gSt} {c0 : Nat → Nat} {tk : Nat} (hw : WF S) (h : LI c0 tk S) : LI c0 tk (sTick S).1 := ((h.move hw).come hw.move).num (by decide) (by decide)
theorem LI.turn {S : gSt} {c0 : Nat → Nat} {tk : Nat} (h : LI c0 tk S) : LI c0 tk (sTurn S) := h.num (by decide) (by decide)
theorem LI.empty {S : gSt} {c0 : Nat → Nat} {tk e : Nat} (he : e < 2) (h : LI c0 tk S) : LI c0 (tk + S.2.2.1 e 1) (sG (sG S e 1 0) e 4 0) := by
  obtain ⟨h1, h2, h3, h4, h5⟩ := h
  have g1 : ∀ x, (sG (sG S e 1 0) e 4 0).2.2.1 x 1 = if x = e then 0 else S.2.2.1 x 1 := fun x => by simp [sG]
  have g2 : ∀ x, (sG (sG S e 1 0) e 4 0).2.2.1 x 2 = S.2.2.1 x 2 := fun x => by simp [sG]
  have g3 : ∀ x, (sG (sG S e 1 0) e 4 0).2.2.1 x 3 = S.2.2.1 x 3 := fun x => by simp [sG]
  have g4 : ∀ x, (sG (sG S e 1 0) e 4 0).2.2.1 x 4 = if x = e then 0 else S.2.2.1 x 4 := fun x => by simp [sG]
  refine ⟨h1, h2, ?_, fun x hx => ?_, h5⟩
  · rw [g1, g1]
    show sumN (fun i => S.2.2.2.1 i 5) (S.1 6) + (tk + S.2.2.1 e 1) + _ + _ = sumN c0 (S.1 6)
    rcases (show e = 0 ∨ e = 1 by omega) with q | q <;> subst q <;> simp <;> omega
  · rw [g2, g3, g4]
    have := h4 x hx
    refine ⟨this.1, this.2.1, this.2.2.1, ?_⟩
    split
    · exact Nat.zero_le _
    · exact this.2.2.2
/-- who is over or away stays so; a cart pays once -/
theorem tick_keeps {S : gSt} (hw : WF S) : ∀ i, i < S.1 6 → (1 < S.2.2.2.1 i 8 → (sTick S).1.2.2.2.1 i 8 = S.2.2.2.1 i 8) ∧ (S.2.2.2.1 i 7 ≠ 0 → (sTick S).1.2.2.2.1 i 5 = S.2.2.2.1 i 5) := by
  obtain ⟨a1, a2, a3, a4, a5, a6⟩ := mv_same hw
  have hwm := hw.move
  intro i hi
  show (1 < S.2.2.2.1 i 8 → (sCome (sMove S).1).2.2.2.1 i 8 = S.2.2.2.1 i 8) ∧ (S.2.2.2.1 i 7 ≠ 0 → (sCome (sMove S).1).2.2.2.1 i 5 = S.2.2.2.1 i 5)
  have hm : 1 < S.2.2.2.1 i 8 → (sMove S).1.2.2.2.1 i 8 = S.2.2.2.1 i 8 := by
    intro q
    have h83 := (hw.2.1 i hi).2.2.2.2.2.2.2
    rcases (show S.2.2.2.1 i 8 = 2 ∨ S.2.2.2.1 i 8 = 3 by omega) with z | z
    · rw [z]
      exact Classical.byContradiction (fun y => (a4 i y).2 z)
    · rw [z]; exact (a5 i).mpr z
  have hm5 := a3 i 5 (by decide) (by decide)
  have hm7 := a3 i 7 (by decide) (by decide)
  generalize (sMove S).1 = M at *
  rcases cm_cases hwm with e | ⟨c, ys, hq, hc, h8, hend, hroom, hcase⟩
  · rw [e]; exact ⟨hm, fun _ => hm5⟩
  · by_cases hic : i = c
    · subst hic
      refine ⟨fun q => by have := hm q; omega, fun q => ?_⟩
      rcases hcase with ⟨h7, e⟩ | ⟨h7, e⟩ | ⟨h7, hdue, e⟩
      · omega
      · rw [e, ← hm5]; simp [sC, sQ]
      · omega
    · have hs : ∀ k, (sCome M).2.2.2.1 i k = M.2.2.2.1 i k := by
        intro k
        rcases hcase with ⟨h7, e⟩ | ⟨h7, e⟩ | ⟨h7, hdue, e⟩
        · rw [e]; simp [sC, sQ, hic]
        · rw [e]; simp [sC, sQ, hic]
        · rw [e]
          show (if i = c ∧ k = 9 then 0 else if i = c ∧ k = 8 then 1 else (sPay (sQ M (M.1 1) ys) (M.1 1) c).2.2.2.1 i k) = _
          rw [if_neg (by omega), if_neg (by omega), (sPay_c (sQ M (M.1 1) ys) (M.1 1) c).2.1 i hic k]
          rfl
      rw [hs, hs]
      exact ⟨hm, fun _ => hm5⟩
