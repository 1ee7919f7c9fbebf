/-! the reference: one cart comes on -/
theorem AbsM.setF {V : gMem} {k : Nat} {S : gSt} (h : AbsM V k S) (i v f kk : Nat) (hf : f = 3 ∧ kk = 5 ∨ f = 9 ∧ kk = 7) : AbsM (gup V 24 k 0 (10 * i + f) (nI v)) k (sC S i kk v) := by
  have ck : ∀ j q, q ≠ kk → (sC S i kk v).2.2.2.1 j q = S.2.2.2.1 j q := fun j q hq => by simp [sC, hq]
  have hpl : ∀ j, sPlc (sC S i kk v) j = sPlc S j := fun j => by
    unfold sPlc
    rw [ck j 8 (by omega), ck j 1 (by omega), ck j 9 (by omega)]
    rfl
  have hps : ∀ j, sPos (sC S i kk v) j = sPos S j := fun j => by
    unfold sPos
    rw [ck j 1 (by omega), ck j 9 (by omega)]
    rfl
  refine h.of2 (fun K b x hn => gup_off _ _ (fun q => hn ⟨Or.inl q.1, q.2⟩)) rfl (fun _ _ => rfl) rfl (fun j hj g hg => ?_) ⟨fun j hj h8 => ?_, fun p hp hn => ?_⟩
  · by_cases hq : 10 * j + g = 10 * i + f
    · obtain ⟨rfl, rfl⟩ : j = i ∧ g = f := by omega
      rw [gup_eq]
      rcases hf with ⟨rfl, rfl⟩ | ⟨rfl, rfl⟩ <;> simp [mF, sC]
    · rw [gup_ne (by omega), h.2.1 j hj g hg]
      have hji : g = f → j ≠ i := fun e1 e2 => hq (by rw [e1, e2])
      rcases hf with ⟨rfl, rfl⟩ | ⟨rfl, rfl⟩
      all_goals
        rcases (show g = 0 ∨ g = 1 ∨ g = 2 ∨ g = 3 ∨ g = 4 ∨ g = 5 ∨ g = 6 ∨ g = 7 ∨ g = 8 ∨ g = 9 by omega) with rfl | rfl | rfl | rfl | rfl | rfl | rfl | rfl | rfl | rfl
      all_goals first
        | (simp only [mF]; rw [ck _ _ (by decide)]; done)
        | (exact (hpl j).symm)
        | rfl
        | (simp only [mF]; have := hji rfl; simp [sC, this]; done)
  · rw [ck j 8 (by omega)] at h8
    rw [hps, gup_ne (by simp)]
    exact h.2.2.1.1 j hj h8
  · rw [gup_ne (by simp)]
    exact h.2.2.1.2 p hp (fun j hj h8 => by rw [← hps]; exact hn j hj (by rw [ck j 8 (by omega)]; exact h8))
theorem AbsM.setW {V : gMem} {k : Nat} {S : gSt} (h : AbsM V k S) (i v : Nat) (h8 : S.2.2.2.1 i 8 ≠ 1) (hv : v ≠ 1) : AbsM (gup V 24 k 0 (10 * i + 5) (nI v)) k (sC S i 8 v) := by
  have ck : ∀ j q, q ≠ 8 → (sC S i 8 v).2.2.2.1 j q = S.2.2.2.1 j q := fun j q hq => by simp [sC, hq]
  have cj : ∀ j, j ≠ i → ∀ q, (sC S i 8 v).2.2.2.1 j q = S.2.2.2.1 j q := fun j hj q => by simp [sC, hj]
  have c8 : (sC S i 8 v).2.2.2.1 i 8 = v := by simp [sC]
  have hon : ∀ j, (sC S i 8 v).2.2.2.1 j 8 = 1 ↔ S.2.2.2.1 j 8 = 1 := fun j => by
    by_cases hj : j = i
    · subst hj
      rw [c8]
      exact ⟨fun q => absurd q hv, fun q => absurd q h8⟩
    · rw [cj j hj]
  have hps : ∀ j, sPos (sC S i 8 v) j = sPos S j := fun j => by
    unfold sPos
    rw [ck j 1 (by decide), ck j 9 (by decide)]
    rfl
  have hpl : ∀ j, sPlc (sC S i 8 v) j = sPlc S j := fun j => by
    by_cases hj : S.2.2.2.1 j 8 = 1
    · rw [sPlc_on hj, sPlc_on ((hon j).mpr hj), hps]
    · rw [sPlc_off hj, sPlc_off (fun q => hj ((hon j).mp q))]
  refine h.of2 (fun K b x hn => gup_off _ _ (fun q => hn ⟨Or.inl q.1, q.2⟩)) rfl (fun _ _ => rfl) rfl (fun j hj g hg => ?_) ⟨fun j hj h1 => ?_, fun p hp hn => ?_⟩
  · by_cases hq : 10 * j + g = 10 * i + 5
    · obtain ⟨rfl, rfl⟩ : j = i ∧ g = 5 := by omega
      rw [gup_eq]
      simp only [mF]
      rw [c8]
    · rw [gup_ne (by omega), h.2.1 j hj g hg]
      rcases (show g = 0 ∨ g = 1 ∨ g = 2 ∨ g = 3 ∨ g = 4 ∨ g = 5 ∨ g = 6 ∨ g = 7 ∨ g = 8 ∨ g = 9 by omega) with rfl | rfl | rfl | rfl | rfl | rfl | rfl | rfl | rfl | rfl
      all_goals first
        | (simp only [mF]; rw [ck _ _ (by decide)]; done)
        | (exact (hpl j).symm)
        | rfl
        | (simp only [mF]; rw [cj j (by omega)]; done)
  · rw [hps, gup_ne (by simp)]
    exact h.2.2.1.1 j hj ((hon j).mp h1)
  · rw [gup_ne (by simp)]
    exact h.2.2.1.2 p hp (fun j hj h1 => by rw [← hps]; exact hn j hj ((hon j).mpr h1))
theorem AbsM.setN {V : gMem} {k : Nat} {S : gSt} (h : AbsM V k S) (j v : Nat) (hj : j < 2) : AbsM (gup V 23 k 0 j (nI v)) k (sN S j v) := by
  have e : ∀ q, 2 ≤ q → (sN S j v).1 q = S.1 q := fun q hq => by simp only [sN]; rw [if_neg (by omega)]
  have hps : ∀ i, sPos (sN S j v) i = sPos S i := fun i => by unfold sPos; rw [e 2 (by decide)]; rfl
  have hm : ∀ i f, mF (sN S j v) i f = mF S i f := fun i f => by
    have hpl : sPlc (sN S j v) i = sPlc S i := by unfold sPlc; rw [e 2 (by decide)]; rfl
    unfold mF
    split <;> first | rfl | exact hpl
  obtain ⟨⟨a1, a2, a3⟩, b, c, d, x, y⟩ := h
  refine ⟨⟨?_, ?_, ?_⟩, fun i hi f hf => ?_, ⟨fun i hi h8 => ?_, fun p hp hn => ?_⟩, fun r hr => ?_, fun r hr => ?_, ?_⟩
  · by_cases hj0 : j = 0
    · subst hj0; rw [gup_eq]; simp [sN]
    · rw [gup_ne (by omega), a1]; simp only [sN]; rw [if_neg (by omega)]
  · by_cases hj0 : j = 1
    · subst hj0; rw [gup_eq]; simp [sN]
    · rw [gup_ne (by omega), a2]; simp only [sN]; rw [if_neg (by omega)]
  · rw [gup_ne (by omega), a3, e 6 (by decide)]
  · rw [e 6 (by decide)] at hi
    rw [gup_ne (by simp), hm]; exact b i hi f hf
  · rw [e 6 (by decide)] at hi
    rw [gup_ne (by simp), hps]; exact c.1 i hi h8
  · rw [gup_ne (by simp)]
    exact c.2 p hp (fun i hi h8 => by rw [← hps]; exact hn i (by rw [e 6 (by decide)]; exact hi) h8)
  · have q := d r hr
    exact ⟨by rw [gup_ne (by simp)]; exact q.1, q.2.1, fun j hj => by rw [gup_ne (by simp)]; exact q.2.2 j hj⟩
  · rw [gup_off _ _ (by simp)]; exact x r hr
  · unfold NumM
    rw [gup_off _ _ (by simp), e 2 (by decide), e 3 (by decide), e 4 (by decide), e 5 (by decide)]
    exact y
theorem AbsM.setB {V : gMem} {k : Nat} {S : gSt} (h : AbsM V k S) (e f kk v : Nat) (hf : f = 0 ∧ kk = 1 ∨ f = 1 ∧ kk = 2 ∨ f = 2 ∧ kk = 3 ∨ f = 4 ∧ kk = 4) : AbsM (gup V 27 k 0 (5 * e + f) (nI v)) k (sG S e kk v) := by
  obtain ⟨a, b, c, d, x, y⟩ := h
  have key : ∀ r g gg, (g = 0 ∧ gg = 1 ∨ g = 1 ∧ gg = 2 ∨ g = 2 ∧ gg = 3 ∨ g = 4 ∧ gg = 4) → V 27 k 0 (5 * r + g) = nI (S.2.2.1 r gg) → gup V 27 k 0 (5 * e + f) (nI v) 27 k 0 (5 * r + g) = nI ((sG S e kk v).2.2.1 r gg) := by
    intro r g gg hg hv
    by_cases hq : r = e ∧ g = f
    · obtain ⟨rfl, rfl⟩ := hq
      obtain rfl : gg = kk := by omega
      rw [gup_eq]; simp [sG]
    · rw [gup_ne (by omega), hv]
      simp only [sG]
      rw [if_neg (by omega)]
  refine ⟨?_, fun i hi g hg => ?_, ⟨fun i hi h8 => ?_, fun p hp hn => ?_⟩, fun r hr => ?_, fun r hr => ?_, ?_⟩
  · rw [gup_off _ _ (by simp)]; exact a
  · rw [gup_ne (by simp)]; exact b i hi g hg
  · rw [gup_ne (by simp)]; exact c.1 i hi h8
  · rw [gup_ne (by simp)]; exact c.2 p hp hn
  · have q := d r hr
    exact ⟨by rw [gup_ne (by omega)]; exact q.1, q.2.1, fun j hj => by rw [gup_ne (by simp)]; exact q.2.2 j hj⟩
  · obtain ⟨x1, x2, x3, x4⟩ := x r hr
    exact ⟨key r 0 1 (by simp) x1, key r 1 2 (by simp) x2, key r 2 3 (by simp) x3, key r 4 4 (by simp) x4⟩
  · unfold NumM
    rw [gup_off _ _ (by simp)]
    exact y
theorem AbsM.deq {V Vx : gMem} {k : Nat} {S : gSt} (h : AbsM V k S) {d : Nat} {ys : List Nat} (hr : RowM Vx k d ys) (hm : rmodM V Vx k d) : AbsM Vx k (sQ S d ys) := by
  obtain ⟨a, b, c, q, x, y⟩ := h
  refine ⟨?_, fun i hi g hg => ?_, ⟨fun i hi h8 => ?_, fun p hp hn => ?_⟩, fun r hr2 => ?_, fun r hr2 => ?_, ?_⟩
  · rw [hm.1 23 k 0 (by simp)]; exact a
  · rw [hm.1 24 k 0 (by simp)]; exact b i hi g hg
  · rw [hm.1 25 k 0 (by simp)]; exact c.1 i hi h8
  · rw [hm.1 25 k 0 (by simp)]; exact c.2 p hp hn
  · by_cases hrd : r = d
    · subst hrd
      show RowM Vx k r (if r = r then ys else _)
      rw [if_pos rfl]; exact hr
    · show RowM Vx k r (if r = d then ys else S.2.1 r)
      rw [if_neg hrd]; exact (q r hr2).mod hm hrd
  · rw [hm.2.1 _ (by omega), hm.2.1 _ (by omega), hm.2.1 _ (by omega), hm.2.1 _ (by omega)]; exact x r hr2
  · unfold NumM
    rw [hm.1 20 0 0 (by simp)]; exact y
def sStart (S : gSt) : Nat := if S.1 1 = 0 then 0 else S.1 2 - 1
theorem AbsM.on {V : gMem} {k : Nat} {S : gSt} {i p : Nat} (h : AbsM V k S) (h8 : S.2.2.2.1 i 8 ≠ 1) (he : S.2.2.2.1 i 1 = S.1 1) (hp : sStart S = p) (hfree : ∀ j, j < S.1 6 → S.2.2.2.1 j 8 = 1 → sPos S j ≠ p) (hi : i < S.1 6) :
    AbsM (gup (gup (gup V 25 k 0 p (nI i)) 24 k 0 (10 * i + 5) 1) 24 k 0 (10 * i + 6) (nI p)) k (sC (sC S i 8 1) i 9 0) := by
  have cj : ∀ j, j ≠ i → ∀ q, (sC (sC S i 8 1) i 9 0).2.2.2.1 j q = S.2.2.2.1 j q := fun j hj q => by simp [sC, hj]
  have ci : ∀ q, q ≠ 8 → q ≠ 9 → (sC (sC S i 8 1) i 9 0).2.2.2.1 i q = S.2.2.2.1 i q := fun q h1 h2 => by simp [sC, h1, h2]
  have c8 : (sC (sC S i 8 1) i 9 0).2.2.2.1 i 8 = 1 := by simp [sC]
  have c9 : (sC (sC S i 8 1) i 9 0).2.2.2.1 i 9 = 0 := by simp [sC]
  have n1 : (sC (sC S i 8 1) i 9 0).1 = S.1 := rfl
  have hps : sPos (sC (sC S i 8 1) i 9 0) i = p := by
    unfold sPos
    rw [ci 1 (by decide) (by decide), he, c9, n1, ← hp]
    rfl
  refine h.of2 (fun K b x hn => ?_) rfl (fun _ _ => rfl) rfl (fun j hj f hf => ?_) ⟨fun j hj h1 => ?_, fun q hq hn => ?_⟩
  · rw [gup_off _ _ (fun q => hn ⟨Or.inl q.1, q.2⟩), gup_off _ _ (fun q => hn ⟨Or.inl q.1, q.2⟩), gup_off _ _ (fun q => hn ⟨Or.inr q.1, q.2⟩)]
  · by_cases hji : j = i
    · subst hji
      rcases (show f = 0 ∨ f = 1 ∨ f = 2 ∨ f = 3 ∨ f = 4 ∨ f = 5 ∨ f = 6 ∨ f = 7 ∨ f = 8 ∨ f = 9 by omega) with rfl | rfl | rfl | rfl | rfl | rfl | rfl | rfl | rfl | rfl
      all_goals first
        | (rw [gup_ne (by omega), gup_ne (by omega), gup_ne (by simp), h.2.1 j hj _ (by decide)]; simp only [mF]; rw [ci _ (by decide) (by decide)]; done)
        | (rw [gup_ne (by omega), gup_ne (by omega), gup_ne (by simp), h.2.1 j hj _ (by decide)]; rfl)
        | (rw [gup_ne (by omega), gup_eq]; simp only [mF]; rw [c8]; rfl)
        | (rw [gup_eq]; simp only [mF]; rw [sPlc_on c8, hps]; done)
    · rw [gup_ne (by omega), gup_ne (by omega), gup_ne (by simp), h.2.1 j hj f hf, mF_congr n1 (cj j hji) rfl]
  · by_cases hji : j = i
    · subst hji
      rw [hps, gup_ne (by simp), gup_ne (by simp), gup_eq]
    · rw [cj j hji] at h1
      rw [sPos_congr n1 (cj j hji), gup_ne (by simp), gup_ne (by simp), gup_ne (by have := hfree j hj h1; omega)]
      exact h.2.2.1.1 j hj h1
  · have hpq : q ≠ p := fun z => hn i hi c8 (hps.trans z.symm)
    rw [gup_ne (by simp), gup_ne (by simp), gup_ne (by omega)]
    refine h.2.2.1.2 q hq (fun j hj h1 => ?_)
    have hji : j ≠ i := fun z => h8 (z ▸ h1)
    rw [← sPos_congr n1 (cj j hji)]
    exact hn j hj (by rw [cj j hji]; exact h1)
theorem sStart_lt {S : gSt} (h : sNumOk S) : sStart S < S.1 2 := by
  have := h.2.1
  unfold sStart
  split <;> omega
/-- one stands at the start: no room -/
theorem free_at {S : gSt} (h : WF S) {i : Nat} (hi : i ∈ S.2.1 2) (hp : sPos S i = sStart S) : sFree S = false := by
  unfold sFree
  rcases List.eq_nil_or_concat (S.2.1 2) with hz | ⟨zs, l, hz⟩
  · rw [hz] at hi; cases hi
  · have hz : S.2.1 2 = zs ++ [l] := hz.trans (List.concat_eq_append ..)
    have hl : (S.2.1 2).getLast? = some l := by rw [hz]; simp
    have hlm := getLast_mem hl
    rw [hl]
    simp only []
    by_cases he : S.2.2.2.1 l 1 = S.1 1
    · have hei := (h.2.2.2.2.2.2.1 i hi l hlm).trans he
      have hw := h.2.2.2.2.2.1 i hi
      have hpl := h.1.2.1
      have h0 : S.2.2.2.1 i 9 = 0 := by
        unfold sPos sStart at hp
        rw [hei] at hp
        split at hp <;> omega
      have hle : S.2.2.2.1 l 9 ≤ S.2.2.2.1 i 9 := by
        rw [hz] at hi
        rcases List.mem_append.mp hi with q | q
        · exact Nat.le_of_lt (last_min h hz i q)
        · rw [List.mem_singleton.mp q]; exact Nat.le_refl _
      rw [Bool.and_eq_false_iff]
      exact Or.inr (decide_eq_false (by omega))
    · rw [Bool.and_eq_false_iff]
      exact Or.inl (decide_eq_false he)
theorem free_back {S : gSt} (h : WF S) (hb : sBk S (S.1 2) = true) : sFree S = false := by
  unfold sBk at hb
  rw [List.any_eq_true] at hb
  obtain ⟨j, hj, h2⟩ := hb
  simp only [decide_eq_true_eq] at h2
  unfold sFree
  rcases List.eq_nil_or_concat (S.2.1 2) with hz | ⟨zs, l, hz⟩
  · rw [hz] at hj; cases hj
  · have hz : S.2.1 2 = zs ++ [l] := hz.trans (List.concat_eq_append ..)
    have hl : (S.2.1 2).getLast? = some l := by rw [hz]; simp
    rw [hl]
    simp only []
    rw [Bool.and_eq_false_iff]
    exact Or.inl (decide_eq_false (fun q => h2.2 ((h.2.2.2.2.2.2.1 j hj l (getLast_mem hl)).trans q)))
theorem free_yes {S : gSt} (h : WF S) (hno : ∀ i, i ∈ S.2.1 2 → sPos S i ≠ sStart S) (hb : ¬ sBk S (S.1 2) = true) : sFree S = true := by
  unfold sFree
  rcases List.eq_nil_or_concat (S.2.1 2) with hz | ⟨zs, l, hz⟩
  · rw [hz]; rfl
  · have hz : S.2.1 2 = zs ++ [l] := hz.trans (List.concat_eq_append ..)
    have hl : (S.2.1 2).getLast? = some l := by rw [hz]; simp
    have hlm := getLast_mem hl
    have he : S.2.2.2.1 l 1 = S.1 1 := Classical.byContradiction (fun q => hb (sBk_yes hlm (h.pos hlm) q))
    rw [hl]
    simp only []
    have h0 : 0 < S.2.2.2.1 l 9 := by
      refine Nat.pos_of_ne_zero (fun q => hno l hlm ?_)
      unfold sPos sStart
      rw [he, q]
      rfl
    simp [he, h0]
theorem sCome_no {S : gSt} {i : Nat} {ys : List Nat} (hq : S.2.1 (S.1 1) = i :: ys) (h : sRoom S i = false) : sCome S = S := by
  unfold sCome
  rw [hq]
  simp only []
  rw [if_neg (by rw [h]; decide)]
theorem sCome_nil {S : gSt} (hq : S.2.1 (S.1 1) = []) : sCome S = S := by
  unfold sCome
  rw [hq]
theorem room_free {S : gSt} {i : Nat} (h : sFree S = false) : sRoom S i = false := by unfold sRoom; rw [h]; rfl
theorem kept_eq {S : gSt} {i : Nat} (ha : 1 ≤ S.2.2.2.1 i 2) (hc : S.2.2.2.1 i 6 ≤ 1) : sDue S i + S.2.2.2.1 i 6 * (S.2.2.2.1 i 2 - 1) * S.1 4 = sToll S (S.2.2.2.1 i 2) (S.2.2.2.1 i 3) := by
  unfold sDue sToll
  have hx : S.2.2.2.1 i 6 = 0 ∨ S.2.2.2.1 i 6 = 1 := by omega
  rcases hx with q | q
  · rw [q, if_pos rfl]; simp
  · rw [q, if_neg (by decide)]
    obtain ⟨a, ha2⟩ : ∃ a, S.2.2.2.1 i 2 = a + 1 := ⟨S.2.2.2.1 i 2 - 1, by omega⟩
    rw [ha2, Nat.add_sub_cancel, Nat.one_mul, Nat.one_mul, Nat.succ_mul]
    omega
theorem nI_sad {c d h k : Nat} (hh : d + k = h) (hd : d ≤ c) : nI c - nI h + nI k = nI (c - d) := by
  obtain ⟨x, rfl⟩ : ∃ x, c = x + d := ⟨c - d, by omega⟩
  rw [← hh, ← nI_add, ← nI_add, Nat.add_sub_cancel]
  generalize nI x = X
  generalize nI d = D
  generalize nI k = E
  rw [Int32.sub_eq_add_neg, Int32.neg_add, Int32.sub_eq_add_neg]
  rw [Int32.add_assoc X D, ← Int32.add_assoc D, Int32.add_right_neg, Int32.zero_add, Int32.add_assoc, Int32.add_left_neg, Int32.add_zero]
theorem RowM.len {V : gMem} {k e : Nat} {xs : List Nat} (h : RowM V k e xs) : V 27 k 0 (5 * e + 3) = nI xs.length := h.1

abbrev rmX7_comeOn : Room := { frames := 2, cells := 0, slots := 0, locals := 62 }
set_option maxRecDepth 20000 in
theorem k_mcomeOn {l : Launch} {B : gB} (hI : gI B) (V : gMem) (k : Nat) (S : gSt) (hk : k < 2) (hA : AbsM V k S) (hw : WF S) : gM l B yX7_comeOn cX7_comeOn 5 none rmX7_comeOn [.ref (B.2.1 23 k 0)] V (fun v V' => v = none ∧ stmod V V' k ∧ AbsM V' k (sCome S)) := by
  refine gM_of (own := RX7) (L := [(0, .ref (B.2.1 23 k 0))]) (by decide +kernel) rfl hI (Nat.le_of_ble_eq_true rfl) rfl ?_
  intro Z hnL hR X F
  have hN : S.1 6 ≤ 16 := hw.1.2.2.2.2.2
  have hpl := hw.1.2.1
  have hd : S.1 1 < 2 := by have := hw.1.1; omega
  have hss := sStart_lt hw.1
  have hWl : sW S ≤ 3200 := by
    have h1 := sum_le (f := fun i => S.2.2.2.1 i 3) (c := 200) (fun i hi => (hw.2.1 i (hw.mem hi)).2.2.1)
    have h2 := nodup_le (S.1 6) (S.2.1 2) hw.ne (fun x hx => hw.mem hx)
    have h3 : (S.2.1 2).length * 200 ≤ 16 * 200 := Nat.mul_le_mul_right _ (by omega)
    unfold sW
    omega
  refine g_aload_n X 0 rfl dX7_comeOn_0 ?_
  refine gg_X7_open X (gP_23 (by first | assumption | decide | omega)) fX7_38 dX7_comeOn_1 ?_
  refine gG_top (nI (S.1 1)) (hA.1.2.1) ?_
  have rest : gG Z B (0, 0) V 20 [(0, .ref (B.2.1 23 k 0))] [.int (nI (sStart S))] := by
    refine g_istore_n X rfl dX7_comeOn_20 [(1, .int (nI (sStart S))), (0, .ref (B.2.1 23 k 0))] rfl (gnl_lt hnL (by decide)) ?_
    refine g_aload_n X 1 rfl dX7_comeOn_21 ?_
    refine gg_X7_box X (gP_23 (by first | assumption | decide | omega)) fX7_25 dX7_comeOn_22 ?_
    refine g_iconst X 5 (by decide) dX7_comeOn_25 ?_
    refine g_aload_n X 1 rfl dX7_comeOn_26 ?_
    refine gg_X7_open X (gP_23 (by first | assumption | decide | omega)) fX7_38 dX7_comeOn_27 ?_
    refine gG_top (nI (S.1 1)) (hA.1.2.1) ?_
    refine g_imul X dX7_comeOn_30 ?_
    refine gG_top (nI (5 * (S.1 1))) (pk_mul 5 (S.1 1)) ?_
    refine g_iconst X 3 (by decide) dX7_comeOn_31 ?_
    refine g_iadd X dX7_comeOn_32 ?_
    refine gG_top (nI ((5 * (S.1 1)) + 3)) (nI_add (5 * (S.1 1)) 3) ?_
    refine g_ialdN X (5 * S.1 1 + 3) rfl (by omega) (by decide) (gP_27 (by first | assumption | decide | omega)) rfl dX7_comeOn_33 ?_
    cases hq : S.2.1 (S.1 1) with
    | nil =>
      refine gG_top 0 (by rw [(hA.2.2.2.1 _ hd).1, hq]; rfl) ?_
      refine g_if_eq X 54 (by decide) dX7_comeOn_34 (fun c1 => ?_) (fun c1 => ?_)
      · refine g_vret X F ?_ rfl dX7_comeOn_54
        rw [show sCome S = S from sCome_nil hq]
        exact ⟨rfl, stmod.rf, hA⟩
      ·  exact absurd c1 (by decide)
    | cons i ys =>
      have hrow0 : RowM V k (S.1 1) (i :: ys) := by rw [← hq]; exact hA.2.2.2.1 _ hd
      have hiq : i ∈ S.2.1 (S.1 1) := by rw [hq]; exact List.mem_cons_self
      obtain ⟨hi, hst, hend⟩ := hw.qmem hd hiq
      have hci := hw.2.1 i hi
      refine gG_top (nI (ys.length + 1)) hrow0.1 ?_
      refine g_if_eq X 54 (by decide) dX7_comeOn_34 (fun c2 => ?_) (fun c2 => ?_)
      · first | exact absurd (nI_ne0 (by omega) (by have := hrow0.2.1; simp only [List.length_cons] at this; omega)) c2 | exact absurd c2 (nI_ne0 (by omega) (by have := hrow0.2.1; simp only [List.length_cons] at this; omega))
      · refine g_aload_n X 1 rfl dX7_comeOn_37 ?_
        refine gg_X7_at X (gP_23 (by first | assumption | decide | omega)) fX7_19 dX7_comeOn_38 ?_
        refine g_iload_n X 0 rfl dX7_comeOn_41 ?_
        refine g_ialdN X (sStart S) rfl (by omega) (by decide) (gP_25 (by first | assumption | decide | omega)) rfl dX7_comeOn_42 ?_
        rcases hA.at hw (p := sStart S) (by omega) with ⟨j, hj2, hpj, hat⟩ | ⟨hno, hat⟩
        · have hjN := hw.mem hj2
          refine gG_top (nI j) hat ?_
          refine g_iconst X (-1) (by decide) dX7_comeOn_43 ?_
          refine g_icmp_ne X 54 (by decide) dX7_comeOn_44 (fun c3 => ?_) (fun c3 => ?_)
          · refine g_vret X F ?_ rfl dX7_comeOn_54
            rw [show sCome S = S from sCome_no hq (room_free (free_at hw hj2 hpj))]
            exact ⟨rfl, stmod.rf, hA⟩
          · first | exact absurd (nI_ne_m1 (by omega)) c3 | exact absurd c3 (nI_ne_m1 (by omega))
        · refine gG_top (-1) hat ?_
          refine g_iconst X (-1) (by decide) dX7_comeOn_43 ?_
          refine g_icmp_ne X 54 (by decide) dX7_comeOn_44 (fun c4 => ?_) (fun c4 => ?_)
          ·  exact absurd c4 (by decide)
          · refine g_aload_n X 1 rfl dX7_comeOn_47 ?_
            refine g_callV X hR (rest := []) mX7_isBack lX7_66 (k_isBack hI V k S (by first | assumption | decide | omega) hA hw) rfl rfl (Nat.le_of_ble_eq_true rfl) (gP_23 (by first | assumption | decide | omega)) rfl rfl rfl ⟨Nat.le_of_ble_eq_true rfl, Nat.le_of_ble_eq_true rfl, Nat.le_of_ble_eq_true rfl, Nat.le_of_ble_eq_true rfl⟩ dX7_comeOn_48 (fun r5 V6 hz_7 => ?_)
            refine gG_ret hz_7.1 hz_7.2 ?_
            refine gG_st [.int (if sBk S (S.1 2) = true then 1 else 0)] rfl ?_
            by_cases hbk : sBk S (S.1 2) = true
            · refine gG_top 1 (if_pos hbk) ?_
              refine g_if_eq X 55 (by decide) dX7_comeOn_51 (fun c8 => ?_) (fun c8 => ?_)
              ·  exact absurd c8 (by decide)
              · refine g_vret X F ?_ rfl dX7_comeOn_54
                rw [show sCome S = S from sCome_no hq (room_free (free_back hw hbk))]
                exact ⟨rfl, stmod.rf, hA⟩
            · refine gG_top 0 (if_neg hbk) ?_
              have hfree := free_yes hw hno hbk
              refine g_if_eq X 55 (by decide) dX7_comeOn_51 (fun c9 => ?_) (fun c9 => ?_)
              · refine g_aload_n X 1 rfl dX7_comeOn_55 ?_
                refine gg_X7_row X (gP_23 (by first | assumption | decide | omega)) fX7_22 dX7_comeOn_56 ?_
                refine g_bipush X 16 (by decide) dX7_comeOn_59 ?_
                refine g_aload_n X 1 rfl dX7_comeOn_61 ?_
                refine gg_X7_open X (gP_23 (by first | assumption | decide | omega)) fX7_38 dX7_comeOn_62 ?_
                refine gG_top (nI (S.1 1)) (hA.1.2.1) ?_
                refine g_imul X dX7_comeOn_65 ?_
                refine gG_top (nI (16 * (S.1 1))) (pk_mul 16 (S.1 1)) ?_
                refine g_ialdN X (16 * S.1 1) rfl (by omega) (by decide) (gP_26 (by first | assumption | decide | omega)) rfl dX7_comeOn_66 ?_
                refine gG_top (nI i) (hrow0.2.2 0 (Nat.succ_pos _)) ?_
                refine g_istore_n X rfl dX7_comeOn_67 [(2, .int (nI i)), (1, .int (nI (sStart S))), (0, .ref (B.2.1 23 k 0))] rfl (gnl_lt hnL (by decide)) ?_
                refine g_aload_n X 2 rfl dX7_comeOn_68 ?_
                refine g_callV X hR (rest := []) mX7_weight lX7_70 (k_mweight hI V k S (by first | assumption | decide | omega) hA hw) rfl rfl (Nat.le_of_ble_eq_true rfl) (gP_23 (by first | assumption | decide | omega)) rfl rfl rfl ⟨Nat.le_of_ble_eq_true rfl, Nat.le_of_ble_eq_true rfl, Nat.le_of_ble_eq_true rfl, Nat.le_of_ble_eq_true rfl⟩ dX7_comeOn_69 (fun r10 V11 hz_12 => ?_)
                refine gG_ret hz_12.1 hz_12.2 ?_
                refine gG_st [.int (nI (sW S))] rfl ?_
                refine g_aload_n X 2 rfl dX7_comeOn_72 ?_
                refine g_iload_n X 0 rfl dX7_comeOn_73 ?_
                refine g_iconst X 1 (by decide) dX7_comeOn_74 ?_
                refine g_callV X hR (rest := [.int (nI (sW S))]) mX7_own lX7_52 (k_ownM hI V k S i 1 (by first | assumption | decide | omega) hA (by first | assumption | decide | omega) (by first | assumption | decide | omega) (by decide)) rfl rfl (Nat.le_of_ble_eq_true rfl) (gP_23 (by first | assumption | decide | omega)) rfl rfl rfl ⟨Nat.le_of_ble_eq_true rfl, Nat.le_of_ble_eq_true rfl, Nat.le_of_ble_eq_true rfl, Nat.le_of_ble_eq_true rfl⟩ dX7_comeOn_75 (fun r13 V14 hz_15 => ?_)
                refine gG_ret hz_15.1 hz_15.2 ?_
                refine gG_st [.int (nI (S.2.2.2.1 i 3)), .int (nI (sW S))] rfl ?_
                have hi3 := hci.2.2.1
                refine g_iadd X dX7_comeOn_78 ?_
                refine gG_top (nI ((sW S) + (S.2.2.2.1 i 3))) (nI_add (sW S) (S.2.2.2.1 i 3)) ?_
                refine g_aload_n X 2 rfl dX7_comeOn_79 ?_
                refine gg_X7_this_0 X (gP_23 (by first | assumption | decide | omega)) fX7_3 dX7_comeOn_80 ?_
                refine gg_X8_bears X ⟨by decide, by decide⟩ fX7_74 dX7_comeOn_83 ?_
                refine gG_top (nI (S.1 3)) (hA.2.2.2.2.2.2.1) ?_
                by_cases hr : sW S + S.2.2.2.1 i 3 ≤ S.1 3
                · skip
                  refine g_icmp_le X 90 (by decide) dX7_comeOn_86 (fun c16 => ?_) (fun c16 => ?_)
                  · refine g_aload_n X 2 rfl dX7_comeOn_90 ?_
                    refine g_aload_n X 2 rfl dX7_comeOn_91 ?_
                    refine gg_X7_open X (gP_23 (by first | assumption | decide | omega)) fX7_38 dX7_comeOn_92 ?_
                    refine gG_top (nI (S.1 1)) (hA.1.2.1) ?_
                    refine g_callV X hR (rest := []) mX7_first lX7_77 (k_first hI V k (S.1 1) i ys (by first | assumption | decide | omega) (by first | assumption | decide | omega) hrow0) rfl rfl (Nat.le_of_ble_eq_true rfl) (gP_23 (by first | assumption | decide | omega)) rfl rfl rfl ⟨Nat.le_of_ble_eq_true rfl, Nat.le_of_ble_eq_true rfl, Nat.le_of_ble_eq_true rfl, Nat.le_of_ble_eq_true rfl⟩ dX7_comeOn_95 (fun r17 V18 hz_19 => ?_)
                    refine gG_rv hz_19.1 ?_
                    obtain ⟨-, hrowV18, hmodV18⟩ := hz_19
                    refine gG_st [.int (nI i)] rfl ?_
                    have hroom : sRoom S i = true := by unfold sRoom; rw [hfree]; simpa using hr
                    obtain ⟨S20, eS20⟩ : ∃ y, y = sQ S (S.1 1) ys := ⟨_, rfl⟩
                    have hS20 : AbsM V18 k S20 := by rw [eS20]; exact hA.deq hrowV18 hmodV18
                    have nS20 : S20.1 = S.1 := by rw [eS20]; exact rfl
                    have mS20 : stmod V V18 k := hmodV18.st
                    have hc1 : sCartOk S20 i := by rw [eS20]; exact hci
                    have hi1 : i < S20.1 6 := by rw [nS20]; exact hi
                    have hst1 : S20.2.2.2.1 i 8 = 0 := by rw [eS20]; exact hst
                    have hke := kept_eq (S := S20) (i := i) hc1.2.1.1 hc1.2.2.2.2.2.1
                    rw [nS20] at hke
                    have hH := sToll_le (S := S20) (by unfold sNumOk; rw [nS20]; exact hw.1) hc1.2.1.2 hc1.2.2.1
                    have hfr1 : ∀ j, j < S20.1 6 → S20.2.2.2.1 j 8 = 1 → sPos S20 j ≠ sStart S := fun j hj h8 => by
                      rw [nS20] at hj
                      rw [eS20] at h8 ⊢
                      exact hno j (hw.on hj h8)
                    refine g_pop X rfl dX7_comeOn_98 ?_
                    refine g_aload_n X 2 rfl dX7_comeOn_99 ?_
                    refine g_iload_n X 0 rfl dX7_comeOn_100 ?_
                    refine g_bipush X 9 (by decide) dX7_comeOn_101 ?_
                    refine g_callV X hR (rest := []) mX7_own lX7_52 (k_ownM hI V18 k S20 i 9 (by first | assumption | decide | omega) hS20 (by first | omega | (rw [nS20]; first | assumption | omega)) (by first | omega | (rw [nS20]; first | assumption | omega)) (by decide)) rfl rfl (Nat.le_of_ble_eq_true rfl) (gP_23 (by first | assumption | decide | omega)) rfl rfl rfl ⟨Nat.le_of_ble_eq_true rfl, Nat.le_of_ble_eq_true rfl, Nat.le_of_ble_eq_true rfl, Nat.le_of_ble_eq_true rfl⟩ dX7_comeOn_103 (fun r21 V22 hz_23 => ?_)
                    refine gG_ret hz_23.1 hz_23.2 ?_
                    refine gG_st [.int (nI (S20.2.2.2.1 i 7))] rfl ?_
                    by_cases hp : S20.2.2.2.1 i 7 = 0
                    · refine gG_top 0 (by rw [hp]; rfl) ?_
                      refine g_if_ne X 289 (by decide) dX7_comeOn_106 (fun c24 => ?_) (fun c24 => ?_)
                      ·  exact absurd c24 (by decide)
                      · refine g_aload_n X 2 rfl dX7_comeOn_109 ?_
                        refine g_iload_n X 0 rfl dX7_comeOn_110 ?_
                        refine g_iconst X 0 (by decide) dX7_comeOn_111 ?_
                        refine g_callV X hR (rest := []) mX7_own lX7_52 (k_ownM hI V18 k S20 i 0 (by first | assumption | decide | omega) hS20 (by first | omega | (rw [nS20]; first | assumption | omega)) (by first | omega | (rw [nS20]; first | assumption | omega)) (by decide)) rfl rfl (Nat.le_of_ble_eq_true rfl) (gP_23 (by first | assumption | decide | omega)) rfl rfl rfl ⟨Nat.le_of_ble_eq_true rfl, Nat.le_of_ble_eq_true rfl, Nat.le_of_ble_eq_true rfl, Nat.le_of_ble_eq_true rfl⟩ dX7_comeOn_112 (fun r25 V26 hz_27 => ?_)
                        refine gG_ret hz_27.1 hz_27.2 ?_
                        refine gG_st [.int (nI (S20.2.2.2.1 i 2))] rfl ?_
                        refine g_aload_n X 2 rfl dX7_comeOn_115 ?_
                        refine gg_X7_this_0 X (gP_23 (by first | assumption | decide | omega)) fX7_3 dX7_comeOn_116 ?_
                        refine gg_X8_axleToll X ⟨by decide, by decide⟩ fX7_81 dX7_comeOn_119 ?_
                        refine gG_top (nI (S.1 4)) ((hS20.2.2.2.2.2.2.2.1).trans (by rw [nS20])) ?_
                        refine g_imul X dX7_comeOn_122 ?_
                        refine gG_top (nI ((S20.2.2.2.1 i 2) * (S.1 4))) (pk_mul (S20.2.2.2.1 i 2) (S.1 4)) ?_
                        refine g_aload_n X 2 rfl dX7_comeOn_123 ?_
                        refine g_iload_n X 0 rfl dX7_comeOn_124 ?_
                        refine g_iconst X 1 (by decide) dX7_comeOn_125 ?_
                        refine g_callV X hR (rest := [.int (nI ((S20.2.2.2.1 i 2) * (S.1 4)))]) mX7_own lX7_52 (k_ownM hI V18 k S20 i 1 (by first | assumption | decide | omega) hS20 (by first | omega | (rw [nS20]; first | assumption | omega)) (by first | omega | (rw [nS20]; first | assumption | omega)) (by decide)) rfl rfl (Nat.le_of_ble_eq_true rfl) (gP_23 (by first | assumption | decide | omega)) rfl rfl rfl ⟨Nat.le_of_ble_eq_true rfl, Nat.le_of_ble_eq_true rfl, Nat.le_of_ble_eq_true rfl, Nat.le_of_ble_eq_true rfl⟩ dX7_comeOn_126 (fun r28 V29 hz_30 => ?_)
                        refine gG_ret hz_30.1 hz_30.2 ?_
                        refine gG_st [.int (nI (S20.2.2.2.1 i 3)), .int (nI ((S20.2.2.2.1 i 2) * (S.1 4)))] rfl ?_
                        refine g_bipush X 10 (by decide) dX7_comeOn_129 ?_
                        refine g_idiv X (by decide) dX7_comeOn_131 ?_
                        refine gG_top (nI (S20.2.2.2.1 i 3 / 10)) (pk_div (d := 10) (by have := hc1.2.2.1; omega) (by decide) (by decide)) ?_
                        refine g_aload_n X 2 rfl dX7_comeOn_132 ?_
                        refine gg_X7_this_0 X (gP_23 (by first | assumption | decide | omega)) fX7_3 dX7_comeOn_133 ?_
                        refine gg_X8_tenToll X ⟨by decide, by decide⟩ fX7_84 dX7_comeOn_136 ?_
                        refine gG_top (nI (S.1 5)) ((hS20.2.2.2.2.2.2.2.2).trans (by rw [nS20])) ?_
                        refine g_imul X dX7_comeOn_139 ?_
                        refine gG_top (nI ((S20.2.2.2.1 i 3 / 10) * (S.1 5))) (pk_mul (S20.2.2.2.1 i 3 / 10) (S.1 5)) ?_
                        refine g_iadd X dX7_comeOn_140 ?_
                        refine gG_top (nI (((S20.2.2.2.1 i 2) * (S.1 4)) + ((S20.2.2.2.1 i 3 / 10) * (S.1 5)))) (nI_add ((S20.2.2.2.1 i 2) * (S.1 4)) ((S20.2.2.2.1 i 3 / 10) * (S.1 5))) ?_
                        refine gG_top (nI (sToll S20 (S20.2.2.2.1 i 2) (S20.2.2.2.1 i 3))) (by unfold sToll; rw [nS20]) ?_
                        refine g_istore_n X rfl dX7_comeOn_141 [(3, .int (nI (sToll S20 (S20.2.2.2.1 i 2) (S20.2.2.2.1 i 3)))), (2, .int (nI i)), (1, .int (nI (sStart S))), (0, .ref (B.2.1 23 k 0))] rfl (gnl_lt hnL (by decide)) ?_
                        refine g_aload_n X 3 rfl dX7_comeOn_142 ?_
                        refine g_iload_n X 1 rfl dX7_comeOn_143 ?_
                        refine g_bipush X 7 (by decide) dX7_comeOn_144 ?_
                        refine g_callV X hR (rest := []) mX7_own lX7_52 (k_ownM hI V18 k S20 i 7 (by first | assumption | decide | omega) hS20 (by first | omega | (rw [nS20]; first | assumption | omega)) (by first | omega | (rw [nS20]; first | assumption | omega)) (by decide)) rfl rfl (Nat.le_of_ble_eq_true rfl) (gP_23 (by first | assumption | decide | omega)) rfl rfl rfl ⟨Nat.le_of_ble_eq_true rfl, Nat.le_of_ble_eq_true rfl, Nat.le_of_ble_eq_true rfl, Nat.le_of_ble_eq_true rfl⟩ dX7_comeOn_146 (fun r31 V32 hz_33 => ?_)
                        refine gG_ret hz_33.1 hz_33.2 ?_
                        refine gG_st [.int (nI (S20.2.2.2.1 i 6))] rfl ?_
                        refine g_aload_n X 3 rfl dX7_comeOn_149 ?_
                        refine g_iload_n X 1 rfl dX7_comeOn_150 ?_
                        refine g_iconst X 0 (by decide) dX7_comeOn_151 ?_
                        refine g_callV X hR (rest := [.int (nI (S20.2.2.2.1 i 6))]) mX7_own lX7_52 (k_ownM hI V18 k S20 i 0 (by first | assumption | decide | omega) hS20 (by first | omega | (rw [nS20]; first | assumption | omega)) (by first | omega | (rw [nS20]; first | assumption | omega)) (by decide)) rfl rfl (Nat.le_of_ble_eq_true rfl) (gP_23 (by first | assumption | decide | omega)) rfl rfl rfl ⟨Nat.le_of_ble_eq_true rfl, Nat.le_of_ble_eq_true rfl, Nat.le_of_ble_eq_true rfl, Nat.le_of_ble_eq_true rfl⟩ dX7_comeOn_152 (fun r34 V35 hz_36 => ?_)
                        refine gG_ret hz_36.1 hz_36.2 ?_
                        refine gG_st [.int (nI (S20.2.2.2.1 i 2)), .int (nI (S20.2.2.2.1 i 6))] rfl ?_
                        refine g_iconst X 1 (by decide) dX7_comeOn_155 ?_
                        refine g_isub X dX7_comeOn_156 ?_
                        refine gG_top (nI (S20.2.2.2.1 i 2 - 1)) (nI_dec (by have := hc1.2.1.1; omega)) ?_
                        refine g_imul X dX7_comeOn_157 ?_
                        refine gG_top (nI ((S20.2.2.2.1 i 6) * (S20.2.2.2.1 i 2 - 1))) (pk_mul (S20.2.2.2.1 i 6) (S20.2.2.2.1 i 2 - 1)) ?_
                        refine g_aload_n X 3 rfl dX7_comeOn_158 ?_
                        refine gg_X7_this_0 X (gP_23 (by first | assumption | decide | omega)) fX7_3 dX7_comeOn_159 ?_
                        refine gg_X8_axleToll X ⟨by decide, by decide⟩ fX7_81 dX7_comeOn_162 ?_
                        refine gG_top (nI (S.1 4)) ((hS20.2.2.2.2.2.2.2.1).trans (by rw [nS20])) ?_
                        refine g_imul X dX7_comeOn_165 ?_
                        refine gG_top (nI (((S20.2.2.2.1 i 6) * (S20.2.2.2.1 i 2 - 1)) * (S.1 4))) (pk_mul ((S20.2.2.2.1 i 6) * (S20.2.2.2.1 i 2 - 1)) (S.1 4)) ?_
                        refine g_istore X dX7_comeOn_166 [(4, .int (nI (((S20.2.2.2.1 i 6) * (S20.2.2.2.1 i 2 - 1)) * (S.1 4)))), (3, .int (nI (sToll S20 (S20.2.2.2.1 i 2) (S20.2.2.2.1 i 3)))), (2, .int (nI i)), (1, .int (nI (sStart S))), (0, .ref (B.2.1 23 k 0))] rfl (gnl_lt hnL (by decide)) ?_
                        refine g_iload_n X 1 rfl dX7_comeOn_168 ?_
                        refine g_iload X 0 rfl dX7_comeOn_169 ?_
                        refine g_isub X dX7_comeOn_171 ?_
                        refine gG_top (nI (sDue S20 i)) (by rw [← hke, pk_sub (Nat.le_add_left _ _), Nat.add_sub_cancel]) ?_
                        refine g_aload_n X 4 rfl dX7_comeOn_172 ?_
                        refine g_iload_n X 2 rfl dX7_comeOn_173 ?_
                        refine g_iconst X 3 (by decide) dX7_comeOn_174 ?_
                        refine g_callV X hR (rest := [.int (nI (sDue S20 i))]) mX7_own lX7_52 (k_ownM hI V18 k S20 i 3 (by first | assumption | decide | omega) hS20 (by first | omega | (rw [nS20]; first | assumption | omega)) (by first | omega | (rw [nS20]; first | assumption | omega)) (by decide)) rfl rfl (Nat.le_of_ble_eq_true rfl) (gP_23 (by first | assumption | decide | omega)) rfl rfl rfl ⟨Nat.le_of_ble_eq_true rfl, Nat.le_of_ble_eq_true rfl, Nat.le_of_ble_eq_true rfl, Nat.le_of_ble_eq_true rfl⟩ dX7_comeOn_175 (fun r37 V38 hz_39 => ?_)
                        refine gG_ret hz_39.1 hz_39.2 ?_
                        refine gG_st [.int (nI (S20.2.2.2.1 i 5)), .int (nI (sDue S20 i))] rfl ?_
                        by_cases hd2 : S20.2.2.2.1 i 5 < sDue S20 i
                        · skip
                          refine g_icmp_le X 189 (by decide) dX7_comeOn_178 (fun c40 => ?_) (fun c40 => ?_)
                          · first | exact absurd (nI_ge (by omega) (by omega)) c40 | exact absurd c40 (nI_ge (by omega) (by omega))
                          · refine g_aload_n X 4 rfl dX7_comeOn_181 ?_
                            refine g_iload_n X 2 rfl dX7_comeOn_182 ?_
                            refine g_iconst X 5 (by decide) dX7_comeOn_183 ?_
                            refine g_iconst X 3 (by decide) dX7_comeOn_184 ?_
                            refine g_callV X hR (rest := []) mX7_set lX7_48 (k_set hI V18 k i 5 3 (by first | assumption | decide | omega) (by first | omega | (rw [nS20]; first | assumption | omega)) (by first | assumption | decide | omega)) rfl rfl (Nat.le_of_ble_eq_true rfl) (gP_23 (by first | assumption | decide | omega)) rfl rfl rfl ⟨Nat.le_of_ble_eq_true rfl, Nat.le_of_ble_eq_true rfl, Nat.le_of_ble_eq_true rfl, Nat.le_of_ble_eq_true rfl⟩ dX7_comeOn_185 (fun r41 V42 hz_43 => ?_)
                            refine gG_rv hz_43.1 ?_
                            have hV42 := hz_43.2
                            refine gG_st [] rfl ?_
                            refine g_vret X F ?_ rfl dX7_comeOn_188
                            have hfin : sCome S = sC S20 i 8 3 := by
                              rw [sCome_eq hq hroom, ← eS20]
                              rw [if_pos ⟨hp, hd2⟩]
                            rw [hfin]
                            refine ⟨rfl, ?_, ?_⟩
                            · rw [hV42]; exact mS20.up (by decide) (by decide)
                            · rw [hV42]
                              exact hS20.setW i 3 (by rw [hst1]; decide) (by decide)
                        · skip
                          refine g_icmp_le X 189 (by decide) dX7_comeOn_178 (fun c44 => ?_) (fun c44 => ?_)
                          · refine g_aload_n X 4 rfl dX7_comeOn_189 ?_
                            refine g_iload_n X 2 rfl dX7_comeOn_190 ?_
                            refine g_iconst X 3 (by decide) dX7_comeOn_191 ?_
                            refine g_aload_n X 4 rfl dX7_comeOn_192 ?_
                            refine g_iload_n X 2 rfl dX7_comeOn_193 ?_
                            refine g_iconst X 3 (by decide) dX7_comeOn_194 ?_
                            refine g_callV X hR (rest := [.int 3, .int (nI i), .ref (B.2.1 23 k 0)]) mX7_own lX7_52 (k_ownM hI V18 k S20 i 3 (by first | assumption | decide | omega) hS20 (by first | omega | (rw [nS20]; first | assumption | omega)) (by first | omega | (rw [nS20]; first | assumption | omega)) (by decide)) rfl rfl (Nat.le_of_ble_eq_true rfl) (gP_23 (by first | assumption | decide | omega)) rfl rfl rfl ⟨Nat.le_of_ble_eq_true rfl, Nat.le_of_ble_eq_true rfl, Nat.le_of_ble_eq_true rfl, Nat.le_of_ble_eq_true rfl⟩ dX7_comeOn_195 (fun r45 V46 hz_47 => ?_)
                            refine gG_ret hz_47.1 hz_47.2 ?_
                            refine gG_st [.int (nI (S20.2.2.2.1 i 5)), .int 3, .int (nI i), .ref (B.2.1 23 k 0)] rfl ?_
                            refine g_iload_n X 1 rfl dX7_comeOn_198 ?_
                            refine g_isub X dX7_comeOn_199 ?_
                            refine g_iload X 0 rfl dX7_comeOn_200 ?_
                            refine g_iadd X dX7_comeOn_202 ?_
                            refine gG_top (nI (S20.2.2.2.1 i 5 - sDue S20 i)) (nI_sad hke (by omega)) ?_
                            refine g_callV X hR (rest := []) mX7_set lX7_48 (k_set hI V18 k i 3 (nI (S20.2.2.2.1 i 5 - sDue S20 i)) (by first | assumption | decide | omega) (by first | omega | (rw [nS20]; first | assumption | omega)) (by first | assumption | decide | omega)) rfl rfl (Nat.le_of_ble_eq_true rfl) (gP_23 (by first | assumption | decide | omega)) rfl rfl rfl ⟨Nat.le_of_ble_eq_true rfl, Nat.le_of_ble_eq_true rfl, Nat.le_of_ble_eq_true rfl, Nat.le_of_ble_eq_true rfl⟩ dX7_comeOn_203 (fun r48 V49 hz_50 => ?_)
                            refine gG_rv hz_50.1 ?_
                            have hV49 := hz_50.2
                            refine gG_st [] rfl ?_
                            obtain ⟨S51, eS51⟩ : ∃ y, y = sC S20 i 5 (S20.2.2.2.1 i 5 - sDue S20 i) := ⟨_, rfl⟩
                            have hS51 : AbsM V49 k S51 := by rw [eS51, hV49]; exact hS20.setF i (S20.2.2.2.1 i 5 - sDue S20 i) 3 5 (by decide)
                            have nS51 : S51.1 = S.1 := by rw [eS51]; exact nS20
                            have mS51 : stmod V V49 k := by rw [hV49]; exact mS20.up (by decide) (by decide)
                            refine g_aload_n X 4 rfl dX7_comeOn_206 ?_
                            refine g_iload_n X 2 rfl dX7_comeOn_207 ?_
                            refine g_bipush X 9 (by decide) dX7_comeOn_208 ?_
                            refine g_iconst X 1 (by decide) dX7_comeOn_210 ?_
                            refine g_callV X hR (rest := []) mX7_set lX7_48 (k_set hI V49 k i 9 1 (by first | assumption | decide | omega) (by first | omega | (rw [nS51]; first | assumption | omega)) (by first | assumption | decide | omega)) rfl rfl (Nat.le_of_ble_eq_true rfl) (gP_23 (by first | assumption | decide | omega)) rfl rfl rfl ⟨Nat.le_of_ble_eq_true rfl, Nat.le_of_ble_eq_true rfl, Nat.le_of_ble_eq_true rfl, Nat.le_of_ble_eq_true rfl⟩ dX7_comeOn_211 (fun r52 V53 hz_54 => ?_)
                            refine gG_rv hz_54.1 ?_
                            have hV53 := hz_54.2
                            refine gG_st [] rfl ?_
                            obtain ⟨S55, eS55⟩ : ∃ y, y = sC S51 i 7 1 := ⟨_, rfl⟩
                            have hS55 : AbsM V53 k S55 := by rw [eS55, hV53]; exact hS51.setF i 1 9 7 (by decide)
                            have nS55 : S55.1 = S.1 := by rw [eS55]; exact nS51
                            have mS55 : stmod V V53 k := by rw [hV53]; exact mS51.up (by decide) (by decide)
                            refine g_aload_n X 4 rfl dX7_comeOn_214 ?_
                            refine gg_X7_box X (gP_23 (by first | assumption | decide | omega)) fX7_25 dX7_comeOn_215 ?_
                            refine g_iconst X 5 (by decide) dX7_comeOn_218 ?_
                            refine g_aload_n X 4 rfl dX7_comeOn_219 ?_
                            refine gg_X7_open X (gP_23 (by first | assumption | decide | omega)) fX7_38 dX7_comeOn_220 ?_
                            refine gG_top (nI (S.1 1)) ((hS55.1.2.1).trans (by rw [nS55])) ?_
                            refine g_imul X dX7_comeOn_223 ?_
                            refine gG_top (nI (5 * (S.1 1))) (pk_mul 5 (S.1 1)) ?_
                            refine g_dup2 X rfl rfl dX7_comeOn_224 ?_
                            refine g_ialdN X (5 * S.1 1) rfl (by omega) (by decide) (gP_27 (by first | assumption | decide | omega)) rfl dX7_comeOn_225 ?_
                            refine gG_top (nI (S55.2.2.1 (S.1 1) 1)) ((hS55.2.2.2.2.1 (S.1 1) hd).1) ?_
                            refine g_iload_n X 1 rfl dX7_comeOn_226 ?_
                            refine g_iload X 0 rfl dX7_comeOn_227 ?_
                            refine g_isub X dX7_comeOn_229 ?_
                            refine gG_top (nI (sDue S20 i)) (by rw [← hke, pk_sub (Nat.le_add_left _ _), Nat.add_sub_cancel]) ?_
                            refine g_iadd X dX7_comeOn_230 ?_
                            refine gG_top (nI ((S55.2.2.1 (S.1 1) 1) + (sDue S20 i))) (nI_add (S55.2.2.1 (S.1 1) 1) (sDue S20 i)) ?_
                            refine g_iastN X (5 * S.1 1) rfl (by omega) (by decide) (gP_27 (by first | assumption | decide | omega)) (fun _ => rfl) dX7_comeOn_231 ?_
                            refine gG_nm (fun V56 hV56 => ?_)
                            obtain ⟨S57, eS57⟩ : ∃ y, y = sG S55 (S.1 1) 1 (S55.2.2.1 (S.1 1) 1 + sDue S20 i) := ⟨_, rfl⟩
                            have hS57 : AbsM V56 k S57 := by rw [eS57, hV56]; exact hS55.setB (S.1 1) 0 1 (S55.2.2.1 (S.1 1) 1 + sDue S20 i) (by decide)
                            have nS57 : S57.1 = S.1 := by rw [eS57]; exact nS55
                            have mS57 : stmod V V56 k := by rw [hV56]; exact mS55.up (by decide) (by decide)
                            refine g_aload_n X 4 rfl dX7_comeOn_232 ?_
                            refine gg_X7_box X (gP_23 (by first | assumption | decide | omega)) fX7_25 dX7_comeOn_233 ?_
                            refine g_iconst X 5 (by decide) dX7_comeOn_236 ?_
                            refine g_aload_n X 4 rfl dX7_comeOn_237 ?_
                            refine gg_X7_open X (gP_23 (by first | assumption | decide | omega)) fX7_38 dX7_comeOn_238 ?_
                            refine gG_top (nI (S.1 1)) ((hS57.1.2.1).trans (by rw [nS57])) ?_
                            refine g_imul X dX7_comeOn_241 ?_
                            refine gG_top (nI (5 * (S.1 1))) (pk_mul 5 (S.1 1)) ?_
                            refine g_iconst X 1 (by decide) dX7_comeOn_242 ?_
                            refine g_iadd X dX7_comeOn_243 ?_
                            refine gG_top (nI ((5 * (S.1 1)) + 1)) (nI_1 _) ?_
                            refine g_dup2 X rfl rfl dX7_comeOn_244 ?_
                            refine g_ialdN X (5 * S.1 1 + 1) rfl (by omega) (by decide) (gP_27 (by first | assumption | decide | omega)) rfl dX7_comeOn_245 ?_
                            refine gG_top (nI (S57.2.2.1 (S.1 1) 2)) ((hS57.2.2.2.2.1 (S.1 1) hd).2.1) ?_
                            refine g_iconst X 1 (by decide) dX7_comeOn_246 ?_
                            refine g_iadd X dX7_comeOn_247 ?_
                            refine gG_top (nI ((S57.2.2.1 (S.1 1) 2) + 1)) (nI_1 _) ?_
                            refine g_iastN X (5 * S.1 1 + 1) rfl (by omega) (by decide) (gP_27 (by first | assumption | decide | omega)) (fun _ => rfl) dX7_comeOn_248 ?_
                            refine gG_nm (fun V58 hV58 => ?_)
                            obtain ⟨S59, eS59⟩ : ∃ y, y = sG S57 (S.1 1) 2 (S57.2.2.1 (S.1 1) 2 + 1) := ⟨_, rfl⟩
                            have hS59 : AbsM V58 k S59 := by rw [eS59, hV58]; exact hS57.setB (S.1 1) 1 2 (S57.2.2.1 (S.1 1) 2 + 1) (by decide)
                            have nS59 : S59.1 = S.1 := by rw [eS59]; exact nS57
                            have mS59 : stmod V V58 k := by rw [hV58]; exact mS57.up (by decide) (by decide)
                            refine g_aload_n X 4 rfl dX7_comeOn_249 ?_
                            refine gg_X7_box X (gP_23 (by first | assumption | decide | omega)) fX7_25 dX7_comeOn_250 ?_
                            refine g_iconst X 5 (by decide) dX7_comeOn_253 ?_
                            refine g_aload_n X 4 rfl dX7_comeOn_254 ?_
                            refine gg_X7_open X (gP_23 (by first | assumption | decide | omega)) fX7_38 dX7_comeOn_255 ?_
                            refine gG_top (nI (S.1 1)) ((hS59.1.2.1).trans (by rw [nS59])) ?_
                            refine g_imul X dX7_comeOn_258 ?_
                            refine gG_top (nI (5 * (S.1 1))) (pk_mul 5 (S.1 1)) ?_
                            refine g_iconst X 2 (by decide) dX7_comeOn_259 ?_
                            refine g_iadd X dX7_comeOn_260 ?_
                            refine gG_top (nI ((5 * (S.1 1)) + 2)) (nI_add (5 * (S.1 1)) 2) ?_
                            refine g_dup2 X rfl rfl dX7_comeOn_261 ?_
                            refine g_ialdN X (5 * S.1 1 + 2) rfl (by omega) (by decide) (gP_27 (by first | assumption | decide | omega)) rfl dX7_comeOn_262 ?_
                            refine gG_top (nI (S59.2.2.1 (S.1 1) 3)) ((hS59.2.2.2.2.1 (S.1 1) hd).2.2.1) ?_
                            refine g_aload_n X 4 rfl dX7_comeOn_263 ?_
                            refine g_iload_n X 2 rfl dX7_comeOn_264 ?_
                            refine g_iconst X 0 (by decide) dX7_comeOn_265 ?_
                            refine g_callV X hR (rest := [.int (nI (S59.2.2.1 (S.1 1) 3)), .int (nI ((5 * (S.1 1)) + 2)), .ref (B.2.1 27 k 0)]) mX7_own lX7_52 (k_ownM hI V58 k S59 i 0 (by first | assumption | decide | omega) hS59 (by first | omega | (rw [nS59]; first | assumption | omega)) (by first | omega | (rw [nS59]; first | assumption | omega)) (by decide)) rfl rfl (Nat.le_of_ble_eq_true rfl) (gP_23 (by first | assumption | decide | omega)) rfl rfl rfl ⟨Nat.le_of_ble_eq_true rfl, Nat.le_of_ble_eq_true rfl, Nat.le_of_ble_eq_true rfl, Nat.le_of_ble_eq_true rfl⟩ dX7_comeOn_266 (fun r60 V61 hz_62 => ?_)
                            refine gG_ret hz_62.1 hz_62.2 ?_
                            refine gG_st [.int (nI (S59.2.2.2.1 i 2)), .int (nI (S59.2.2.1 (S.1 1) 3)), .int (nI ((5 * (S.1 1)) + 2)), .ref (B.2.1 27 k 0)] rfl ?_
                            refine g_iadd X dX7_comeOn_269 ?_
                            refine gG_top (nI ((S59.2.2.1 (S.1 1) 3) + (S59.2.2.2.1 i 2))) (nI_add (S59.2.2.1 (S.1 1) 3) (S59.2.2.2.1 i 2)) ?_
                            refine g_iastN X (5 * S.1 1 + 2) rfl (by omega) (by decide) (gP_27 (by first | assumption | decide | omega)) (fun _ => rfl) dX7_comeOn_270 ?_
                            refine gG_nm (fun V63 hV63 => ?_)
                            obtain ⟨S64, eS64⟩ : ∃ y, y = sG S59 (S.1 1) 3 (S59.2.2.1 (S.1 1) 3 + S59.2.2.2.1 i 2) := ⟨_, rfl⟩
                            have hS64 : AbsM V63 k S64 := by rw [eS64, hV63]; exact hS59.setB (S.1 1) 2 3 (S59.2.2.1 (S.1 1) 3 + S59.2.2.2.1 i 2) (by decide)
                            have nS64 : S64.1 = S.1 := by rw [eS64]; exact nS59
                            have mS64 : stmod V V63 k := by rw [hV63]; exact mS59.up (by decide) (by decide)
                            refine g_aload_n X 4 rfl dX7_comeOn_271 ?_
                            refine gg_X7_box X (gP_23 (by first | assumption | decide | omega)) fX7_25 dX7_comeOn_272 ?_
                            refine g_iconst X 5 (by decide) dX7_comeOn_275 ?_
                            refine g_aload_n X 4 rfl dX7_comeOn_276 ?_
                            refine gg_X7_open X (gP_23 (by first | assumption | decide | omega)) fX7_38 dX7_comeOn_277 ?_
                            refine gG_top (nI (S.1 1)) ((hS64.1.2.1).trans (by rw [nS64])) ?_
                            refine g_imul X dX7_comeOn_280 ?_
                            refine gG_top (nI (5 * (S.1 1))) (pk_mul 5 (S.1 1)) ?_
                            refine g_iconst X 4 (by decide) dX7_comeOn_281 ?_
                            refine g_iadd X dX7_comeOn_282 ?_
                            refine gG_top (nI ((5 * (S.1 1)) + 4)) (nI_add (5 * (S.1 1)) 4) ?_
                            refine g_dup2 X rfl rfl dX7_comeOn_283 ?_
                            refine g_ialdN X (5 * S.1 1 + 4) rfl (by omega) (by decide) (gP_27 (by first | assumption | decide | omega)) rfl dX7_comeOn_284 ?_
                            refine gG_top (nI (S64.2.2.1 (S.1 1) 4)) ((hS64.2.2.2.2.1 (S.1 1) hd).2.2.2) ?_
                            refine g_iload X 0 rfl dX7_comeOn_285 ?_
                            refine g_iadd X dX7_comeOn_287 ?_
                            refine gG_top (nI ((S64.2.2.1 (S.1 1) 4) + (((S20.2.2.2.1 i 6) * (S20.2.2.2.1 i 2 - 1)) * (S.1 4)))) (nI_add (S64.2.2.1 (S.1 1) 4) (((S20.2.2.2.1 i 6) * (S20.2.2.2.1 i 2 - 1)) * (S.1 4))) ?_
                            refine g_iastN X (5 * S.1 1 + 4) rfl (by omega) (by decide) (gP_27 (by first | assumption | decide | omega)) (fun _ => rfl) dX7_comeOn_288 ?_
                            refine gG_nm (fun V65 hV65 => ?_)
                            obtain ⟨S66, eS66⟩ : ∃ y, y = sG S64 (S.1 1) 4 (S64.2.2.1 (S.1 1) 4 + (S20.2.2.2.1 i 6 * (S20.2.2.2.1 i 2 - 1) * S.1 4)) := ⟨_, rfl⟩
                            have hS66 : AbsM V65 k S66 := by rw [eS66, hV65]; exact hS64.setB (S.1 1) 4 4 (S64.2.2.1 (S.1 1) 4 + (S20.2.2.2.1 i 6 * (S20.2.2.2.1 i 2 - 1) * S.1 4)) (by decide)
                            have nS66 : S66.1 = S.1 := by rw [eS66]; exact nS64
                            have mS66 : stmod V V65 k := by rw [hV65]; exact mS64.up (by decide) (by decide)
                            have ePay : S66 = sPay S20 (S.1 1) i := by rw [eS66, eS64, eS59, eS57, eS55, eS51]; unfold sPay sTake; rw [show sToll S20 (S20.2.2.2.1 i 2) (S20.2.2.2.1 i 3) - sDue S20 i = (S20.2.2.2.1 i 6 * (S20.2.2.2.1 i 2 - 1) * S.1 4) from by omega]
                            have hST : S66.2.2.2.1 i 8 = 0 ∧ S66.2.2.2.1 i 1 = S.1 1 ∧ (∀ j, j < S66.1 6 → S66.2.2.2.1 j 8 = 1 → sPos S66 j ≠ sStart S) ∧ i < S66.1 6 := by
                              obtain ⟨p1, p2, p3, p4, p5, p6, p7⟩ := sPay_c S20 (S.1 1) i
                              rw [ePay]
                              refine ⟨by rw [p1 i 8 (by decide) (by decide)]; exact hst1, by rw [p1 i 1 (by decide) (by decide), eS20]; exact hend, fun j hj h8 => ?_, by rw [p6]; exact hi1⟩
                              rw [p6] at hj
                              rw [p1 j 8 (by decide) (by decide)] at h8
                              have := hfr1 j hj h8
                              unfold sPos at this ⊢
                              rw [p1 j 1 (by decide) (by decide), p1 j 9 (by decide) (by decide), p6]
                              exact this
                            refine g_aload_n X 4 rfl dX7_comeOn_289 ?_
                            refine gg_X7_at X (gP_23 (by first | assumption | decide | omega)) fX7_19 dX7_comeOn_290 ?_
                            refine g_iload_n X 3 rfl dX7_comeOn_293 ?_
                            refine g_iload_n X 2 rfl dX7_comeOn_294 ?_
                            refine g_iastN X (sStart S) rfl (by omega) (by decide) (gP_25 (by first | assumption | decide | omega)) (fun _ => rfl) dX7_comeOn_295 ?_
                            refine gG_nm (fun V67 hV67 => ?_)
                            refine g_aload_n X 4 rfl dX7_comeOn_296 ?_
                            refine g_iload_n X 2 rfl dX7_comeOn_297 ?_
                            refine g_iconst X 5 (by decide) dX7_comeOn_298 ?_
                            refine g_iconst X 1 (by decide) dX7_comeOn_299 ?_
                            refine g_callV X hR (rest := []) mX7_set lX7_48 (k_set hI V67 k i 5 1 (by first | assumption | decide | omega) (by first | omega | (rw [nS66]; first | assumption | omega)) (by first | assumption | decide | omega)) rfl rfl (Nat.le_of_ble_eq_true rfl) (gP_23 (by first | assumption | decide | omega)) rfl rfl rfl ⟨Nat.le_of_ble_eq_true rfl, Nat.le_of_ble_eq_true rfl, Nat.le_of_ble_eq_true rfl, Nat.le_of_ble_eq_true rfl⟩ dX7_comeOn_300 (fun r68 V69 hz_70 => ?_)
                            refine gG_rv hz_70.1 ?_
                            have hV69 := hz_70.2
                            refine gG_st [] rfl ?_
                            refine g_aload_n X 4 rfl dX7_comeOn_303 ?_
                            refine g_iload_n X 2 rfl dX7_comeOn_304 ?_
                            refine g_bipush X 6 (by decide) dX7_comeOn_305 ?_
                            refine g_iload_n X 3 rfl dX7_comeOn_307 ?_
                            refine g_callV X hR (rest := []) mX7_set lX7_48 (k_set hI V69 k i 6 (nI (sStart S)) (by first | assumption | decide | omega) (by first | omega | (rw [nS66]; first | assumption | omega)) (by first | assumption | decide | omega)) rfl rfl (Nat.le_of_ble_eq_true rfl) (gP_23 (by first | assumption | decide | omega)) rfl rfl rfl ⟨Nat.le_of_ble_eq_true rfl, Nat.le_of_ble_eq_true rfl, Nat.le_of_ble_eq_true rfl, Nat.le_of_ble_eq_true rfl⟩ dX7_comeOn_308 (fun r71 V72 hz_73 => ?_)
                            refine gG_rv hz_73.1 ?_
                            have hV72 := hz_73.2
                            refine gG_st [] rfl ?_
                            refine g_vret X F ?_ rfl dX7_comeOn_311
                            have hfin : sCome S = sQ (sC (sC S66 i 8 1) i 9 0) 2 ((sC (sC S66 i 8 1) i 9 0).2.1 2 ++ [i]) := by
                              rw [sCome_eq hq hroom, ← eS20]
                              rw [if_neg (fun q => hd2 q.2), if_pos hp, ← ePay]
                            rw [hfin]
                            refine ⟨rfl, ?_, ?_⟩
                            · rw [hV72, hV69, hV67]
                              exact ((mS66.up (by decide) (by decide)).up (by decide) (by decide)).up (by decide) (by decide)
                            · refine AbsM.congr (S := sC (sC S66 i 8 1) i 9 0) ?_ rfl (fun e he => if_neg (by omega)) rfl
                              rw [hV72, hV69, hV67]
                              exact hS66.on (by rw [hST.1]; decide) (by rw [hST.2.1, nS66]) (by unfold sStart; rw [nS66]) hST.2.2.1 hST.2.2.2
                          · first | exact absurd (nI_le (by omega) (by have := hc1.2.2.2.2.1; omega)) c44 | exact absurd c44 (nI_le (by omega) (by have := hc1.2.2.2.2.1; omega))
                    · skip
                      refine g_if_ne X 289 (by decide) dX7_comeOn_106 (fun c74 => ?_) (fun c74 => ?_)
                      · have hST : S20.2.2.2.1 i 8 = 0 ∧ S20.2.2.2.1 i 1 = S.1 1 ∧ (∀ j, j < S20.1 6 → S20.2.2.2.1 j 8 = 1 → sPos S20 j ≠ sStart S) ∧ i < S20.1 6 := ⟨hst1, by rw [eS20]; exact hend, hfr1, hi1⟩
                        refine g_aload_n X 2 rfl dX7_comeOn_289 ?_
                        refine gg_X7_at X (gP_23 (by first | assumption | decide | omega)) fX7_19 dX7_comeOn_290 ?_
                        refine g_iload_n X 1 rfl dX7_comeOn_293 ?_
                        refine g_iload_n X 0 rfl dX7_comeOn_294 ?_
                        refine g_iastN X (sStart S) rfl (by omega) (by decide) (gP_25 (by first | assumption | decide | omega)) (fun _ => rfl) dX7_comeOn_295 ?_
                        refine gG_nm (fun V75 hV75 => ?_)
                        refine g_aload_n X 2 rfl dX7_comeOn_296 ?_
                        refine g_iload_n X 0 rfl dX7_comeOn_297 ?_
                        refine g_iconst X 5 (by decide) dX7_comeOn_298 ?_
                        refine g_iconst X 1 (by decide) dX7_comeOn_299 ?_
                        refine g_callV X hR (rest := []) mX7_set lX7_48 (k_set hI V75 k i 5 1 (by first | assumption | decide | omega) (by first | omega | (rw [nS20]; first | assumption | omega)) (by first | assumption | decide | omega)) rfl rfl (Nat.le_of_ble_eq_true rfl) (gP_23 (by first | assumption | decide | omega)) rfl rfl rfl ⟨Nat.le_of_ble_eq_true rfl, Nat.le_of_ble_eq_true rfl, Nat.le_of_ble_eq_true rfl, Nat.le_of_ble_eq_true rfl⟩ dX7_comeOn_300 (fun r76 V77 hz_78 => ?_)
                        refine gG_rv hz_78.1 ?_
                        have hV77 := hz_78.2
                        refine gG_st [] rfl ?_
                        refine g_aload_n X 2 rfl dX7_comeOn_303 ?_
                        refine g_iload_n X 0 rfl dX7_comeOn_304 ?_
                        refine g_bipush X 6 (by decide) dX7_comeOn_305 ?_
                        refine g_iload_n X 1 rfl dX7_comeOn_307 ?_
                        refine g_callV X hR (rest := []) mX7_set lX7_48 (k_set hI V77 k i 6 (nI (sStart S)) (by first | assumption | decide | omega) (by first | omega | (rw [nS20]; first | assumption | omega)) (by first | assumption | decide | omega)) rfl rfl (Nat.le_of_ble_eq_true rfl) (gP_23 (by first | assumption | decide | omega)) rfl rfl rfl ⟨Nat.le_of_ble_eq_true rfl, Nat.le_of_ble_eq_true rfl, Nat.le_of_ble_eq_true rfl, Nat.le_of_ble_eq_true rfl⟩ dX7_comeOn_308 (fun r79 V80 hz_81 => ?_)
                        refine gG_rv hz_81.1 ?_
                        have hV80 := hz_81.2
                        refine gG_st [] rfl ?_
                        refine g_vret X F ?_ rfl dX7_comeOn_311
                        have hfin : sCome S = sQ (sC (sC S20 i 8 1) i 9 0) 2 ((sC (sC S20 i 8 1) i 9 0).2.1 2 ++ [i]) := by
                          rw [sCome_eq hq hroom, ← eS20]
                          rw [if_neg (fun q => hp q.1), if_neg hp]
                        rw [hfin]
                        refine ⟨rfl, ?_, ?_⟩
                        · rw [hV80, hV77, hV75]
                          exact ((mS20.up (by decide) (by decide)).up (by decide) (by decide)).up (by decide) (by decide)
                        · refine AbsM.congr (S := sC (sC S20 i 8 1) i 9 0) ?_ rfl (fun e he => if_neg (by omega)) rfl
                          rw [hV80, hV77, hV75]
                          exact hS20.on (by rw [hST.1]; decide) (by rw [hST.2.1, nS20]) (by unfold sStart; rw [nS20]) hST.2.2.1 hST.2.2.2
                      · first | exact absurd (nI_ne0 (by omega) (by have := hc1.2.2.2.2.2.2.1; omega)) c74 | exact absurd c74 (nI_ne0 (by omega) (by have := hc1.2.2.2.2.2.2.1; omega))
                  · first | exact absurd (nI_le hr (by have := hw.1.2.2.1; omega)) c16 | exact absurd c16 (nI_le hr (by have := hw.1.2.2.1; omega))
                · skip
                  refine g_icmp_le X 90 (by decide) dX7_comeOn_86 (fun c82 => ?_) (fun c82 => ?_)
                  · first | exact absurd (nI_ge (by omega) (by omega)) c82 | exact absurd c82 (nI_ge (by omega) (by omega))
                  · refine g_vret X F ?_ rfl dX7_comeOn_89
                    rw [show sCome S = S from sCome_no hq (by unfold sRoom; rw [hfree]; simpa using hr)]
                    exact ⟨rfl, stmod.rf, hA⟩
              ·  exact absurd c9 (by decide)
  by_cases hd0 : S.1 1 = 0
  · refine gG_top 0 (by rw [hd0]; rfl) ?_
    refine g_if_ne X 11 (by decide) dX7_comeOn_4 (fun c83 => ?_) (fun c83 => ?_)
    ·  exact absurd c83 (by decide)
    · refine g_iconst X 0 (by decide) dX7_comeOn_7 ?_
      refine g_goto X 20 (by decide) dX7_comeOn_8 ?_
      refine gG_top (nI (sStart S)) (by unfold sStart; rw [if_pos hd0]; rfl) ?_
      exact rest
  · skip
    refine g_if_ne X 11 (by decide) dX7_comeOn_4 (fun c84 => ?_) (fun c84 => ?_)
    · refine g_aload_n X 0 rfl dX7_comeOn_11 ?_
      refine gg_X7_this_0 X (gP_23 (by first | assumption | decide | omega)) fX7_3 dX7_comeOn_12 ?_
      refine gg_X8_places X ⟨by decide, by decide⟩ fX7_59 dX7_comeOn_15 ?_
      refine gG_top (nI (S.1 2)) (hA.2.2.2.2.2.1) ?_
      refine g_iconst X 1 (by decide) dX7_comeOn_18 ?_
      refine g_isub X dX7_comeOn_19 ?_
      refine gG_top (nI (sStart S)) (by unfold sStart; rw [if_neg hd0]; exact nI_dec (by omega)) ?_
      exact rest
    · first | exact absurd (nI_ne0 (by omega) (by omega)) c84 | exact absurd c84 (nI_ne0 (by omega) (by omega))

