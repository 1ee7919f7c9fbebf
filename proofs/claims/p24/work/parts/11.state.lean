/-! THE BRIDGE AS A VALUE: S = (numbers: 0 tick, 1 direction, 2 places, 3 bears, 4 axle toll, 5 toll for ten, 6 carts; rows: 0, 1 queues, 2 those on the bridge; boxes: 1 coins, 2 payers, 3 axles, 4 kept; carts: 1 end, 2 axles, 3 weight, 4 pace, 5 coins, 6 cheat, 7 paid, 8 state, 9 way; ticks of being over) -/
abbrev gSt : Type := (Nat → Nat) × (Nat → List Nat) × (Nat → Nat → Nat) × (Nat → Nat → Nat) × (Nat → Int32)
def AbsC (V : gMem) (b : Nat) (S : gSt) : Prop :=
  (∀ k, k < 7 → V 10 b 0 k = nI (S.1 k)) ∧ (∀ r, r < 3 → RowIs V b r (S.2.1 r)) ∧ (∀ e, e < 2 → ∀ k, 1 ≤ k → k ≤ 4 → V 12 b e k = nI (S.2.2.1 e k)) ∧
  (∀ i, i < S.1 6 → ∀ k, 1 ≤ k → k ≤ 9 → V 15 b i k = nI (S.2.2.2.1 i k)) ∧ (∀ i, i < S.1 6 → V 15 b i 10 = S.2.2.2.2 i) ∧ (∀ i, i < 16 → V 15 b i 0 = nI i) ∧
  (b = 0 → ∀ i, S.1 6 ≤ i → i < 16 → (∀ k, 1 ≤ k → k ≤ 9 → V 15 b i k = nI (S.2.2.2.1 i k)) ∧ V 15 b i 10 = S.2.2.2.2 i)
def sN (S : gSt) (k v : Nat) : gSt := (fun k' => if k' = k then v else S.1 k', S.2)
def sQ (S : gSt) (r : Nat) (xs : List Nat) : gSt := (S.1, fun r' => if r' = r then xs else S.2.1 r', S.2.2)
def sG (S : gSt) (e k v : Nat) : gSt := (S.1, S.2.1, fun e' k' => if e' = e ∧ k' = k then v else S.2.2.1 e' k', S.2.2.2)
def sC (S : gSt) (i k v : Nat) : gSt := (S.1, S.2.1, S.2.2.1, fun i' k' => if i' = i ∧ k' = k then v else S.2.2.2.1 i' k', S.2.2.2.2)
def sO (S : gSt) (i : Nat) (v : Int32) : gSt := (S.1, S.2.1, S.2.2.1, S.2.2.2.1, fun i' => if i' = i then v else S.2.2.2.2 i')
/-- nothing but one bridge is another one -/
def brmod (V V' : gMem) (b : Nat) : Prop := ∀ K b' i', ¬ (10 ≤ K ∧ K ≤ 15 ∧ b' = b) → V' K b' i' = V K b' i'
theorem brmod.rf {V : gMem} {b : Nat} : brmod V V b := fun _ _ _ _ => rfl
theorem brmod.trans {V V1 V2 : gMem} {b : Nat} (h : brmod V V1 b) (h2 : brmod V1 V2 b) : brmod V V2 b := fun K b' i' hn => (h2 K b' i' hn).trans (h K b' i' hn)
theorem brmod.up {V V1 : gMem} {K b i j : Nat} {x : Int32} (h : brmod V V1 b) (hK : 10 ≤ K) (hK2 : K ≤ 15) : brmod V (gup V1 K b i j x) b := fun K' b' i' hn => (gup_off V1 x (fun q => hn ⟨by omega, by omega, q.2.1⟩)).trans (h K' b' i' hn)
theorem rowmod.br {V V' : gMem} {b r : Nat} (h : rowmod V V' b r) : brmod V V' b := fun K b' i' hn => h K b' i' (fun q => hn ⟨by omega, by omega, q.2.1⟩)
theorem RowIs.same {V V' : gMem} {b r : Nat} {xs : List Nat} (h : RowIs V b r xs) (e1 : V' 13 b r = V 13 b r) (e2 : V' 14 b r = V 14 b r) : RowIs V' b r xs := ⟨by rw [e1]; exact h.1, h.2.1, fun j hj => by rw [e2]; exact h.2.2 j hj⟩
theorem AbsC.bnd {V : gMem} {b : Nat} {S : gSt} (h : AbsC V b S) {r : Nat} (hr : r < 3) : (S.2.1 r).length ≤ 16 := (h.2.1 r hr).2.1
theorem AbsC.other {V V' : gMem} {b b' : Nat} {S : gSt} (h : AbsC V b S) (hm : brmod V V' b') (hne : b ≠ b') : AbsC V' b S := by
  have e : ∀ K i, V' K b i = V K b i := fun K i => hm K b i (fun q => hne q.2.2)
  exact ⟨fun k hk => by rw [e]; exact h.1 k hk, fun r hr => (h.2.1 r hr).same (e _ _) (e _ _), fun x hx k h1 h2 => by rw [e]; exact h.2.2.1 x hx k h1 h2, fun i hi k h1 h2 => by rw [e]; exact h.2.2.2.1 i hi k h1 h2, fun i hi => by rw [e]; exact h.2.2.2.2.1 i hi, fun i hi => by rw [e]; exact h.2.2.2.2.2.1 i hi, fun h0 i h1 h2 => by rw [e]; exact h.2.2.2.2.2.2 h0 i h1 h2⟩
theorem AbsC.setN {V : gMem} {b : Nat} {S : gSt} (h : AbsC V b S) (k v : Nat) (hk : k < 6) : AbsC (gup V 10 b 0 k (nI v)) b (sN S k v) := by
  have h6 : (sN S k v).1 6 = S.1 6 := if_neg (by omega)
  refine ⟨fun k' hk' => ?_, fun r hr => (h.2.1 r hr).same (gup_off _ _ (by simp)) (gup_off _ _ (by simp)), fun e he k' h1 h2 => ?_, fun i hi k' h1 h2 => ?_, fun i hi => ?_, fun i hi => ?_, fun h0 i h1 h2 => ?_⟩
  · by_cases hq : k' = k
    · subst hq; rw [gup_eq]; simp [sN]
    · rw [gup_ne (by omega), h.1 k' hk']; simp [sN, hq]
  · rw [gup_ne (by simp)]; exact h.2.2.1 e he k' h1 h2
  · rw [gup_ne (by simp)]; exact h.2.2.2.1 i (h6 ▸ hi) k' h1 h2
  · rw [gup_ne (by simp)]; exact h.2.2.2.2.1 i (h6 ▸ hi)
  · rw [gup_ne (by simp)]; exact h.2.2.2.2.2.1 i hi
  · rw [gup_off _ _ (by simp)]; exact h.2.2.2.2.2.2 h0 i (h6 ▸ h1) h2
theorem AbsC.setG {V : gMem} {b : Nat} {S : gSt} (h : AbsC V b S) (e k v : Nat) : AbsC (gup V 12 b e k (nI v)) b (sG S e k v) := by
  refine ⟨fun k' hk' => ?_, fun r hr => (h.2.1 r hr).same (gup_off _ _ (by simp)) (gup_off _ _ (by simp)), fun e' he k' h1 h2 => ?_, fun i hi k' h1 h2 => ?_, fun i hi => ?_, fun i hi => ?_, fun h0 i h1 h2 => ?_⟩
  · rw [gup_ne (by simp)]; exact h.1 k' hk'
  · by_cases hq : e' = e ∧ k' = k
    · obtain ⟨rfl, rfl⟩ := hq; rw [gup_eq]; simp [sG]
    · rw [gup_ne (by omega), h.2.2.1 e' he k' h1 h2]; simp [sG, hq]
  · rw [gup_ne (by simp)]; exact h.2.2.2.1 i hi k' h1 h2
  · rw [gup_ne (by simp)]; exact h.2.2.2.2.1 i hi
  · rw [gup_ne (by simp)]; exact h.2.2.2.2.2.1 i hi
  · rw [gup_off _ _ (by simp)]; exact h.2.2.2.2.2.2 h0 i h1 h2
theorem AbsC.setC {V : gMem} {b : Nat} {S : gSt} (h : AbsC V b S) (i k v : Nat) (hk : 1 ≤ k ∧ k ≤ 9) : AbsC (gup V 15 b i k (nI v)) b (sC S i k v) := by
  refine ⟨fun k' hk' => ?_, fun r hr => (h.2.1 r hr).same (gup_off _ _ (by simp)) (gup_off _ _ (by simp)), fun e' he k' h1 h2 => ?_, fun i' hi k' h1 h2 => ?_, fun i' hi => ?_, fun i' hi => ?_, fun h0 i' h1 h2 => ?_⟩
  · rw [gup_ne (by simp)]; exact h.1 k' hk'
  · rw [gup_ne (by simp)]; exact h.2.2.1 e' he k' h1 h2
  · by_cases hq : i' = i ∧ k' = k
    · obtain ⟨rfl, rfl⟩ := hq; rw [gup_eq]; simp [sC]
    · rw [gup_ne (by omega), h.2.2.2.1 i' hi k' h1 h2]; simp [sC, hq]
  · rw [gup_ne (by omega)]; exact h.2.2.2.2.1 i' hi
  · rw [gup_ne (by omega)]; exact h.2.2.2.2.2.1 i' hi
  · refine ⟨fun k' q1 q2 => ?_, ?_⟩
    · by_cases hq : i' = i ∧ k' = k
      · obtain ⟨rfl, rfl⟩ := hq; rw [gup_eq]; simp [sC]
      · rw [gup_ne (by omega), (h.2.2.2.2.2.2 h0 i' h1 h2).1 k' q1 q2]; simp [sC, hq]
    · rw [gup_ne (by omega)]; exact (h.2.2.2.2.2.2 h0 i' h1 h2).2
theorem AbsC.setO {V : gMem} {b : Nat} {S : gSt} (h : AbsC V b S) (i : Nat) (v : Int32) : AbsC (gup V 15 b i 10 v) b (sO S i v) := by
  refine ⟨fun k' hk' => ?_, fun r hr => (h.2.1 r hr).same (gup_off _ _ (by simp)) (gup_off _ _ (by simp)), fun e' he k' h1 h2 => ?_, fun i' hi k' h1 h2 => ?_, fun i' hi => ?_, fun i' hi => ?_, fun h0 i' h1 h2 => ?_⟩
  · rw [gup_ne (by simp)]; exact h.1 k' hk'
  · rw [gup_ne (by simp)]; exact h.2.2.1 e' he k' h1 h2
  · rw [gup_ne (by omega)]; exact h.2.2.2.1 i' hi k' h1 h2
  · by_cases hq : i' = i
    · subst hq; rw [gup_eq]; simp [sO]
    · rw [gup_ne (by omega), h.2.2.2.2.1 i' hi]; simp [sO, hq]
  · rw [gup_ne (by omega)]; exact h.2.2.2.2.2.1 i' hi
  · refine ⟨fun k' q1 q2 => ?_, ?_⟩
    · rw [gup_ne (by omega)]; exact (h.2.2.2.2.2.2 h0 i' h1 h2).1 k' q1 q2
    · by_cases hq : i' = i
      · subst hq; rw [gup_eq]; simp [sO]
      · rw [gup_ne (by omega), (h.2.2.2.2.2.2 h0 i' h1 h2).2]; simp [sO, hq]
theorem AbsC.setQ {V V' : gMem} {b : Nat} {S : gSt} (h : AbsC V b S) {r : Nat} {xs : List Nat} (hx : RowIs V' b r xs) (hm : rowmod V V' b r) : AbsC V' b (sQ S r xs) := by
  have e : ∀ K i, K ≠ 13 → K ≠ 14 → V' K b i = V K b i := fun K i h1 h2 => hm K b i (fun q => by omega)
  refine ⟨fun k' hk' => ?_, fun r' hr => ?_, fun e' he k' h1 h2 => ?_, fun i' hi k' h1 h2 => ?_, fun i' hi => ?_, fun i' hi => ?_, fun h0 i' h1 h2 => ?_⟩
  · rw [e 10 0 (by decide) (by decide)]; exact h.1 k' hk'
  · by_cases hq : r' = r
    · subst hq; simp only [sQ, if_true]; exact hx
    · simp only [sQ, if_neg hq]; exact (h.2.1 r' hr).mod hm (fun q => hq q.2)
  · rw [e 12 e' (by decide) (by decide)]; exact h.2.2.1 e' he k' h1 h2
  · rw [e 15 i' (by decide) (by decide)]; exact h.2.2.2.1 i' hi k' h1 h2
  · rw [e 15 i' (by decide) (by decide)]; exact h.2.2.2.2.1 i' hi
  · rw [e 15 i' (by decide) (by decide)]; exact h.2.2.2.2.2.1 i' hi
  · rw [e 15 i' (by decide) (by decide)]; exact h.2.2.2.2.2.2 h0 i' h1 h2

