/-! THE START: what the constructors have made is the world, and its value -/
def V00 : gMem := fun K _ i j => if K = 10 then (if j = 2 then 10 else if j = 3 then 200 else if j = 4 then 1 else if j = 5 then 1 else 0)
  else if K = 15 then (if j = 0 then nI i else if j = 10 then -1 else 0) else 0
def S00 : gSt := (fun k => if k = 2 then 10 else if k = 3 then 200 else if k = 4 then 1 else if k = 5 then 1 else 0, fun _ => [], fun _ _ => 0, fun _ _ => 0, fun _ => -1)
def w00 : gWd := (S00, (0, fun _ => 0), fun _ => 0)
theorem S00_6 {i : Nat} (h : i < S00.1 6) : False := Nat.not_lt_zero i h
theorem vOk_00 : vOk w00 := by
  refine ⟨⟨⟨by refine ⟨?_, ⟨?_, ?_⟩, ?_, ?_, ?_, ?_⟩ <;> exact Nat.le_of_ble_eq_true rfl, fun i hi => (S00_6 hi).elim, fun e _ => ⟨List.nodup_nil, fun i => ⟨fun h => (nomatch h), fun h => (S00_6 h.1).elim⟩⟩, List.Pairwise.nil, fun i => ⟨fun h => (nomatch h), fun h => (S00_6 h.1).elim⟩, fun i h => (nomatch h), fun i h => (nomatch h), fun i hi => (S00_6 hi).elim⟩, ⟨Nat.zero_le _, fun k hk => absurd hk (Nat.not_lt_zero k)⟩, fun j _ => Nat.zero_le _⟩, fun i _ _ => ⟨rfl, rfl, rfl, rfl⟩⟩
theorem COk_00 : COk V00 w00 := by
  refine ⟨⟨fun k hk => ?_, fun r hr => ⟨rfl, Nat.zero_le _, fun j hj => absurd hj (Nat.not_lt_zero j)⟩, fun e he k h1 h2 => rfl, fun i hi => (S00_6 hi).elim, fun i hi => (S00_6 hi).elim, fun i hi => rfl, fun _ i h1 h2 => ⟨fun k k1 k2 => ?_, rfl⟩⟩, ⟨rfl, fun k hk => absurd hk (Nat.not_lt_zero k)⟩, fun j hj => rfl⟩
  · rcases (show k = 0 ∨ k = 1 ∨ k = 2 ∨ k = 3 ∨ k = 4 ∨ k = 5 ∨ k = 6 by omega) with rfl | rfl | rfl | rfl | rfl | rfl | rfl <;> decide
  · rcases (show k = 1 ∨ k = 2 ∨ k = 3 ∨ k = 4 ∨ k = 5 ∨ k = 6 ∨ k = 7 ∨ k = 8 ∨ k = 9 by omega) with rfl | rfl | rfl | rfl | rfl | rfl | rfl | rfl | rfl <;> rfl
theorem N15_00 : N15 V00 := fun b hb j hj => rfl
/-- a bridge's places, as they are made -/
def brl : List (Nat × Nat) := [(10, 0), (11, 0), (12, 0), (13, 0), (14, 0), (12, 1), (13, 1), (14, 1), (13, 2), (14, 2)] ++ (List.range 16).map (fun j => (15, j))
def bE (B : gB) (ad : Nat → Nat → Nat) (K i : Nat) : va_E := if K = 11 then .inl (B.2.2.1.2.1, 16, .inr (.inr (.inr (.inr (qf (ad 15) 16))))) else gE (B.1, (fun K _ i => ad K i), B.2.2.1, (0, 0)) K 0 i (V00 K 0 i)
theorem pBW.ad {B : gB} {a : Nat} {W : va_W} (h : pBW B a W) : ∃ ad : Nat → Nat → Nat, ad 10 0 = a ∧ W = brl.map (fun p => (ad p.1 p.2, bE B ad p.1 p.2)) := by
  obtain ⟨qa, g0, r0, a0, g1, r1, a1, r2, a2, c, rfl⟩ := h
  refine ⟨fun K i => if K = 10 then a else if K = 11 then qa else if K = 12 then (if i = 0 then g0 else g1) else if K = 13 then (if i = 0 then r0 else if i = 1 then r1 else r2) else if K = 14 then (if i = 0 then a0 else if i = 1 then a1 else a2) else c i, rfl, ?_⟩
  unfold brl
  rw [List.map_append, List.map_map]
  rfl
/-- the world's addresses -/
def adF (x cd s1 s2 fg : Nat) (ad : Nat → Nat → Nat → Nat) : Nat → Nat → Nat → Nat := fun K b i =>
  if K = 0 then x else if K = 1 then cd else if K = 2 then s1 else if K = 3 then s2 else if K = 4 then fg else ad b K i
theorem adF_br {x cd s1 s2 fg : Nat} {ad : Nat → Nat → Nat → Nat} {K b i : Nat} (h1 : 10 ≤ K) : adF x cd s1 s2 fg ad K b i = ad b K i := by
  unfold adF
  rw [if_neg (by omega), if_neg (by omega), if_neg (by omega), if_neg (by omega), if_neg (by omega)]
def eF (B : gB) (p : Nat × Nat × Nat) : va_E := if p.1 = 11 then .inl (B.2.2.1.2.1, 16, .inr (.inr (.inr (.inr (qf (B.2.1 15 p.2.1) 16))))) else gE B p.1 p.2.1 p.2.2 (V00 p.1 p.2.1 p.2.2)
def brp (b : Nat) : List (Nat × Nat × Nat) := brl.map (fun p => (p.1, b, p.2))
def plX : List (Nat × Nat × Nat) := (([(0, 0, 0), (1, 0, 0), (2, 0, 0), (3, 0, 0), (4, 0, 0)] ++ brp 0) ++ brp 1) ++ brp 2
theorem plW_in : ∀ p ∈ gPL, p ∈ plX := by
  have h : (gPL.all fun p => decide (p ∈ plX)) = true := by decide +kernel
  intro p hp
  exact of_decide_eq_true (List.all_eq_true.mp h p hp)
theorem br_map (B BF : gB) (b : Nat) (ad : Nat → Nat → Nat) (h1 : BF.1 = B.1) (h2 : BF.2.2.1 = B.2.2.1) (h : ∀ K i, 10 ≤ K → K ≤ 15 → BF.2.1 K b i = ad K i) (hV : ∀ K i, V00 K b i = V00 K 0 i) : brl.map (fun p => (ad p.1 p.2, bE B ad p.1 p.2)) = (brp b).map (fun p => (BF.2.1 p.1 p.2.1 p.2.2, eF BF p)) := by
  unfold brp
  rw [List.map_map]
  refine List.map_congr_left (fun p hp => ?_)
  obtain ⟨K, i⟩ := p
  have hK : K = 10 ∨ K = 11 ∨ K = 12 ∨ K = 13 ∨ K = 14 ∨ K = 15 := by
    have hb : ((brl.map Prod.fst).all fun k => decide (k = 10 ∨ k = 11 ∨ k = 12 ∨ k = 13 ∨ k = 14 ∨ k = 15)) = true := by decide +kernel
    exact of_decide_eq_true (List.all_eq_true.mp hb K (List.mem_map_of_mem (f := Prod.fst) hp))
  show (ad K i, bE B ad K i) = (BF.2.1 K b i, eF BF (K, b, i))
  rw [h K i (by omega) (by omega)]
  congr 1
  unfold bE eF
  obtain ⟨bf1, bf2, bf3, bf4⟩ := BF
  obtain ⟨b1, b2, b3, b4⟩ := B
  simp only at h1 h2 h ⊢
  subst h1; subst h2
  rcases hK with rfl | rfl | rfl | rfl | rfl | rfl
  · simp only [gE, hV]
    rw [h 11 0 (by decide) (by decide), h 12 0 (by decide) (by decide), h 12 1 (by decide) (by decide), h 13 2 (by decide) (by decide)]
    rfl
  · rw [if_pos rfl, if_pos rfl, show bf2 15 b = ad 15 from funext fun j => h 15 j (by decide) (by decide)]
  · simp only [gE, hV]
    rw [h 13 i (by decide) (by decide)]
    rfl
  · simp only [gE, hV]
    rw [h 14 i (by decide) (by decide)]
    rfl
  · simp only [gE, hV]
    rfl
  · simp only [gE, hV]
    rfl
theorem law_world {B : gB} {x cd s1 s2 fg b0 b1 b2 : Nat} {W0 W1 W2 : va_W} (h0 : pBW B b0 W0) (h1 : pBW B b1 W1) (h2 : pBW B b2 W2) : ∃ BF : gB, BF.1 = B.1 ∧ BF.2.2.1 = B.2.2.1 ∧ BF.2.2.2 = (0, 0) ∧ BF.2.1 0 0 0 = x ∧
    ((([(x, .inr (5, [.ref cd, .ref fg, .ref b0, .ref b1, .ref b2])), (cd, .inr (2, [.ref s1, .ref s2, .int 0])), (s1, .inl (B.2.2.1.1, 8, .inl (fun _ => 0))), (s2, .inl (B.2.2.1.1, 21, .inl (fun _ => 0))), (fg, .inl (B.2.2.1.1, 20, .inl (fun _ => 0)))] ++ W0) ++ W1) ++ W2 : va_W) = plX.map (fun p => (BF.2.1 p.1 p.2.1 p.2.2, eF BF p)) := by
  obtain ⟨a0, e0, rfl⟩ := h0.ad
  obtain ⟨a1, e1, rfl⟩ := h1.ad
  obtain ⟨a2, e2, rfl⟩ := h2.ad
  obtain ⟨BF, hBF⟩ : ∃ BF : gB, BF = (B.1, adF x cd s1 s2 fg (fun b => if b = 0 then a0 else if b = 1 then a1 else a2), B.2.2.1, (0, 0)) := ⟨_, rfl⟩
  have hb : ∀ b K i, 10 ≤ K → K ≤ 15 → BF.2.1 K b i = (if b = 0 then a0 else if b = 1 then a1 else a2) K i := by
    intro b K i h1 h2
    rw [hBF]
    dsimp only
    rw [adF_br h1]
  refine ⟨BF, by rw [hBF], by rw [hBF], by rw [hBF], by rw [hBF]; rfl, ?_⟩
  unfold plX
  rw [List.map_append, List.map_append, List.map_append]
  rw [← br_map B BF 0 a0 (by rw [hBF]) (by rw [hBF]) (fun K i q1 q2 => hb 0 K i q1 q2) (fun _ _ => rfl), ← br_map B BF 1 a1 (by rw [hBF]) (by rw [hBF]) (fun K i q1 q2 => hb 1 K i q1 q2) (fun _ _ => rfl), ← br_map B BF 2 a2 (by rw [hBF]) (by rw [hBF]) (fun K i q1 q2 => hb 2 K i q1 q2) (fun _ _ => rfl)]
  subst e0; subst e1; subst e2
  rw [hBF]
  rfl
theorem gPX_0 {B : gB} (h0 : B.2.2.2.2 = 0) : gPX B = gPL := by
  unfold gPX
  rw [h0]
  exact List.append_nil _
/-- the world that the loop begins with -/
theorem law_P {BF : gB} {D : va_G} {ws : va_W} {H : Heap} (hD : BF.1 = D) (h0 : BF.2.2.2 = (0, 0)) (hw : ws = plX.map (fun p => (BF.2.1 p.1 p.2.1 p.2.2, eF BF p))) (hP : va_P D vwCl ws H) : va_P BF.1 vwCl (gws BF V00) H := by
  subst hD
  have h00 : BF.2.2.2.2 = 0 := by rw [h0]
  intro k q hk
  have hk2 : (gPL.map (gAt BF V00))[k]? = some q := by rw [← gPX_0 h00]; exact hk
  obtain ⟨p, hp, rfl⟩ := List.mem_map.mp (List.mem_of_getElem? hk2)
  obtain ⟨j, hj⟩ := List.getElem?_of_mem (plW_in p hp)
  have hj2 : ws[j]? = some (BF.2.1 p.1 p.2.1 p.2.2, eF BF p) := by rw [hw, List.getElem?_map, hj]; rfl
  have h1 := hP j _ hj2
  unfold eF at h1
  by_cases h11 : p.1 = 11
  · rw [if_pos h11] at h1
    obtain ⟨K, b, i⟩ := p
    simp only at h11
    subst h11
    have h2 : H[BF.2.1 11 b i]? = some (arrV BF.2.2.1.2.1 16 (fun j => va_rf (qf (BF.2.1 15 b) 16 j))) := h1
    show H[BF.2.1 11 b i]? = some (arrV BF.2.2.1.2.1 16 (fun j => va_rf (some (BF.2.1 15 b j))))
    rw [h2]
    congr 1
  · rw [if_neg h11] at h1
    exact h1
theorem law_I {BF : gB} {A : Nat → Prop} {ws : va_W} (h0 : BF.2.2.2 = (0, 0)) (hw : ws = plX.map (fun p => (BF.2.1 p.1 p.2.1 p.2.2, eF BF p))) (hD : va_D A ws) : gI BF ∧ ∀ p ∈ gPX BF, A (BF.2.1 p.1 p.2.1 p.2.2) := by
  have h00 : BF.2.2.2.2 = 0 := by rw [h0]
  have at_ : ∀ p ∈ gPX BF, ∃ j : Nat, plX[j]? = some p ∧ ws[j]? = some (BF.2.1 p.1 p.2.1 p.2.2, eF BF p) := by
    intro p hp
    rw [gPX_0 h00] at hp
    obtain ⟨j, hj⟩ := List.getElem?_of_mem (plW_in p hp)
    exact ⟨j, hj, by rw [hw, List.getElem?_map, hj]; rfl⟩
  refine ⟨fun p hp q hq e => ?_, fun p hp => ?_⟩
  · obtain ⟨i, hi, hi2⟩ := at_ p hp
    obtain ⟨j, hj, hj2⟩ := at_ q hq
    have := hD.1 i j _ _ hi2 hj2 e
    subst this
    exact Option.some.inj (hi.symm.trans hj)
  · obtain ⟨i, hi, hi2⟩ := at_ p hp
    exact hD.2 i _ hi2

