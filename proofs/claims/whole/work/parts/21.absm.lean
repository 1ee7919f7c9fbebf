/-! THE REFERENCE's STATE over the same value S -/
def sPos (S : gSt) (i : Nat) : Nat := if S.2.2.2.1 i 1 = 0 then S.2.2.2.1 i 9 else S.1 2 - 1 - S.2.2.2.1 i 9
def mF (S : gSt) (i f : Nat) : Int32 := match f with
  | 0 => nI (S.2.2.2.1 i 2)
  | 1 => nI (S.2.2.2.1 i 3)
  | 2 => nI (S.2.2.2.1 i 4)
  | 3 => nI (S.2.2.2.1 i 5)
  | 4 => nI (S.2.2.2.1 i 1)
  | 5 => nI (S.2.2.2.1 i 8)
  | 6 => sPlc S i
  | 7 => nI (S.2.2.2.1 i 6)
  | 8 => S.2.2.2.2 i
  | _ => nI (S.2.2.2.1 i 7)
def AtIs (V : gMem) (k : Nat) (S : gSt) : Prop := (∀ i, i < S.1 6 → S.2.2.2.1 i 8 = 1 → V 25 k 0 (sPos S i) = nI i) ∧ ∀ p, p < 30 → (∀ i, i < S.1 6 → S.2.2.2.1 i 8 = 1 → sPos S i ≠ p) → V 25 k 0 p = -1
def NumM (V : gMem) (S : gSt) : Prop := V 20 0 0 4 = nI (S.1 2) ∧ V 20 0 0 5 = nI (S.1 3) ∧ V 20 0 0 6 = nI (S.1 4) ∧ V 20 0 0 7 = nI (S.1 5)
def AbsM (V : gMem) (k : Nat) (S : gSt) : Prop :=
  (V 23 k 0 0 = nI (S.1 0) ∧ V 23 k 0 1 = nI (S.1 1) ∧ V 23 k 0 2 = nI (S.1 6)) ∧ (∀ i, i < S.1 6 → ∀ f, f < 10 → V 24 k 0 (10 * i + f) = mF S i f) ∧ AtIs V k S ∧ (∀ e, e < 2 → RowM V k e (S.2.1 e)) ∧
  (∀ e, e < 2 → V 27 k 0 (5 * e) = nI (S.2.2.1 e 1) ∧ V 27 k 0 (5 * e + 1) = nI (S.2.2.1 e 2) ∧ V 27 k 0 (5 * e + 2) = nI (S.2.2.1 e 3) ∧ V 27 k 0 (5 * e + 4) = nI (S.2.2.1 e 4)) ∧ NumM V S
def stmod (V V' : gMem) (k : Nat) : Prop := ∀ K b i, ¬ (23 ≤ K ∧ K ≤ 27 ∧ b = k) → V' K b i = V K b i
theorem stmod.rf {V : gMem} {k : Nat} : stmod V V k := fun _ _ _ _ => rfl
theorem stmod.trans {V V1 V2 : gMem} {k : Nat} (h : stmod V V1 k) (h2 : stmod V1 V2 k) : stmod V V2 k := fun K b i hn => (h2 K b i hn).trans (h K b i hn)
theorem stmod.up {V V1 : gMem} {K k i j : Nat} {x : Int32} (h : stmod V V1 k) (hK : 23 ≤ K) (hK2 : K ≤ 27) : stmod V (gup V1 K k i j x) k := fun K' b' i' hn => (gup_off V1 x (fun q => hn ⟨by omega, by omega, q.2.1⟩)).trans (h K' b' i' hn)
theorem rmodM.st {V V' : gMem} {k e : Nat} (h : rmodM V V' k e) : stmod V V' k := fun K b i hn => h.1 K b i (fun q => hn ⟨by omega, by omega, q.2.1⟩)
theorem sPlc_on {S : gSt} {i : Nat} (h : S.2.2.2.1 i 8 = 1) : sPlc S i = nI (sPos S i) := by
  unfold sPlc sPos
  rw [if_pos h]
  split <;> rfl
theorem sPlc_off {S : gSt} {i : Nat} (h : S.2.2.2.1 i 8 ≠ 1) : sPlc S i = -1 := if_neg h
theorem WF.pos {S : gSt} (h : WF S) {i : Nat} (hi : i ∈ S.2.1 2) : sPos S i < S.1 2 := by
  have h1 := h.2.2.2.2.2.1 i hi
  have h2 := h.1.2.1
  unfold sPos
  split <;> omega
theorem WF.on {S : gSt} (h : WF S) {i : Nat} (hi : i < S.1 6) (h8 : S.2.2.2.1 i 8 = 1) : i ∈ S.2.1 2 := (h.2.2.2.2.1 i).mpr ⟨hi, h8⟩
theorem pw_inj {f : Nat → Nat} {l : List Nat} (h : l.Pairwise (fun i j => f j < f i)) {i j : Nat} (hi : i ∈ l) (hj : j ∈ l) (e : f i = f j) : i = j := by
  induction l with
  | nil => cases hi
  | cons a l ih =>
    rw [List.pairwise_cons] at h
    rcases List.mem_cons.mp hi with p | p <;> rcases List.mem_cons.mp hj with q | q
    · rw [p, q]
    · have := h.1 j q; rw [p] at e; omega
    · have := h.1 i p; rw [q] at e; omega
    · exact ih h.2 p q
theorem WF.pos_inj {S : gSt} (h : WF S) {i j : Nat} (hi : i ∈ S.2.1 2) (hj : j ∈ S.2.1 2) (e : sPos S i = sPos S j) : i = j := by
  have h1 := h.2.2.2.2.2.2.1 i hi j hj
  have h2 := h.2.2.2.2.2.1 i hi
  have h3 := h.2.2.2.2.2.1 j hj
  refine pw_inj (f := fun x => S.2.2.2.1 x 9) h.2.2.2.1 hi hj ?_
  unfold sPos at e
  show S.2.2.2.1 i 9 = S.2.2.2.1 j 9
  rw [h1] at e
  split at e <;> omega
/-- what stands at a place -/
theorem AbsM.at {V : gMem} {k : Nat} {S : gSt} (h : AbsM V k S) (hw : WF S) {p : Nat} (hp : p < 30) : (∃ i, i ∈ S.2.1 2 ∧ sPos S i = p ∧ V 25 k 0 p = nI i) ∨ ((∀ i, i ∈ S.2.1 2 → sPos S i ≠ p) ∧ V 25 k 0 p = -1) := by
  by_cases hx : ∃ i, i ∈ S.2.1 2 ∧ sPos S i = p
  · obtain ⟨i, h1, h2⟩ := hx
    refine Or.inl ⟨i, h1, h2, ?_⟩
    have := h.2.2.1.1 i (hw.mem h1) ((hw.2.2.2.2.1 i).mp h1).2
    rw [h2] at this
    exact this
  · refine Or.inr ⟨fun i h1 h2 => hx ⟨i, h1, h2⟩, ?_⟩
    exact h.2.2.1.2 p hp (fun i h1 h2 h3 => hx ⟨i, hw.on h1 h2, h3⟩)
theorem nI_ne_m1 {i : Nat} (h : i < 2 ^ 31) : ¬ nI i = -1 := fun q => nI_pos h (by rw [q]; decide)
/-- sums by places -/
theorem filt_add {l : List Nat} {pos w : Nat → Nat} {p i : Nat} (hn : l.Nodup) (hi : i ∈ l) (hp : pos i = p) (hu : ∀ j ∈ l, pos j = p → j = i) : ((l.filter (fun j => decide (pos j < p + 1))).map w).sum = ((l.filter (fun j => decide (pos j < p))).map w).sum + w i := by
  induction l with
  | nil => cases hi
  | cons a l ih =>
    rw [List.nodup_cons] at hn
    by_cases ha : a = i
    · subst ha
      have hne : ∀ j ∈ l, decide (pos j < p + 1) = decide (pos j < p) := fun j hj => by
        have : pos j ≠ p := fun q => hn.1 ((hu j (List.mem_cons_of_mem _ hj) q) ▸ hj)
        simp only [decide_eq_decide]; omega
      rw [List.filter_cons_of_pos (by simp; omega), List.filter_cons_of_neg (by simp; omega), List.filter_congr hne]
      simp only [List.map_cons, List.sum_cons]; omega
    · have hil : i ∈ l := (List.mem_cons.mp hi).resolve_left (fun q => ha q.symm)
      have := ih hn.2 hil (fun j hj q => hu j (List.mem_cons_of_mem _ hj) q)
      have hpa : pos a ≠ p := fun q => ha (hu a List.mem_cons_self q)
      by_cases h2 : pos a < p
      · rw [List.filter_cons_of_pos (by simp; omega), List.filter_cons_of_pos (by simp; omega)]
        simp only [List.map_cons, List.sum_cons]; omega
      · rw [List.filter_cons_of_neg (by simp; omega), List.filter_cons_of_neg (by simp; omega)]
        exact this
theorem filt_same {l : List Nat} {pos : Nat → Nat} {p : Nat} (hu : ∀ j ∈ l, pos j ≠ p) : l.filter (fun j => decide (pos j < p + 1)) = l.filter (fun j => decide (pos j < p)) := List.filter_congr (fun j hj => by have := hu j hj; simp only [decide_eq_decide]; omega)
def sWp (S : gSt) (p : Nat) : Nat := (((S.2.1 2).filter (fun j => decide (sPos S j < p))).map (fun i => S.2.2.2.1 i 3)).sum
theorem sWp_all {S : gSt} (h : WF S) : sWp S (S.1 2) = sW S := by
  unfold sWp sW
  rw [List.filter_eq_self.mpr (fun j hj => by simpa using h.pos hj)]
theorem sWp_0 (S : gSt) : sWp S 0 = 0 := by
  unfold sWp
  rw [List.filter_eq_nil_iff.mpr (by simp)]
  rfl
def sBk (S : gSt) (p : Nat) : Bool := (S.2.1 2).any (fun j => decide (sPos S j < p ∧ ¬ S.2.2.2.1 j 1 = S.1 1))
theorem sBk_0 (S : gSt) : sBk S 0 = false := by simp [sBk]
theorem sBk_same {S : gSt} {p : Nat} (hu : ∀ j ∈ S.2.1 2, sPos S j = p → S.2.2.2.1 j 1 = S.1 1) : sBk S (p + 1) = sBk S p := by
  unfold sBk
  rw [Bool.eq_iff_iff, List.any_eq_true, List.any_eq_true]
  constructor
  · rintro ⟨j, h1, h2⟩
    simp only [decide_eq_true_eq] at h2
    refine ⟨j, h1, ?_⟩
    simp only [decide_eq_true_eq]
    have h3 : sPos S j ≠ p := fun q => h2.2 (hu j h1 q)
    exact ⟨by omega, h2.2⟩
  · rintro ⟨j, h1, h2⟩
    simp only [decide_eq_true_eq] at h2
    refine ⟨j, h1, ?_⟩
    simp only [decide_eq_true_eq]
    exact ⟨by omega, h2.2⟩
theorem sBk_yes {S : gSt} {p i : Nat} (hi : i ∈ S.2.1 2) (hp : sPos S i < p) (he : ¬ S.2.2.2.1 i 1 = S.1 1) : sBk S p = true := by
  unfold sBk
  rw [List.any_eq_true]
  exact ⟨i, hi, by simp only [decide_eq_true_eq]; exact ⟨hp, he⟩⟩

theorem k_ownM {l : Launch} {B : gB} (hI : gI B) (V : gMem) (k : Nat) (S : gSt) (i f : Nat) (hk : k < 2) (hA : AbsM V k S) (hn : S.1 6 ≤ 16) (hi : i < S.1 6) (hf : f < 10) : gM l B yX7_own cX7_own 3 (some .int) rmX7_own [.ref (B.2.1 23 k 0), .int (nI i), .int (nI f)] V (fun v V' => v = some (.int (mF S i f)) ∧ V' = V) :=
  (k_own hI V k i f hk (by omega) hf).mono (fun v V' h => ⟨by rw [h.1, hA.2.1 i hi f hf], h.2⟩)

abbrev rmX7_how : Room := { frames := 1, cells := 0, slots := 0, locals := 22 }
set_option maxRecDepth 20000 in
theorem k_how {l : Launch} {B : gB} (hI : gI B) (V : gMem) (k : Nat) (S : gSt) (st : Nat) (hk : k < 2) (hA : AbsM V k S) (hn : S.1 6 ≤ 16) (h8 : ∀ i, i < S.1 6 → S.2.2.2.1 i 8 ≤ 3) (hst : st ≤ 3) : gM l B yX7_how cX7_how 4 (some .int) rmX7_how [.ref (B.2.1 23 k 0), .int (nI st)] V (fun v V' => v = some (.int (nI (sCnt S st))) ∧ V' = V) := by
  refine gM_of (own := RX7) (L := [(0, .ref (B.2.1 23 k 0)), (1, .int (nI st))]) (by decide +kernel) rfl hI (Nat.le_of_ble_eq_true rfl) rfl ?_
  intro Z hnL hR X F
  refine g_iconst X 0 (by decide) dX7_how_0 ?_
  refine g_istore_n X rfl dX7_how_1 [(2, .int 0), (0, .ref (B.2.1 23 k 0)), (1, .int (nI st))] rfl (gnl_lt hnL (by decide)) ?_
  refine g_iconst X 0 (by decide) dX7_how_2 ?_
  refine g_istore_n X rfl dX7_how_3 [(3, .int 0), (2, .int 0), (0, .ref (B.2.1 23 k 0)), (1, .int (nI st))] rfl (gnl_lt hnL (by decide)) ?_
  refine gG_L [2, 3, 1, 0] (L' := [(0, .ref (B.2.1 23 k 0)), (1, .int (nI st)), (2, .int 0), (3, .int 0)]) rfl ?_
  have loop : ∀ (f : Nat) (i : Nat) , i + f = S.1 6 →  gG Z B (0, 0) V 4 [(0, .ref (B.2.1 23 k 0)), (1, .int (nI st)), (2, .int (nI (cntF (fun i => decide (S.2.2.2.1 i 8 = st)) i))), (3, .int (nI i))] [] := by
    intro f
    induction f with
    | zero =>
      intro i  hf 
      refine g_iload_n X 3 rfl dX7_how_4 ?_
      refine g_aload_n X 0 rfl dX7_how_5 ?_
      refine gg_X7_carts X (gP_23 (by first | assumption | decide | omega)) fX7_41 dX7_how_6 ?_
      refine gG_top (nI (S.1 6)) (hA.1.2.2) ?_
      refine g_icmp_ge X 36 (by decide) dX7_how_9 (fun c1 => ?_) (fun c1 => ?_)
      · refine g_iload_n X 2 rfl dX7_how_36 ?_
        refine g_iret X F ?_ rfl dX7_how_37
        exact ⟨by rw [show i = S.1 6 by omega]; rfl, rfl⟩
      · first | exact absurd (nI_le (by omega) (by omega)) c1 | exact absurd c1 (nI_le (by omega) (by omega))
    | succ f ih =>
      intro i  hf 
      have hc3 := h8 i (by omega)
      have hiN : i < S.1 6 := by omega
      refine g_iload_n X 3 rfl dX7_how_4 ?_
      refine g_aload_n X 0 rfl dX7_how_5 ?_
      refine gg_X7_carts X (gP_23 (by first | assumption | decide | omega)) fX7_41 dX7_how_6 ?_
      refine gG_top (nI (S.1 6)) (hA.1.2.2) ?_
      refine g_icmp_ge X 36 (by decide) dX7_how_9 (fun c2 => ?_) (fun c2 => ?_)
      · first | exact absurd (nI_ge (by omega) (by omega)) c2 | exact absurd c2 (nI_ge (by omega) (by omega))
      · refine g_iload_n X 2 rfl dX7_how_12 ?_
        refine g_aload_n X 0 rfl dX7_how_13 ?_
        refine g_iload_n X 3 rfl dX7_how_14 ?_
        refine g_iconst X 5 (by decide) dX7_how_15 ?_
        refine g_callV X hR (rest := [.int (nI (cntF (fun i => decide (S.2.2.2.1 i 8 = st)) i))]) mX7_own lX7_52 (k_ownM hI V k S i 5 (by first | assumption | decide | omega) hA (by first | assumption | decide | omega) hiN (by decide)) rfl rfl (Nat.le_of_ble_eq_true rfl) (gP_23 (by first | assumption | decide | omega)) rfl rfl rfl ⟨Nat.le_of_ble_eq_true rfl, Nat.le_of_ble_eq_true rfl, Nat.le_of_ble_eq_true rfl, Nat.le_of_ble_eq_true rfl⟩ dX7_how_16 (fun r3 V4 hz_5 => ?_)
        refine gG_ret hz_5.1 hz_5.2 ?_
        refine gG_st [.int (nI (S.2.2.2.1 i 8)), .int (nI (cntF (fun i => decide (S.2.2.2.1 i 8 = st)) i))] rfl ?_
        refine g_iload_n X 1 rfl dX7_how_19 ?_
        by_cases hc : S.2.2.2.1 i 8 = st
        · skip
          refine g_icmp_ne X 27 (by decide) dX7_how_20 (fun c6 => ?_) (fun c6 => ?_)
          · first | exact absurd (fun z => z (by rw [hc])) c6 | exact absurd c6 (fun z => z (by rw [hc]))
          · refine g_iconst X 1 (by decide) dX7_how_23 ?_
            refine g_goto X 28 (by decide) dX7_how_24 ?_
            refine g_iadd X dX7_how_28 ?_
            refine gG_top (nI ((cntF (fun i => decide (S.2.2.2.1 i 8 = st)) i) + 1)) (nI_1 _) ?_
            refine gG_top (nI (cntF (fun i => decide (S.2.2.2.1 i 8 = st)) (i + 1))) (congrArg nI (show cntF (fun i => decide (S.2.2.2.1 i 8 = st)) i + 1 = cntF (fun i => decide (S.2.2.2.1 i 8 = st)) i + (if decide (S.2.2.2.1 i 8 = st) = true then 1 else 0) by rw [if_pos (by simp [hc])])) ?_
            refine g_istore_n X rfl dX7_how_29 [(2, .int (nI (cntF (fun i => decide (S.2.2.2.1 i 8 = st)) (i + 1)))), (0, .ref (B.2.1 23 k 0)), (1, .int (nI st)), (3, .int (nI i))] rfl (gnl_lt hnL (by decide)) ?_
            refine g_iinc X 3 rfl (nI (i + 1)) (iinc_1 _) dX7_how_30 [(3, .int (nI (i + 1))), (2, .int (nI (cntF (fun i => decide (S.2.2.2.1 i 8 = st)) (i + 1)))), (0, .ref (B.2.1 23 k 0)), (1, .int (nI st))] rfl (gnl_lt hnL (by decide)) ?_
            refine g_goto X 4 (by decide) dX7_how_33 ?_
            refine gG_L [2, 3, 1, 0] (L' := [(0, .ref (B.2.1 23 k 0)), (1, .int (nI st)), (2, .int (nI (cntF (fun i => decide (S.2.2.2.1 i 8 = st)) (i + 1)))), (3, .int (nI (i + 1)))]) rfl ?_
            refine ih (i + 1) (by omega)
        · skip
          refine g_icmp_ne X 27 (by decide) dX7_how_20 (fun c7 => ?_) (fun c7 => ?_)
          · refine g_iconst X 0 (by decide) dX7_how_27 ?_
            refine g_iadd X dX7_how_28 ?_
            refine gG_top (nI ((cntF (fun i => decide (S.2.2.2.1 i 8 = st)) i) + 0)) (nI_add (cntF (fun i => decide (S.2.2.2.1 i 8 = st)) i) 0) ?_
            refine gG_top (nI (cntF (fun i => decide (S.2.2.2.1 i 8 = st)) (i + 1))) (congrArg nI (show cntF (fun i => decide (S.2.2.2.1 i 8 = st)) i + 0 = cntF (fun i => decide (S.2.2.2.1 i 8 = st)) i + (if decide (S.2.2.2.1 i 8 = st) = true then 1 else 0) by rw [if_neg (by simp [hc])])) ?_
            refine g_istore_n X rfl dX7_how_29 [(2, .int (nI (cntF (fun i => decide (S.2.2.2.1 i 8 = st)) (i + 1)))), (0, .ref (B.2.1 23 k 0)), (1, .int (nI st)), (3, .int (nI i))] rfl (gnl_lt hnL (by decide)) ?_
            refine g_iinc X 3 rfl (nI (i + 1)) (iinc_1 _) dX7_how_30 [(3, .int (nI (i + 1))), (2, .int (nI (cntF (fun i => decide (S.2.2.2.1 i 8 = st)) (i + 1)))), (0, .ref (B.2.1 23 k 0)), (1, .int (nI st))] rfl (gnl_lt hnL (by decide)) ?_
            refine g_goto X 4 (by decide) dX7_how_33 ?_
            refine gG_L [2, 3, 1, 0] (L' := [(0, .ref (B.2.1 23 k 0)), (1, .int (nI st)), (2, .int (nI (cntF (fun i => decide (S.2.2.2.1 i 8 = st)) (i + 1)))), (3, .int (nI (i + 1)))]) rfl ?_
            refine ih (i + 1) (by omega)
          · first | exact absurd (fun z => hc ((nI_eq (by omega) (by omega)).mp z)) c7 | exact absurd c7 (fun z => hc ((nI_eq (by omega) (by omega)).mp z))
  exact loop (S.1 6) 0 (by omega)

abbrev rmX7_weight : Room := { frames := 1, cells := 0, slots := 0, locals := 22 }
set_option maxRecDepth 20000 in
theorem k_mweight {l : Launch} {B : gB} (hI : gI B) (V : gMem) (k : Nat) (S : gSt) (hk : k < 2) (hA : AbsM V k S) (hw : WF S) : gM l B yX7_weight cX7_weight 3 (some .int) rmX7_weight [.ref (B.2.1 23 k 0)] V (fun v V' => v = some (.int (nI (sW S))) ∧ V' = V) := by
  refine gM_of (own := RX7) (L := [(0, .ref (B.2.1 23 k 0))]) (by decide +kernel) rfl hI (Nat.le_of_ble_eq_true rfl) rfl ?_
  intro Z hnL hR X F
  have hpl := hw.1.2.1
  have hN : S.1 6 ≤ 16 := hw.1.2.2.2.2.2
  refine g_iconst X 0 (by decide) dX7_weight_0 ?_
  refine g_istore_n X rfl dX7_weight_1 [(1, .int 0), (0, .ref (B.2.1 23 k 0))] rfl (gnl_lt hnL (by decide)) ?_
  refine g_iconst X 0 (by decide) dX7_weight_2 ?_
  refine g_istore_n X rfl dX7_weight_3 [(2, .int 0), (1, .int 0), (0, .ref (B.2.1 23 k 0))] rfl (gnl_lt hnL (by decide)) ?_
  refine gG_L [2, 1, 0] (L' := [(0, .ref (B.2.1 23 k 0)), (1, .int 0), (2, .int 0)]) rfl ?_
  refine gG_Le [(0, .ref (B.2.1 23 k 0)), (1, .int (nI (sWp S 0))), (2, .int (nI 0))] (by rw [sWp_0]; rfl) ?_
  have loop : ∀ (f : Nat) (p : Nat) , p + f = S.1 2 →  gG Z B (0, 0) V 4 [(0, .ref (B.2.1 23 k 0)), (1, .int (nI (sWp S p))), (2, .int (nI p))] [] := by
    intro f
    induction f with
    | zero =>
      intro p  hf 
      refine g_iload_n X 2 rfl dX7_weight_4 ?_
      refine g_aload_n X 0 rfl dX7_weight_5 ?_
      refine gg_X7_this_0 X (gP_23 (by first | assumption | decide | omega)) fX7_3 dX7_weight_6 ?_
      refine gg_X8_places X ⟨by decide, by decide⟩ fX7_59 dX7_weight_9 ?_
      refine gG_top (nI (S.1 2)) (hA.2.2.2.2.2.1) ?_
      refine g_icmp_ge X 45 (by decide) dX7_weight_12 (fun c1 => ?_) (fun c1 => ?_)
      · refine g_iload_n X 1 rfl dX7_weight_45 ?_
        refine g_iret X F ?_ rfl dX7_weight_46
        exact ⟨by rw [show p = S.1 2 by omega, sWp_all hw], rfl⟩
      · first | exact absurd (nI_le (by omega) (by omega)) c1 | exact absurd c1 (nI_le (by omega) (by omega))
    | succ f ih =>
      intro p  hf 
      refine g_iload_n X 2 rfl dX7_weight_4 ?_
      refine g_aload_n X 0 rfl dX7_weight_5 ?_
      refine gg_X7_this_0 X (gP_23 (by first | assumption | decide | omega)) fX7_3 dX7_weight_6 ?_
      refine gg_X8_places X ⟨by decide, by decide⟩ fX7_59 dX7_weight_9 ?_
      refine gG_top (nI (S.1 2)) (hA.2.2.2.2.2.1) ?_
      refine g_icmp_ge X 45 (by decide) dX7_weight_12 (fun c2 => ?_) (fun c2 => ?_)
      · first | exact absurd (nI_ge (by omega) (by omega)) c2 | exact absurd c2 (nI_ge (by omega) (by omega))
      · refine g_aload_n X 0 rfl dX7_weight_15 ?_
        refine gg_X7_at X (gP_23 (by first | assumption | decide | omega)) fX7_19 dX7_weight_16 ?_
        refine g_iload_n X 2 rfl dX7_weight_19 ?_
        refine g_ialdN X (p) rfl (by omega) (by decide) (gP_25 (by first | assumption | decide | omega)) rfl dX7_weight_20 ?_
        rcases hA.at hw (p := p) (by omega) with ⟨i, hi2, hpi, hat⟩ | ⟨hno, hat⟩
        · have hiN := hw.mem hi2
          refine gG_top (nI i) hat ?_
          refine g_iconst X (-1) (by decide) dX7_weight_21 ?_
          refine g_icmp_eq X 39 (by decide) dX7_weight_22 (fun c3 => ?_) (fun c3 => ?_)
          · first | exact absurd (nI_ne_m1 (by omega)) c3 | exact absurd c3 (nI_ne_m1 (by omega))
          · refine g_iload_n X 1 rfl dX7_weight_25 ?_
            refine g_aload_n X 0 rfl dX7_weight_26 ?_
            refine g_aload_n X 0 rfl dX7_weight_27 ?_
            refine gg_X7_at X (gP_23 (by first | assumption | decide | omega)) fX7_19 dX7_weight_28 ?_
            refine g_iload_n X 2 rfl dX7_weight_31 ?_
            refine g_ialdN X (p) rfl (by omega) (by decide) (gP_25 (by first | assumption | decide | omega)) rfl dX7_weight_32 ?_
            refine gG_top (nI i) (hat) ?_
            refine g_iconst X 1 (by decide) dX7_weight_33 ?_
            refine g_callV X hR (rest := [.int (nI (sWp S p))]) mX7_own lX7_52 (k_ownM hI V k S i 1 (by first | assumption | decide | omega) hA (by first | assumption | decide | omega) hiN (by decide)) rfl rfl (Nat.le_of_ble_eq_true rfl) (gP_23 (by first | assumption | decide | omega)) rfl rfl rfl ⟨Nat.le_of_ble_eq_true rfl, Nat.le_of_ble_eq_true rfl, Nat.le_of_ble_eq_true rfl, Nat.le_of_ble_eq_true rfl⟩ dX7_weight_34 (fun r4 V5 hz_6 => ?_)
            refine gG_ret hz_6.1 hz_6.2 ?_
            refine gG_st [.int (nI (S.2.2.2.1 i 3)), .int (nI (sWp S p))] rfl ?_
            refine g_iadd X dX7_weight_37 ?_
            refine gG_top (nI ((sWp S p) + (S.2.2.2.1 i 3))) (nI_add (sWp S p) (S.2.2.2.1 i 3)) ?_
            refine g_istore_n X rfl dX7_weight_38 [(1, .int (nI ((sWp S p) + (S.2.2.2.1 i 3)))), (0, .ref (B.2.1 23 k 0)), (2, .int (nI p))] rfl (gnl_lt hnL (by decide)) ?_
            refine gG_L [1, 0, 2] (L' := [(0, .ref (B.2.1 23 k 0)), (1, .int (nI ((sWp S p) + (S.2.2.2.1 i 3)))), (2, .int (nI p))]) rfl ?_
            refine gG_Le [(0, .ref (B.2.1 23 k 0)), (1, .int (nI (sWp S (p + 1)))), (2, .int (nI p))] (by rw [show sWp S (p + 1) = sWp S p + S.2.2.2.1 i 3 from filt_add hw.ne hi2 hpi (fun j hj q => hw.pos_inj hj hi2 (q.trans hpi.symm))]) ?_
            refine g_iinc X 2 rfl (nI (p + 1)) (iinc_1 _) dX7_weight_39 [(2, .int (nI (p + 1))), (0, .ref (B.2.1 23 k 0)), (1, .int (nI (sWp S (p + 1))))] rfl (gnl_lt hnL (by decide)) ?_
            refine g_goto X 4 (by decide) dX7_weight_42 ?_
            refine gG_L [1, 2, 0] (L' := [(0, .ref (B.2.1 23 k 0)), (1, .int (nI (sWp S (p + 1)))), (2, .int (nI (p + 1)))]) rfl ?_
            refine ih (p + 1) (by omega)
        · refine gG_top (-1) hat ?_
          refine g_iconst X (-1) (by decide) dX7_weight_21 ?_
          refine g_icmp_eq X 39 (by decide) dX7_weight_22 (fun c7 => ?_) (fun c7 => ?_)
          · refine gG_Le [(0, .ref (B.2.1 23 k 0)), (1, .int (nI (sWp S (p + 1)))), (2, .int (nI p))] (by rw [show sWp S (p + 1) = sWp S p by unfold sWp; rw [filt_same hno]]) ?_
            refine g_iinc X 2 rfl (nI (p + 1)) (iinc_1 _) dX7_weight_39 [(2, .int (nI (p + 1))), (0, .ref (B.2.1 23 k 0)), (1, .int (nI (sWp S (p + 1))))] rfl (gnl_lt hnL (by decide)) ?_
            refine g_goto X 4 (by decide) dX7_weight_42 ?_
            refine gG_L [1, 2, 0] (L' := [(0, .ref (B.2.1 23 k 0)), (1, .int (nI (sWp S (p + 1)))), (2, .int (nI (p + 1)))]) rfl ?_
            refine ih (p + 1) (by omega)
          ·  exact absurd c7 (by decide)
  exact loop (S.1 2) 0 (by omega)

abbrev rmX7_isBack : Room := { frames := 1, cells := 0, slots := 0, locals := 22 }
set_option maxRecDepth 20000 in
theorem k_isBack {l : Launch} {B : gB} (hI : gI B) (V : gMem) (k : Nat) (S : gSt) (hk : k < 2) (hA : AbsM V k S) (hw : WF S) : gM l B yX7_isBack cX7_isBack 3 (some .boolean) rmX7_isBack [.ref (B.2.1 23 k 0)] V (fun v V' => v = some (.int (if sBk S (S.1 2) = true then 1 else 0)) ∧ V' = V) := by
  refine gM_of (own := RX7) (L := [(0, .ref (B.2.1 23 k 0))]) (by decide +kernel) rfl hI (Nat.le_of_ble_eq_true rfl) rfl ?_
  intro Z hnL hR X F
  have hpl := hw.1.2.1
  have hN : S.1 6 ≤ 16 := hw.1.2.2.2.2.2
  refine g_iconst X 0 (by decide) dX7_isBack_0 ?_
  refine g_istore_n X rfl dX7_isBack_1 [(1, .int 0), (0, .ref (B.2.1 23 k 0))] rfl (gnl_lt hnL (by decide)) ?_
  refine g_iconst X 0 (by decide) dX7_isBack_2 ?_
  refine g_istore_n X rfl dX7_isBack_3 [(2, .int 0), (1, .int 0), (0, .ref (B.2.1 23 k 0))] rfl (gnl_lt hnL (by decide)) ?_
  refine gG_L [2, 1, 0] (L' := [(0, .ref (B.2.1 23 k 0)), (1, .int 0), (2, .int 0)]) rfl ?_
  refine gG_Le [(0, .ref (B.2.1 23 k 0)), (1, .int (if sBk S 0 = true then 1 else 0)), (2, .int (nI 0))] (by rw [sBk_0]; rfl) ?_
  have loop : ∀ (f : Nat) (p : Nat) , p + f = S.1 2 →  gG Z B (0, 0) V 4 [(0, .ref (B.2.1 23 k 0)), (1, .int (if sBk S p = true then 1 else 0)), (2, .int (nI p))] [] := by
    intro f
    induction f with
    | zero =>
      intro p  hf 
      refine g_iload_n X 2 rfl dX7_isBack_4 ?_
      refine g_aload_n X 0 rfl dX7_isBack_5 ?_
      refine gg_X7_this_0 X (gP_23 (by first | assumption | decide | omega)) fX7_3 dX7_isBack_6 ?_
      refine gg_X8_places X ⟨by decide, by decide⟩ fX7_59 dX7_isBack_9 ?_
      refine gG_top (nI (S.1 2)) (hA.2.2.2.2.2.1) ?_
      refine g_icmp_ge X 57 (by decide) dX7_isBack_12 (fun c1 => ?_) (fun c1 => ?_)
      · refine g_iload_n X 1 rfl dX7_isBack_57 ?_
        refine g_zret X F (by first | assumption | (split <;> rfl)) ?_ rfl dX7_isBack_58
        exact ⟨by rw [show p = S.1 2 by omega], rfl⟩
      · first | exact absurd (nI_le (by omega) (by omega)) c1 | exact absurd c1 (nI_le (by omega) (by omega))
    | succ f ih =>
      intro p  hf 
      refine g_iload_n X 2 rfl dX7_isBack_4 ?_
      refine g_aload_n X 0 rfl dX7_isBack_5 ?_
      refine gg_X7_this_0 X (gP_23 (by first | assumption | decide | omega)) fX7_3 dX7_isBack_6 ?_
      refine gg_X8_places X ⟨by decide, by decide⟩ fX7_59 dX7_isBack_9 ?_
      refine gG_top (nI (S.1 2)) (hA.2.2.2.2.2.1) ?_
      refine g_icmp_ge X 57 (by decide) dX7_isBack_12 (fun c2 => ?_) (fun c2 => ?_)
      · first | exact absurd (nI_ge (by omega) (by omega)) c2 | exact absurd c2 (nI_ge (by omega) (by omega))
      · refine g_iload_n X 1 rfl dX7_isBack_15 ?_
        refine g_aload_n X 0 rfl dX7_isBack_16 ?_
        refine gg_X7_at X (gP_23 (by first | assumption | decide | omega)) fX7_19 dX7_isBack_17 ?_
        refine g_iload_n X 2 rfl dX7_isBack_20 ?_
        refine g_ialdN X (p) rfl (by omega) (by decide) (gP_25 (by first | assumption | decide | omega)) rfl dX7_isBack_21 ?_
        rcases hA.at hw (p := p) (by omega) with ⟨i, hi2, hpi, hat⟩ | ⟨hno, hat⟩
        · have hiN := hw.mem hi2
          refine gG_top (nI i) hat ?_
          refine g_iconst X (-1) (by decide) dX7_isBack_22 ?_
          refine g_icmp_eq X 48 (by decide) dX7_isBack_23 (fun c3 => ?_) (fun c3 => ?_)
          · first | exact absurd (nI_ne_m1 (by omega)) c3 | exact absurd c3 (nI_ne_m1 (by omega))
          · refine g_aload_n X 0 rfl dX7_isBack_26 ?_
            refine g_aload_n X 0 rfl dX7_isBack_27 ?_
            refine gg_X7_at X (gP_23 (by first | assumption | decide | omega)) fX7_19 dX7_isBack_28 ?_
            refine g_iload_n X 2 rfl dX7_isBack_31 ?_
            refine g_ialdN X (p) rfl (by omega) (by decide) (gP_25 (by first | assumption | decide | omega)) rfl dX7_isBack_32 ?_
            refine gG_top (nI i) (hat) ?_
            refine g_iconst X 4 (by decide) dX7_isBack_33 ?_
            refine g_callV X hR (rest := [.int (if sBk S p = true then 1 else 0)]) mX7_own lX7_52 (k_ownM hI V k S i 4 (by first | assumption | decide | omega) hA (by first | assumption | decide | omega) hiN (by decide)) rfl rfl (Nat.le_of_ble_eq_true rfl) (gP_23 (by first | assumption | decide | omega)) rfl rfl rfl ⟨Nat.le_of_ble_eq_true rfl, Nat.le_of_ble_eq_true rfl, Nat.le_of_ble_eq_true rfl, Nat.le_of_ble_eq_true rfl⟩ dX7_isBack_34 (fun r4 V5 hz_6 => ?_)
            refine gG_ret hz_6.1 hz_6.2 ?_
            refine gG_st [.int (nI (S.2.2.2.1 i 1)), .int (if sBk S p = true then 1 else 0)] rfl ?_
            by_cases hec : S.2.2.2.1 i 1 = S.1 1
            · skip
              refine g_aload_n X 0 rfl dX7_isBack_37 ?_
              refine gg_X7_open X (gP_23 (by first | assumption | decide | omega)) fX7_38 dX7_isBack_38 ?_
              refine gG_top (nI (S.1 1)) (hA.1.2.1) ?_
              refine g_icmp_eq X 48 (by decide) dX7_isBack_41 (fun c7 => ?_) (fun c7 => ?_)
              · refine g_iconst X 0 (by decide) dX7_isBack_48 ?_
                refine g_ior X dX7_isBack_49 ?_
                refine gG_top (if sBk S (p + 1) = true then 1 else 0) (by rw [sBk_same (fun j hj q => by rw [hw.pos_inj hj hi2 (q.trans hpi.symm)]; exact hec)]; split <;> rfl) ?_
                refine g_istore_n X rfl dX7_isBack_50 [(1, .int (if sBk S (p + 1) = true then 1 else 0)), (0, .ref (B.2.1 23 k 0)), (2, .int (nI p))] rfl (gnl_lt hnL (by decide)) ?_
                refine g_iinc X 2 rfl (nI (p + 1)) (iinc_1 _) dX7_isBack_51 [(2, .int (nI (p + 1))), (1, .int (if sBk S (p + 1) = true then 1 else 0)), (0, .ref (B.2.1 23 k 0))] rfl (gnl_lt hnL (by decide)) ?_
                refine g_goto X 4 (by decide) dX7_isBack_54 ?_
                refine gG_L [2, 1, 0] (L' := [(0, .ref (B.2.1 23 k 0)), (1, .int (if sBk S (p + 1) = true then 1 else 0)), (2, .int (nI (p + 1)))]) rfl ?_
                refine ih (p + 1) (by omega)
              · first | exact absurd (by rw [hec]) c7 | exact absurd c7 (by rw [hec])
            · skip
              refine g_aload_n X 0 rfl dX7_isBack_37 ?_
              refine gg_X7_open X (gP_23 (by first | assumption | decide | omega)) fX7_38 dX7_isBack_38 ?_
              refine gG_top (nI (S.1 1)) (hA.1.2.1) ?_
              refine g_icmp_eq X 48 (by decide) dX7_isBack_41 (fun c8 => ?_) (fun c8 => ?_)
              · first | exact absurd (fun z => hec ((nI_eq (by have := (hw.2.1 i hiN).1; omega) (by have := hw.1.1; omega)).mp z)) c8 | exact absurd c8 (fun z => hec ((nI_eq (by have := (hw.2.1 i hiN).1; omega) (by have := hw.1.1; omega)).mp z))
              · refine g_iconst X 1 (by decide) dX7_isBack_44 ?_
                refine g_goto X 49 (by decide) dX7_isBack_45 ?_
                refine g_ior X dX7_isBack_49 ?_
                refine gG_top (if sBk S (p + 1) = true then 1 else 0) (by rw [show sBk S (p + 1) = true from sBk_yes hi2 (by omega) hec]; split <;> rfl) ?_
                refine g_istore_n X rfl dX7_isBack_50 [(1, .int (if sBk S (p + 1) = true then 1 else 0)), (0, .ref (B.2.1 23 k 0)), (2, .int (nI p))] rfl (gnl_lt hnL (by decide)) ?_
                refine g_iinc X 2 rfl (nI (p + 1)) (iinc_1 _) dX7_isBack_51 [(2, .int (nI (p + 1))), (1, .int (if sBk S (p + 1) = true then 1 else 0)), (0, .ref (B.2.1 23 k 0))] rfl (gnl_lt hnL (by decide)) ?_
                refine g_goto X 4 (by decide) dX7_isBack_54 ?_
                refine gG_L [2, 1, 0] (L' := [(0, .ref (B.2.1 23 k 0)), (1, .int (if sBk S (p + 1) = true then 1 else 0)), (2, .int (nI (p + 1)))]) rfl ?_
                refine ih (p + 1) (by omega)
        · refine gG_top (-1) hat ?_
          refine g_iconst X (-1) (by decide) dX7_isBack_22 ?_
          refine g_icmp_eq X 48 (by decide) dX7_isBack_23 (fun c9 => ?_) (fun c9 => ?_)
          · refine g_iconst X 0 (by decide) dX7_isBack_48 ?_
            refine g_ior X dX7_isBack_49 ?_
            refine gG_top (if sBk S (p + 1) = true then 1 else 0) (by rw [sBk_same (fun j hj q => absurd q (hno j hj))]; split <;> rfl) ?_
            refine g_istore_n X rfl dX7_isBack_50 [(1, .int (if sBk S (p + 1) = true then 1 else 0)), (0, .ref (B.2.1 23 k 0)), (2, .int (nI p))] rfl (gnl_lt hnL (by decide)) ?_
            refine g_iinc X 2 rfl (nI (p + 1)) (iinc_1 _) dX7_isBack_51 [(2, .int (nI (p + 1))), (1, .int (if sBk S (p + 1) = true then 1 else 0)), (0, .ref (B.2.1 23 k 0))] rfl (gnl_lt hnL (by decide)) ?_
            refine g_goto X 4 (by decide) dX7_isBack_54 ?_
            refine gG_L [2, 1, 0] (L' := [(0, .ref (B.2.1 23 k 0)), (1, .int (if sBk S (p + 1) = true then 1 else 0)), (2, .int (nI (p + 1)))]) rfl ?_
            refine ih (p + 1) (by omega)
          ·  exact absurd c9 (by decide)
  exact loop (S.1 2) 0 (by omega)

