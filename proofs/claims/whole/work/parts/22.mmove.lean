/-! the reference: one cart moves -/
theorem mF_congr {S S' : gSt} {i : Nat} (h1 : S'.1 = S.1) (hc : ∀ k, S'.2.2.2.1 i k = S.2.2.2.1 i k) (ho : S'.2.2.2.2 i = S.2.2.2.2 i) (f : Nat) : mF S' i f = mF S i f := by
  have hp : sPlc S' i = sPlc S i := by unfold sPlc; rw [h1, hc, hc, hc]
  unfold mF
  split <;> first | rw [hc] | exact hp | exact ho
theorem sPos_congr {S S' : gSt} {i : Nat} (h1 : S'.1 = S.1) (hc : ∀ k, S'.2.2.2.1 i k = S.2.2.2.1 i k) : sPos S' i = sPos S i := by unfold sPos; rw [h1, hc, hc]
theorem AbsM.of2 {V V' : gMem} {k : Nat} {S S' : gSt} (h : AbsM V k S) (hm : ∀ K b i, ¬ ((K = 24 ∨ K = 25) ∧ b = k ∧ i = 0) → V' K b i = V K b i) (e1 : S'.1 = S.1) (e2 : ∀ e, e < 2 → S'.2.1 e = S.2.1 e) (e3 : S'.2.2.1 = S.2.2.1) (h2 : ∀ i, i < S.1 6 → ∀ f, f < 10 → V' 24 k 0 (10 * i + f) = mF S' i f) (h3 : AtIs V' k S') : AbsM V' k S' := by
  obtain ⟨a1, -, -, a4, a5, a6⟩ := h
  refine ⟨?_, fun i hi => h2 i (by rw [← e1]; exact hi), h3, fun e he => ?_, fun e he => ?_, ?_⟩
  · rw [hm 23 k 0 (by simp), e1]; exact a1
  · rw [e2 e he]
    obtain ⟨b1, b2, b3⟩ := a4 e he
    exact ⟨by rw [hm 27 k 0 (by simp)]; exact b1, b2, fun j hj => by rw [hm 26 k 0 (by simp)]; exact b3 j hj⟩
  · rw [hm 27 k 0 (by simp), e3]; exact a5 e he
  · unfold NumM
    rw [hm 20 0 0 (by simp), e1]; exact a6
/-- a list of those on the bridge isn't kept by the reference -/
theorem AbsM.congr {V : gMem} {k : Nat} {S S' : gSt} (h : AbsM V k S) (e1 : S'.1 = S.1) (e2 : ∀ e, e < 2 → S'.2.1 e = S.2.1 e) (e3 : S'.2.2 = S.2.2) : AbsM V k S' := by
  have c : ∀ i k, S'.2.2.2.1 i k = S.2.2.2.1 i k := fun i k => by rw [e3]
  have ho : ∀ i, S'.2.2.2.2 i = S.2.2.2.2 i := fun i => by rw [e3]
  refine h.of2 (fun _ _ _ _ => rfl) e1 e2 (by rw [e3]) (fun i hi f hf => by rw [mF_congr e1 (c i) (ho i)]; exact h.2.1 i hi f hf) ⟨fun i hi h8 => ?_, fun p hp hn => ?_⟩
  · rw [sPos_congr e1 (c i)]
    exact h.2.2.1.1 i (by rw [← e1]; exact hi) (by rw [← c]; exact h8)
  · exact h.2.2.1.2 p hp (fun i hi h8 => by rw [← sPos_congr e1 (c i)]; exact hn i (by rw [e1]; exact hi) (by rw [c]; exact h8))
/-- those on the bridge stand apart -/
def Apart (S : gSt) (i : Nat) : Prop := ∀ j, j < S.1 6 → S.2.2.2.1 j 8 = 1 → j ≠ i → sPos S j ≠ sPos S i
theorem AbsM.over {V : gMem} {k : Nat} {S : gSt} {i : Nat} (h : AbsM V k S) (hi : i < S.1 6) (h8 : S.2.2.2.1 i 8 = 1) (ha : Apart S i) (t : Nat) :
    AbsM (gup (gup (gup (gup V 25 k 0 (sPos S i) (-1)) 24 k 0 (10 * i + 5) 2) 24 k 0 (10 * i + 6) (-1)) 24 k 0 (10 * i + 8) (nI t)) k (sO (sC S i 8 2) i (nI t)) := by
  have n1 : (sO (sC S i 8 2) i (nI t)).1 = S.1 := rfl
  have cj : ∀ j, j ≠ i → ∀ k, (sO (sC S i 8 2) i (nI t)).2.2.2.1 j k = S.2.2.2.1 j k := fun j hj k => by simp [sO, sC, hj]
  have ci : ∀ k, k ≠ 8 → (sO (sC S i 8 2) i (nI t)).2.2.2.1 i k = S.2.2.2.1 i k := fun k hk => by simp [sO, sC, hk]
  have c8 : (sO (sC S i 8 2) i (nI t)).2.2.2.1 i 8 = 2 := by simp [sO, sC]
  have oj : ∀ j, j ≠ i → (sO (sC S i 8 2) i (nI t)).2.2.2.2 j = S.2.2.2.2 j := fun j hj => by simp [sO, sC, hj]
  refine h.of2 (fun K b x hn => ?_) rfl (fun _ _ => rfl) rfl (fun j hj f hf => ?_) ⟨fun j hj h1 => ?_, fun p hp hn => ?_⟩
  · rw [gup_off _ _ (fun q => hn ⟨Or.inl q.1, q.2⟩), gup_off _ _ (fun q => hn ⟨Or.inl q.1, q.2⟩), gup_off _ _ (fun q => hn ⟨Or.inl q.1, q.2⟩), gup_off _ _ (fun q => hn ⟨Or.inr q.1, q.2⟩)]
  · by_cases hji : j = i
    · subst hji
      rcases (show f = 0 ∨ f = 1 ∨ f = 2 ∨ f = 3 ∨ f = 4 ∨ f = 5 ∨ f = 6 ∨ f = 7 ∨ f = 8 ∨ f = 9 by omega) with rfl | rfl | rfl | rfl | rfl | rfl | rfl | rfl | rfl | rfl
      all_goals first
        | (rw [gup_ne (by omega), gup_ne (by omega), gup_ne (by omega), gup_ne (by simp), h.2.1 j hj _ (by decide)]; simp only [mF]; rw [ci _ (by decide)]; done)
        | (rw [gup_ne (by omega), gup_ne (by omega), gup_eq]; simp only [mF]; rw [c8]; rfl)
        | (rw [gup_ne (by omega), gup_eq]; simp only [mF]; rw [sPlc_off (by rw [c8]; decide)]; done)
        | (rw [gup_eq]; simp [mF, sO]; done)
    · rw [gup_ne (by omega), gup_ne (by omega), gup_ne (by omega), gup_ne (by simp), h.2.1 j hj f hf, mF_congr n1 (cj j hji) (oj j hji)]
  · have hji : j ≠ i := fun q => by rw [q, c8] at h1; cases h1
    rw [cj j hji] at h1
    rw [sPos_congr n1 (cj j hji), gup_ne (by simp), gup_ne (by simp), gup_ne (by simp), gup_ne (by have := ha j hj h1 hji; omega)]
    exact h.2.2.1.1 j hj h1
  · rw [gup_ne (by simp), gup_ne (by simp), gup_ne (by simp)]
    by_cases hpi : p = sPos S i
    · rw [hpi, gup_eq]
    · rw [gup_ne (by omega)]
      refine h.2.2.1.2 p hp (fun j hj h1 => ?_)
      by_cases hji : j = i
      · rw [hji]; exact fun q => hpi q.symm
      · have := hn j hj (by rw [cj j hji]; exact h1)
        rw [sPos_congr n1 (cj j hji)] at this
        exact this
theorem AbsM.go {V : gMem} {k : Nat} {S : gSt} {i : Nat} (h : AbsM V k S) (hi : i < S.1 6) (h8 : S.2.2.2.1 i 8 = 1) (ha : Apart S i) (w p' : Nat) (hp' : sPos (sC S i 9 w) i = p') (hfree : ∀ j, j < S.1 6 → S.2.2.2.1 j 8 = 1 → j ≠ i → sPos S j ≠ p') :
    AbsM (gup (gup (gup V 25 k 0 (sPos S i) (-1)) 25 k 0 p' (nI i)) 24 k 0 (10 * i + 6) (nI p')) k (sC S i 9 w) := by
  have n1 : (sC S i 9 w).1 = S.1 := rfl
  have cj : ∀ j, j ≠ i → ∀ k, (sC S i 9 w).2.2.2.1 j k = S.2.2.2.1 j k := fun j hj k => by simp [sC, hj]
  have ci : ∀ k, k ≠ 9 → (sC S i 9 w).2.2.2.1 i k = S.2.2.2.1 i k := fun k hk => by simp [sC, hk]
  refine h.of2 (fun K b x hn => ?_) rfl (fun _ _ => rfl) rfl (fun j hj f hf => ?_) ⟨fun j hj h1 => ?_, fun p hp hn => ?_⟩
  · rw [gup_off _ _ (fun q => hn ⟨Or.inl q.1, q.2⟩), gup_off _ _ (fun q => hn ⟨Or.inr q.1, q.2⟩), gup_off _ _ (fun q => hn ⟨Or.inr q.1, q.2⟩)]
  · by_cases hji : j = i
    · subst hji
      rcases (show f = 0 ∨ f = 1 ∨ f = 2 ∨ f = 3 ∨ f = 4 ∨ f = 5 ∨ f = 6 ∨ f = 7 ∨ f = 8 ∨ f = 9 by omega) with rfl | rfl | rfl | rfl | rfl | rfl | rfl | rfl | rfl | rfl
      all_goals first
        | (rw [gup_ne (by omega), gup_ne (by simp), gup_ne (by simp), h.2.1 j hj _ (by decide)]; simp only [mF]; rw [ci _ (by decide)]; done)
        | (rw [gup_ne (by omega), gup_ne (by simp), gup_ne (by simp), h.2.1 j hj _ (by decide)]; rfl)
        | (rw [gup_eq]; simp only [mF]; rw [sPlc_on (by rw [ci 8 (by decide)]; exact h8), hp']; done)
    · rw [gup_ne (by omega), gup_ne (by simp), gup_ne (by simp), h.2.1 j hj f hf, mF_congr n1 (cj j hji) rfl]
  · by_cases hji : j = i
    · subst hji
      rw [hp', gup_ne (by simp), gup_eq]
    · rw [cj j hji] at h1
      rw [sPos_congr n1 (cj j hji), gup_ne (by simp), gup_ne (by have := hfree j hj h1 hji; omega), gup_ne (by have := ha j hj h1 hji; omega)]
      exact h.2.2.1.1 j hj h1
  · have hpp : p ≠ p' := fun q => hn i hi (by rw [ci 8 (by decide)]; exact h8) (hp'.trans q.symm)
    rw [gup_ne (by simp), gup_ne (by omega)]
    by_cases hpi : p = sPos S i
    · rw [hpi, gup_eq]
    · rw [gup_ne (by omega)]
      refine h.2.2.1.2 p hp (fun j hj h1 => ?_)
      by_cases hji : j = i
      · rw [hji]; exact fun q => hpi q.symm
      · have := hn j hj (by rw [cj j hji]; exact h1)
        rw [sPos_congr n1 (cj j hji)] at this
        exact this
theorem RowM.mod {V V' : gMem} {k e e2 : Nat} {xs : List Nat} (h : RowM V k e2 xs) (hm : rmodM V V' k e) (hne : e2 ≠ e) : RowM V' k e2 xs := by
  have := h.2.1
  exact ⟨by rw [hm.2.1 _ (by omega)]; exact h.1, h.2.1, fun j hj => by rw [hm.2.2 _ (by omega)]; exact h.2.2 j hj⟩
/-- back into the queue -/
theorem AbsM.back {V Vx : gMem} {k : Nat} {S : gSt} {i e : Nat} (h : AbsM V k S) (hi : i < S.1 6) (h8 : S.2.2.2.1 i 8 = 1) (ha : Apart S i) (he : e < 2) (hr : RowM Vx k e (i :: S.2.1 e)) (hm : rmodM (gup V 25 k 0 (sPos S i) (-1)) Vx k e) :
    AbsM (gup (gup Vx 24 k 0 (10 * i + 5) 0) 24 k 0 (10 * i + 6) (-1)) k (sQ (sC S i 8 0) e (i :: S.2.1 e)) := by
  have n1 : (sQ (sC S i 8 0) e (i :: S.2.1 e)).1 = S.1 := rfl
  have cj : ∀ j, j ≠ i → ∀ k, (sQ (sC S i 8 0) e (i :: S.2.1 e)).2.2.2.1 j k = S.2.2.2.1 j k := fun j hj k => by simp [sQ, sC, hj]
  have ci : ∀ k, k ≠ 8 → (sQ (sC S i 8 0) e (i :: S.2.1 e)).2.2.2.1 i k = S.2.2.2.1 i k := fun k hk => by simp [sQ, sC, hk]
  have c8 : (sQ (sC S i 8 0) e (i :: S.2.1 e)).2.2.2.1 i 8 = 0 := by simp [sQ, sC]
  have m24 : Vx 24 k 0 = V 24 k 0 := by rw [hm.1 24 k 0 (by simp), gup_off _ _ (by simp)]
  have m25 : Vx 25 k 0 = gup V 25 k 0 (sPos S i) (-1) 25 k 0 := hm.1 25 k 0 (by simp)
  obtain ⟨a1, a2, a3, a4, a5, a6⟩ := h
  refine ⟨?_, fun j hj f hf => ?_, ⟨fun j hj h1 => ?_, fun p hp hn => ?_⟩, fun x hx => ?_, fun x hx => ?_, ?_⟩
  · rw [gup_off _ _ (by simp), gup_off _ _ (by simp), hm.1 23 k 0 (by simp), gup_off _ _ (by simp)]; exact a1
  · by_cases hji : j = i
    · subst hji
      rcases (show f = 0 ∨ f = 1 ∨ f = 2 ∨ f = 3 ∨ f = 4 ∨ f = 5 ∨ f = 6 ∨ f = 7 ∨ f = 8 ∨ f = 9 by omega) with rfl | rfl | rfl | rfl | rfl | rfl | rfl | rfl | rfl | rfl
      all_goals first
        | (rw [gup_ne (by omega), gup_ne (by omega), m24, a2 j hj _ (by decide)]; simp only [mF]; rw [ci _ (by decide)]; done)
        | (rw [gup_ne (by omega), gup_ne (by omega), m24, a2 j hj _ (by decide)]; rfl)
        | (rw [gup_ne (by omega), gup_eq]; simp only [mF]; rw [c8]; rfl)
        | (rw [gup_eq]; simp only [mF]; rw [sPlc_off (by rw [c8]; decide)]; done)
    · rw [gup_ne (by omega), gup_ne (by omega), m24, a2 j hj f hf, mF_congr n1 (cj j hji) rfl]
  · have hji : j ≠ i := fun q => by rw [q, c8] at h1; cases h1
    rw [cj j hji] at h1
    rw [sPos_congr n1 (cj j hji), gup_ne (by simp), gup_ne (by simp), m25, gup_ne (by have := ha j hj h1 hji; omega)]
    exact a3.1 j hj h1
  · rw [gup_ne (by simp), gup_ne (by simp), m25]
    by_cases hpi : p = sPos S i
    · rw [hpi, gup_eq]
    · rw [gup_ne (by omega)]
      refine a3.2 p hp (fun j hj h1 => ?_)
      by_cases hji : j = i
      · rw [hji]; exact fun q => hpi q.symm
      · have := hn j hj (by rw [cj j hji]; exact h1)
        rw [sPos_congr n1 (cj j hji)] at this
        exact this
  · have hsame : ∀ {ys : List Nat}, RowM Vx k x ys → RowM (gup (gup Vx 24 k 0 (10 * i + 5) 0) 24 k 0 (10 * i + 6) (-1)) k x ys := fun q => ⟨by rw [gup_ne (by simp), gup_ne (by simp)]; exact q.1, q.2.1, fun j hj => by rw [gup_ne (by simp), gup_ne (by simp)]; exact q.2.2 j hj⟩
    by_cases hxe : x = e
    · subst hxe
      show RowM _ k x (if x = x then i :: S.2.1 x else _)
      rw [if_pos rfl]
      exact hsame hr
    · show RowM _ k x (if x = e then i :: S.2.1 e else S.2.1 x)
      rw [if_neg hxe]
      refine hsame (RowM.mod ?_ hm hxe)
      have q := a4 x hx
      exact ⟨by rw [gup_ne (by simp)]; exact q.1, q.2.1, fun j hj => by rw [gup_ne (by simp)]; exact q.2.2 j hj⟩
  · rw [gup_off _ _ (by simp), gup_off _ _ (by simp), hm.2.1 _ (by omega), hm.2.1 _ (by omega), hm.2.1 _ (by omega), hm.2.1 _ (by omega), gup_ne (by simp), gup_ne (by simp), gup_ne (by simp), gup_ne (by simp)]
    exact a5 x hx
  · unfold NumM
    rw [gup_off _ _ (by simp), gup_off _ _ (by simp), hm.1 20 0 0 (by simp), gup_off _ _ (by simp)]
    exact a6

abbrev rmX7_leave : Room := { frames := 2, cells := 0, slots := 0, locals := 64 }
set_option maxRecDepth 20000 in
theorem k_leaveOn {l : Launch} {B : gB} (hI : gI B) (V : gMem) (k : Nat) (i : Nat) (e : Nat) (t : Nat) (hk : k < 2) (hi : i < 16) (he : V 24 k 0 (10 * i + 4) = nI e) (hd : V 23 k 0 1 = nI e) (ht : V 23 k 0 0 = nI t) : gM l B yX7_leave cX7_leave 2 none rmX7_leave [.ref (B.2.1 23 k 0), .int (nI i)] V (fun v V' => v = none ∧ V' = gup (gup (gup V 24 k 0 (10 * i + 5) 2) 24 k 0 (10 * i + 6) (-1)) 24 k 0 (10 * i + 8) (nI t)) := by
  refine gM_of (own := RX7) (L := [(0, .ref (B.2.1 23 k 0)), (1, .int (nI i))]) (by decide +kernel) rfl hI (Nat.le_of_ble_eq_true rfl) rfl ?_
  intro Z hnL hR X F
  refine g_aload_n X 0 rfl dX7_leave_0 ?_
  refine g_iload_n X 1 rfl dX7_leave_1 ?_
  refine g_iconst X 4 (by decide) dX7_leave_2 ?_
  refine g_callV X hR (rest := []) mX7_own lX7_52 (k_own hI V k i 4 (by first | assumption | decide | omega) (by first | assumption | decide | omega) (by first | assumption | decide | omega)) rfl rfl (Nat.le_of_ble_eq_true rfl) (gP_23 (by first | assumption | decide | omega)) rfl rfl rfl ⟨Nat.le_of_ble_eq_true rfl, Nat.le_of_ble_eq_true rfl, Nat.le_of_ble_eq_true rfl, Nat.le_of_ble_eq_true rfl⟩ dX7_leave_3 (fun r1 V2 h3 => ?_)
  refine gG_ret h3.1 h3.2 ?_
  refine gG_st [.int (V 24 k 0 (10 * i + 4))] rfl ?_
  refine gG_top (nI e) (he) ?_
  refine g_aload_n X 0 rfl dX7_leave_6 ?_
  refine gg_X7_open X (gP_23 (by first | assumption | decide | omega)) fX7_38 dX7_leave_7 ?_
  refine gG_top (nI e) (hd) ?_
  refine g_icmp_eq X 26 (by decide) dX7_leave_10 (fun c4 => ?_) (fun c4 => ?_)
  · refine g_aload_n X 0 rfl dX7_leave_26 ?_
    refine g_iload_n X 1 rfl dX7_leave_27 ?_
    refine g_iconst X 5 (by decide) dX7_leave_28 ?_
    refine g_iconst X 2 (by decide) dX7_leave_29 ?_
    refine g_callV X hR (rest := []) mX7_set lX7_48 (k_set hI V k i 5 2 (by first | assumption | decide | omega) (by first | assumption | decide | omega) (by first | assumption | decide | omega)) rfl rfl (Nat.le_of_ble_eq_true rfl) (gP_23 (by first | assumption | decide | omega)) rfl rfl rfl ⟨Nat.le_of_ble_eq_true rfl, Nat.le_of_ble_eq_true rfl, Nat.le_of_ble_eq_true rfl, Nat.le_of_ble_eq_true rfl⟩ dX7_leave_30 (fun r5 V6 h7 => ?_)
    refine gG_rv h7.1 ?_
    have hV6 := h7.2
    refine gG_st [] rfl ?_
    refine g_aload_n X 0 rfl dX7_leave_33 ?_
    refine g_iload_n X 1 rfl dX7_leave_34 ?_
    refine g_bipush X 6 (by decide) dX7_leave_35 ?_
    refine g_iconst X (-1) (by decide) dX7_leave_37 ?_
    refine g_callV X hR (rest := []) mX7_set lX7_48 (k_set hI V6 k i 6 (-1) (by first | assumption | decide | omega) (by first | assumption | decide | omega) (by first | assumption | decide | omega)) rfl rfl (Nat.le_of_ble_eq_true rfl) (gP_23 (by first | assumption | decide | omega)) rfl rfl rfl ⟨Nat.le_of_ble_eq_true rfl, Nat.le_of_ble_eq_true rfl, Nat.le_of_ble_eq_true rfl, Nat.le_of_ble_eq_true rfl⟩ dX7_leave_38 (fun r8 V9 h10 => ?_)
    refine gG_rv h10.1 ?_
    have hV9 := h10.2
    refine gG_st [] rfl ?_
    refine g_aload_n X 0 rfl dX7_leave_41 ?_
    refine g_iload_n X 1 rfl dX7_leave_42 ?_
    refine g_bipush X 8 (by decide) dX7_leave_43 ?_
    refine g_aload_n X 0 rfl dX7_leave_45 ?_
    refine gg_X7_tick X (gP_23 (by first | assumption | decide | omega)) fX7_34 dX7_leave_46 ?_
    refine gG_top (nI t) (by rw [hV9, hV6, gup_ne (by simp), gup_ne (by simp)]; exact ht) ?_
    refine g_callV X hR (rest := []) mX7_set lX7_48 (k_set hI V9 k i 8 (nI t) (by first | assumption | decide | omega) (by first | assumption | decide | omega) (by first | assumption | decide | omega)) rfl rfl (Nat.le_of_ble_eq_true rfl) (gP_23 (by first | assumption | decide | omega)) rfl rfl rfl ⟨Nat.le_of_ble_eq_true rfl, Nat.le_of_ble_eq_true rfl, Nat.le_of_ble_eq_true rfl, Nat.le_of_ble_eq_true rfl⟩ dX7_leave_49 (fun r11 V12 h13 => ?_)
    refine gG_rv h13.1 ?_
    have hV12 := h13.2
    refine gG_st [] rfl ?_
    refine g_vret X F ?_ rfl dX7_leave_52
    exact ⟨rfl, by rw [hV12, hV9, hV6]⟩
  · first | exact absurd (rfl) c4 | exact absurd c4 (rfl)

set_option maxRecDepth 20000 in
theorem k_leaveBack {l : Launch} {B : gB} (hI : gI B) (V : gMem) (k : Nat) (i : Nat) (e : Nat) (d : Nat) (xs : List Nat) (hk : k < 2) (hi : i < 16) (he : V 24 k 0 (10 * i + 4) = nI e) (hd : V 23 k 0 1 = nI d) (he2 : e < 2) (hd2 : d < 2) (hne : e ≠ d) (hx : RowM V k e xs) (hl : xs.length < 16) : gM l B yX7_leave cX7_leave 2 none rmX7_leave [.ref (B.2.1 23 k 0), .int (nI i)] V (fun v V' => v = none ∧ ∃ Vx, RowM Vx k e (i :: xs) ∧ rmodM V Vx k e ∧ V' = gup (gup Vx 24 k 0 (10 * i + 5) 0) 24 k 0 (10 * i + 6) (-1)) := by
  refine gM_of (own := RX7) (L := [(0, .ref (B.2.1 23 k 0)), (1, .int (nI i))]) (by decide +kernel) rfl hI (Nat.le_of_ble_eq_true rfl) rfl ?_
  intro Z hnL hR X F
  refine g_aload_n X 0 rfl dX7_leave_0 ?_
  refine g_iload_n X 1 rfl dX7_leave_1 ?_
  refine g_iconst X 4 (by decide) dX7_leave_2 ?_
  refine g_callV X hR (rest := []) mX7_own lX7_52 (k_own hI V k i 4 (by first | assumption | decide | omega) (by first | assumption | decide | omega) (by first | assumption | decide | omega)) rfl rfl (Nat.le_of_ble_eq_true rfl) (gP_23 (by first | assumption | decide | omega)) rfl rfl rfl ⟨Nat.le_of_ble_eq_true rfl, Nat.le_of_ble_eq_true rfl, Nat.le_of_ble_eq_true rfl, Nat.le_of_ble_eq_true rfl⟩ dX7_leave_3 (fun r1 V2 h3 => ?_)
  refine gG_ret h3.1 h3.2 ?_
  refine gG_st [.int (V 24 k 0 (10 * i + 4))] rfl ?_
  refine gG_top (nI e) (he) ?_
  refine g_aload_n X 0 rfl dX7_leave_6 ?_
  refine gg_X7_open X (gP_23 (by first | assumption | decide | omega)) fX7_38 dX7_leave_7 ?_
  refine gG_top (nI d) (hd) ?_
  refine g_icmp_eq X 26 (by decide) dX7_leave_10 (fun c4 => ?_) (fun c4 => ?_)
  · first | exact absurd (fun q => hne ((nI_eq (by omega) (by omega)).mp q)) c4 | exact absurd c4 (fun q => hne ((nI_eq (by omega) (by omega)).mp q))
  · refine g_aload_n X 0 rfl dX7_leave_13 ?_
    refine g_iload_n X 1 rfl dX7_leave_14 ?_
    refine g_aload_n X 0 rfl dX7_leave_15 ?_
    refine g_iload_n X 1 rfl dX7_leave_16 ?_
    refine g_iconst X 4 (by decide) dX7_leave_17 ?_
    refine g_callV X hR (rest := [.int (nI i), .ref (B.2.1 23 k 0)]) mX7_own lX7_52 (k_own hI V k i 4 (by first | assumption | decide | omega) (by first | assumption | decide | omega) (by first | assumption | decide | omega)) rfl rfl (Nat.le_of_ble_eq_true rfl) (gP_23 (by first | assumption | decide | omega)) rfl rfl rfl ⟨Nat.le_of_ble_eq_true rfl, Nat.le_of_ble_eq_true rfl, Nat.le_of_ble_eq_true rfl, Nat.le_of_ble_eq_true rfl⟩ dX7_leave_18 (fun r5 V6 h7 => ?_)
    refine gG_ret h7.1 h7.2 ?_
    refine gG_st [.int (V 24 k 0 (10 * i + 4)), .int (nI i), .ref (B.2.1 23 k 0)] rfl ?_
    refine gG_top (nI e) (he) ?_
    refine g_iconst X 0 (by decide) dX7_leave_21 ?_
    refine gG_top (nI 0) (rfl) ?_
    refine g_callV X hR (rest := []) mX7_line lX7_56 (k_lineF hI V k e i xs (by first | assumption | decide | omega) (by first | assumption | decide | omega) hi (by first | assumption | decide | omega) (by first | assumption | decide | omega)) rfl rfl (Nat.le_of_ble_eq_true rfl) (gP_23 (by first | assumption | decide | omega)) rfl rfl rfl ⟨Nat.le_of_ble_eq_true rfl, Nat.le_of_ble_eq_true rfl, Nat.le_of_ble_eq_true rfl, Nat.le_of_ble_eq_true rfl⟩ dX7_leave_22 (fun r8 V9 h10 => ?_)
    refine gG_rv h10.1 ?_
    obtain ⟨-, XV9, hrowV9, hmodV9, hV9⟩ := h10
    refine gG_st [] rfl ?_
    refine g_vret X F ?_ rfl dX7_leave_25
    exact ⟨rfl, XV9, hrowV9, hmodV9, hV9⟩

