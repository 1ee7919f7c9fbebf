/-! the reference: one cart moves -/
theorem mF_congr {S S' : gSt} {i : Nat} (h1 : S'.1 = S.1) (hc : ∀ k, S'.2.2.2.1 i k = S.2.2.2.1 i k) (ho : S'.2.2.2.2 i = S.2.2.2.2 i) (f : Nat) : mF S' i f = mF S i f := by
  have hp : sPlc S' i = sPlc S i := by unfold sPlc; rw [h1, hc, hc, hc]
  unfold mF
  split <;> first | rw [hc] | exact hp | exact ho
theorem sPos_congr {S S' : gSt} {i : Nat} (h1 : S'.1 = S.1) (hc : ∀ k, S'.2.2.2.1 i k = S.2.2.2.1 i k) : sPos S' i = sPos S i := by unfold sPos; rw [h1, hc, hc]
theorem AbsM.of2 {V V' : gMem} {k : Nat} {S S' : gSt} (h : AbsM V k S) (hm : ∀ K b i, ¬ ((K = 24 ∨ K = 25) ∧ b = k ∧ i = 0) → V' K b i = V K b i) (e1 : S'.1 = S.1) (e2 : ∀ e, e < 2 → S'.2.1 e = S.2.1 e) (e3 : S'.2.2.1 = S.2.2.1) (h2 : ∀ i, i < S.1 6 → ∀ f, f < 10 → V' 24 k 0 (10 * i + f) = mF S' i f) (h3 : AtIs V' k S') : AbsM V' k S' := by
  obtain ⟨a1, -, -, a4, a5, a6⟩ := h
  refine ⟨?_, fun i hi => h2 i (by rw [← e1]; exact hi), h3, fun e he => ?_, fun e he => ?_, ?_⟩
  · rw [hm 23 k 0 (by simp), e1]; exact a1
  · rw [e2 e he]
    obtain ⟨b1, b2, b3⟩ := a4 e he
    exact ⟨by rw [hm 27 k 0 (by simp)]; exact b1, b2, fun j hj => by rw [hm 26 k 0 (by simp)]; exact b3 j hj⟩
  · rw [hm 27 k 0 (by simp), e3]; exact a5 e he
  · unfold NumM
    rw [hm 20 0 0 (by simp), e1]; exact a6
/-- a list of those on the bridge isn't kept by the reference -/
theorem AbsM.congr {V : gMem} {k : Nat} {S S' : gSt} (h : AbsM V k S) (e1 : S'.1 = S.1) (e2 : ∀ e, e < 2 → S'.2.1 e = S.2.1 e) (e3 : S'.2.2 = S.2.2) : AbsM V k S' := by
  have c : ∀ i k, S'.2.2.2.1 i k = S.2.2.2.1 i k := fun i k => by rw [e3]
  have ho : ∀ i, S'.2.2.2.2 i = S.2.2.2.2 i := fun i => by rw [e3]
  refine h.of2 (fun _ _ _ _ => rfl) e1 e2 (by rw [e3]) (fun i hi f hf => by rw [mF_congr e1 (c i) (ho i)]; exact h.2.1 i hi f hf) ⟨fun i hi h8 => ?_, fun p hp hn => ?_⟩
  · rw [sPos_congr e1 (c i)]
    exact h.2.2.1.1 i (by rw [← e1]; exact hi) (by rw [← c]; exact h8)
  · exact h.2.2.1.2 p hp (fun i hi h8 => by rw [← sPos_congr e1 (c i)]; exact hn i (by rw [e1]; exact hi) (by rw [c]; exact h8))
/-- those on the bridge stand apart -/
def Apart (S : gSt) (i : Nat) : Prop := ∀ j, j < S.1 6 → S.2.2.2.1 j 8 = 1 → j ≠ i → sPos S j ≠ sPos S i
theorem AbsM.over {V : gMem} {k : Nat} {S : gSt} {i : Nat} (h : AbsM V k S) (hi : i < S.1 6) (h8 : S.2.2.2.1 i 8 = 1) (ha : Apart S i) (t : Nat) :
    AbsM (gup (gup (gup (gup V 25 k 0 (sPos S i) (-1)) 24 k 0 (10 * i + 5) 2) 24 k 0 (10 * i + 6) (-1)) 24 k 0 (10 * i + 8) (nI t)) k (sO (sC S i 8 2) i (nI t)) := by
  have n1 : (sO (sC S i 8 2) i (nI t)).1 = S.1 := rfl
  have cj : ∀ j, j ≠ i → ∀ k, (sO (sC S i 8 2) i (nI t)).2.2.2.1 j k = S.2.2.2.1 j k := fun j hj k => by simp [sO, sC, hj]
  have ci : ∀ k, k ≠ 8 → (sO (sC S i 8 2) i (nI t)).2.2.2.1 i k = S.2.2.2.1 i k := fun k hk => by simp [sO, sC, hk]
  have c8 : (sO (sC S i 8 2) i (nI t)).2.2.2.1 i 8 = 2 := by simp [sO, sC]
  have oj : ∀ j, j ≠ i → (sO (sC S i 8 2) i (nI t)).2.2.2.2 j = S.2.2.2.2 j := fun j hj => by simp [sO, sC, hj]
  refine h.of2 (fun K b x hn => ?_) rfl (fun _ _ => rfl) rfl (fun j hj f hf => ?_) ⟨fun j hj h1 => ?_, fun p hp hn => ?_⟩
  · rw [gup_off _ _ (fun q => hn ⟨Or.inl q.1, q.2⟩), gup_off _ _ (fun q => hn ⟨Or.inl q.1, q.2⟩), gup_off _ _ (fun q => hn ⟨Or.inl q.1, q.2⟩), gup_off _ _ (fun q => hn ⟨Or.inr q.1, q.2⟩)]
  · by_cases hji : j = i
    · subst hji
      rcases (show f = 0 ∨ f = 1 ∨ f = 2 ∨ f = 3 ∨ f = 4 ∨ f = 5 ∨ f = 6 ∨ f = 7 ∨ f = 8 ∨ f = 9 by omega) with rfl | rfl | rfl | rfl | rfl | rfl | rfl | rfl | rfl | rfl
      all_goals first
        | (rw [gup_ne (by omega), gup_ne (by omega), gup_ne (by omega), gup_ne (by simp), h.2.1 j hj _ (by decide)]; simp only [mF]; rw [ci _ (by decide)]; done)
        | (rw [gup_ne (by omega), gup_ne (by omega), gup_eq]; simp only [mF]; rw [c8]; rfl)
        | (rw [gup_ne (by omega), gup_eq]; simp only [mF]; rw [sPlc_off (by rw [c8]; decide)]; done)
        | (rw [gup_eq]; simp [mF, sO]; done)
    · rw [gup_ne (by omega), gup_ne (by omega), gup_ne (by omega), gup_ne (by simp), h.2.1 j hj f hf, mF_congr n1 (cj j hji) (oj j hji)]
  · have hji : j ≠ i := fun q => by rw [q, c8] at h1; cases h1
    rw [cj j hji] at h1
    rw [sPos_congr n1 (cj j hji), gup_ne (by simp), gup_ne (by simp), gup_ne (by simp), gup_ne (by have := ha j hj h1 hji; omega)]
    exact h.2.2.1.1 j hj h1
  · rw [gup_ne (by simp), gup_ne (by simp), gup_ne (by simp)]
    by_cases hpi : p = sPos S i
    · rw [hpi, gup_eq]
    · rw [gup_ne (by omega)]
      refine h.2.2.1.2 p hp (fun j hj h1 => ?_)
      by_cases hji : j = i
      · rw [hji]; exact fun q => hpi q.symm
      · have := hn j hj (by rw [cj j hji]; exact h1)
        rw [sPos_congr n1 (cj j hji)] at this
        exact this
theorem AbsM.go {V : gMem} {k : Nat} {S : gSt} {i : Nat} (h : AbsM V k S) (hi : i < S.1 6) (h8 : S.2.2.2.1 i 8 = 1) (ha : Apart S i) (w p' : Nat) (hp' : sPos (sC S i 9 w) i = p') (hfree : ∀ j, j < S.1 6 → S.2.2.2.1 j 8 = 1 → j ≠ i → sPos S j ≠ p') :
    AbsM (gup (gup (gup V 25 k 0 (sPos S i) (-1)) 25 k 0 p' (nI i)) 24 k 0 (10 * i + 6) (nI p')) k (sC S i 9 w) := by
  have n1 : (sC S i 9 w).1 = S.1 := rfl
  have cj : ∀ j, j ≠ i → ∀ k, (sC S i 9 w).2.2.2.1 j k = S.2.2.2.1 j k := fun j hj k => by simp [sC, hj]
  have ci : ∀ k, k ≠ 9 → (sC S i 9 w).2.2.2.1 i k = S.2.2.2.1 i k := fun k hk => by simp [sC, hk]
  refine h.of2 (fun K b x hn => ?_) rfl (fun _ _ => rfl) rfl (fun j hj f hf => ?_) ⟨fun j hj h1 => ?_, fun p hp hn => ?_⟩
  · rw [gup_off _ _ (fun q => hn ⟨Or.inl q.1, q.2⟩), gup_off _ _ (fun q => hn ⟨Or.inr q.1, q.2⟩), gup_off _ _ (fun q => hn ⟨Or.inr q.1, q.2⟩)]
  · by_cases hji : j = i
    · subst hji
      rcases (show f = 0 ∨ f = 1 ∨ f = 2 ∨ f = 3 ∨ f = 4 ∨ f = 5 ∨ f = 6 ∨ f = 7 ∨ f = 8 ∨ f = 9 by omega) with rfl | rfl | rfl | rfl | rfl | rfl | rfl | rfl | rfl | rfl
      all_goals first
        | (rw [gup_ne (by omega), gup_ne (by simp), gup_ne (by simp), h.2.1 j hj _ (by decide)]; simp only [mF]; rw [ci _ (by decide)]; done)
        | (rw [gup_ne (by omega), gup_ne (by simp), gup_ne (by simp), h.2.1 j hj _ (by decide)]; rfl)
        | (rw [gup_eq]; simp only [mF]; rw [sPlc_on (by rw [ci 8 (by decide)]; exact h8), hp']; done)
    · rw [gup_ne (by omega), gup_ne (by simp), gup_ne (by simp), h.2.1 j hj f hf, mF_congr n1 (cj j hji) rfl]
  · by_cases hji : j = i
    · subst hji
      rw [hp', gup_ne (by simp), gup_eq]
    · rw [cj j hji] at h1
      rw [sPos_congr n1 (cj j hji), gup_ne (by simp), gup_ne (by have := hfree j hj h1 hji; omega), gup_ne (by have := ha j hj h1 hji; omega)]
      exact h.2.2.1.1 j hj h1
  · have hpp : p ≠ p' := fun q => hn i hi (by rw [ci 8 (by decide)]; exact h8) (hp'.trans q.symm)
    rw [gup_ne (by simp), gup_ne (by omega)]
    by_cases hpi : p = sPos S i
    · rw [hpi, gup_eq]
    · rw [gup_ne (by omega)]
      refine h.2.2.1.2 p hp (fun j hj h1 => ?_)
      by_cases hji : j = i
      · rw [hji]; exact fun q => hpi q.symm
      · have := hn j hj (by rw [cj j hji]; exact h1)
        rw [sPos_congr n1 (cj j hji)] at this
        exact this
theorem RowM.mod {V V' : gMem} {k e e2 : Nat} {xs : List Nat} (h : RowM V k e2 xs) (hm : rmodM V V' k e) (hne : e2 ≠ e) : RowM V' k e2 xs := by
  have := h.2.1
  exact ⟨by rw [hm.2.1 _ (by omega)]; exact h.1, h.2.1, fun j hj => by rw [hm.2.2 _ (by omega)]; exact h.2.2 j hj⟩
/-- back into the queue -/
theorem AbsM.back {V Vx : gMem} {k : Nat} {S : gSt} {i e : Nat} (h : AbsM V k S) (hi : i < S.1 6) (h8 : S.2.2.2.1 i 8 = 1) (ha : Apart S i) (he : e < 2) (hr : RowM Vx k e (i :: S.2.1 e)) (hm : rmodM (gup V 25 k 0 (sPos S i) (-1)) Vx k e) :
    AbsM (gup (gup Vx 24 k 0 (10 * i + 5) 0) 24 k 0 (10 * i + 6) (-1)) k (sQ (sC S i 8 0) e (i :: S.2.1 e)) := by
  have n1 : (sQ (sC S i 8 0) e (i :: S.2.1 e)).1 = S.1 := rfl
  have cj : ∀ j, j ≠ i → ∀ k, (sQ (sC S i 8 0) e (i :: S.2.1 e)).2.2.2.1 j k = S.2.2.2.1 j k := fun j hj k => by simp [sQ, sC, hj]
  have ci : ∀ k, k ≠ 8 → (sQ (sC S i 8 0) e (i :: S.2.1 e)).2.2.2.1 i k = S.2.2.2.1 i k := fun k hk => by simp [sQ, sC, hk]
  have c8 : (sQ (sC S i 8 0) e (i :: S.2.1 e)).2.2.2.1 i 8 = 0 := by simp [sQ, sC]
  have m24 : Vx 24 k 0 = V 24 k 0 := by rw [hm.1 24 k 0 (by simp), gup_off _ _ (by simp)]
  have m25 : Vx 25 k 0 = gup V 25 k 0 (sPos S i) (-1) 25 k 0 := hm.1 25 k 0 (by simp)
  obtain ⟨a1, a2, a3, a4, a5, a6⟩ := h
  refine ⟨?_, fun j hj f hf => ?_, ⟨fun j hj h1 => ?_, fun p hp hn => ?_⟩, fun x hx => ?_, fun x hx => ?_, ?_⟩
  · rw [gup_off _ _ (by simp), gup_off _ _ (by simp), hm.1 23 k 0 (by simp), gup_off _ _ (by simp)]; exact a1
  · by_cases hji : j = i
    · subst hji
      rcases (show f = 0 ∨ f = 1 ∨ f = 2 ∨ f = 3 ∨ f = 4 ∨ f = 5 ∨ f = 6 ∨ f = 7 ∨ f = 8 ∨ f = 9 by omega) with rfl | rfl | rfl | rfl | rfl | rfl | rfl | rfl | rfl | rfl
      all_goals first
        | (rw [gup_ne (by omega), gup_ne (by omega), m24, a2 j hj _ (by decide)]; simp only [mF]; rw [ci _ (by decide)]; done)
        | (rw [gup_ne (by omega), gup_ne (by omega), m24, a2 j hj _ (by decide)]; rfl)
        | (rw [gup_ne (by omega), gup_eq]; simp only [mF]; rw [c8]; rfl)
        | (rw [gup_eq]; simp only [mF]; rw [sPlc_off (by rw [c8]; decide)]; done)
    · rw [gup_ne (by omega), gup_ne (by omega), m24, a2 j hj f hf, mF_congr n1 (cj j hji) rfl]
  · have hji : j ≠ i := fun q => by rw [q, c8] at h1; cases h1
    rw [cj j hji] at h1
    rw [sPos_congr n1 (cj j hji), gup_ne (by simp), gup_ne (by simp), m25, gup_ne (by have := ha j hj h1 hji; omega)]
    exact a3.1 j hj h1
  · rw [gup_ne (by simp), gup_ne (by simp), m25]
    by_cases hpi : p = sPos S i
    · rw [hpi, gup_eq]
    · rw [gup_ne (by omega)]
      refine a3.2 p hp (fun j hj h1 => ?_)
      by_cases hji : j = i
      · rw [hji]; exact fun q => hpi q.symm
      · have := hn j hj (by rw [cj j hji]; exact h1)
        rw [sPos_congr n1 (cj j hji)] at this
        exact this
  · have hsame : ∀ {ys : List Nat}, RowM Vx k x ys → RowM (gup (gup Vx 24 k 0 (10 * i + 5) 0) 24 k 0 (10 * i + 6) (-1)) k x ys := fun q => ⟨by rw [gup_ne (by simp), gup_ne (by simp)]; exact q.1, q.2.1, fun j hj => by rw [gup_ne (by simp), gup_ne (by simp)]; exact q.2.2 j hj⟩
    by_cases hxe : x = e
    · subst hxe
      show RowM _ k x (if x = x then i :: S.2.1 x else _)
      rw [if_pos rfl]
      exact hsame hr
    · show RowM _ k x (if x = e then i :: S.2.1 e else S.2.1 x)
      rw [if_neg hxe]
      refine hsame (RowM.mod ?_ hm hxe)
      have q := a4 x hx
      exact ⟨by rw [gup_ne (by simp)]; exact q.1, q.2.1, fun j hj => by rw [gup_ne (by simp)]; exact q.2.2 j hj⟩
  · rw [gup_off _ _ (by simp), gup_off _ _ (by simp), hm.2.1 _ (by omega), hm.2.1 _ (by omega), hm.2.1 _ (by omega), hm.2.1 _ (by omega), gup_ne (by simp), gup_ne (by simp), gup_ne (by simp), gup_ne (by simp)]
    exact a5 x hx
  · unfold NumM
    rw [gup_off _ _ (by simp), gup_off _ _ (by simp), hm.1 20 0 0 (by simp), gup_off _ _ (by simp)]
    exact a6

abbrev rmX7_leave : Room := { frames := 2, cells := 0, slots := 0, locals := 64 }
set_option maxRecDepth 20000 in
theorem k_leaveOn {l : Launch} {B : gB} (hI : gI B) (V : gMem) (k : Nat) (i : Nat) (e : Nat) (t : Nat) (hk : k < 2) (hi : i < 16) (he : V 24 k 0 (10 * i + 4) = nI e) (hd : V 23 k 0 1 = nI e) (ht : V 23 k 0 0 = nI t) : gM l B yX7_leave cX7_leave 2 none rmX7_leave [.ref (B.2.1 23 k 0), .int (nI i)] V (fun v V' => v = none ∧ V' = gup (gup (gup V 24 k 0 (10 * i + 5) 2) 24 k 0 (10 * i + 6) (-1)) 24 k 0 (10 * i + 8) (nI t)) := by
  refine gM_of (own := RX7) (L := [(0, .ref (B.2.1 23 k 0)), (1, .int (nI i))]) (by decide +kernel) rfl hI (Nat.le_of_ble_eq_true rfl) rfl ?_
  intro Z hnL hR X F
  refine g_aload_n X 0 rfl dX7_leave_0 ?_
  refine g_iload_n X 1 rfl dX7_leave_1 ?_
  refine g_iconst X 4 (by decide) dX7_leave_2 ?_
  refine g_callV X hR (rest := []) mX7_own lX7_52 (k_own hI V k i 4 (by first | assumption | decide | omega) (by first | assumption | decide | omega) (by first | assumption | decide | omega)) rfl rfl (Nat.le_of_ble_eq_true rfl) (gP_23 (by first | assumption | decide | omega)) rfl rfl rfl ⟨Nat.le_of_ble_eq_true rfl, Nat.le_of_ble_eq_true rfl, Nat.le_of_ble_eq_true rfl, Nat.le_of_ble_eq_true rfl⟩ dX7_leave_3 (fun r1 V2 hz_3 => ?_)
  refine gG_ret hz_3.1 hz_3.2 ?_
  refine gG_st [.int (V 24 k 0 (10 * i + 4))] rfl ?_
  refine gG_top (nI e) (he) ?_
  refine g_aload_n X 0 rfl dX7_leave_6 ?_
  refine gg_X7_open X (gP_23 (by first | assumption | decide | omega)) fX7_38 dX7_leave_7 ?_
  refine gG_top (nI e) (hd) ?_
  refine g_icmp_eq X 26 (by decide) dX7_leave_10 (fun c4 => ?_) (fun c4 => ?_)
  · refine g_aload_n X 0 rfl dX7_leave_26 ?_
    refine g_iload_n X 1 rfl dX7_leave_27 ?_
    refine g_iconst X 5 (by decide) dX7_leave_28 ?_
    refine g_iconst X 2 (by decide) dX7_leave_29 ?_
    refine g_callV X hR (rest := []) mX7_set lX7_48 (k_set hI V k i 5 2 (by first | assumption | decide | omega) (by first | assumption | decide | omega) (by first | assumption | decide | omega)) rfl rfl (Nat.le_of_ble_eq_true rfl) (gP_23 (by first | assumption | decide | omega)) rfl rfl rfl ⟨Nat.le_of_ble_eq_true rfl, Nat.le_of_ble_eq_true rfl, Nat.le_of_ble_eq_true rfl, Nat.le_of_ble_eq_true rfl⟩ dX7_leave_30 (fun r5 V6 hz_7 => ?_)
    refine gG_rv hz_7.1 ?_
    have hV6 := hz_7.2
    refine gG_st [] rfl ?_
    refine g_aload_n X 0 rfl dX7_leave_33 ?_
    refine g_iload_n X 1 rfl dX7_leave_34 ?_
    refine g_bipush X 6 (by decide) dX7_leave_35 ?_
    refine g_iconst X (-1) (by decide) dX7_leave_37 ?_
    refine g_callV X hR (rest := []) mX7_set lX7_48 (k_set hI V6 k i 6 (-1) (by first | assumption | decide | omega) (by first | assumption | decide | omega) (by first | assumption | decide | omega)) rfl rfl (Nat.le_of_ble_eq_true rfl) (gP_23 (by first | assumption | decide | omega)) rfl rfl rfl ⟨Nat.le_of_ble_eq_true rfl, Nat.le_of_ble_eq_true rfl, Nat.le_of_ble_eq_true rfl, Nat.le_of_ble_eq_true rfl⟩ dX7_leave_38 (fun r8 V9 hz_10 => ?_)
    refine gG_rv hz_10.1 ?_
    have hV9 := hz_10.2
    refine gG_st [] rfl ?_
    refine g_aload_n X 0 rfl dX7_leave_41 ?_
    refine g_iload_n X 1 rfl dX7_leave_42 ?_
    refine g_bipush X 8 (by decide) dX7_leave_43 ?_
    refine g_aload_n X 0 rfl dX7_leave_45 ?_
    refine gg_X7_tick X (gP_23 (by first | assumption | decide | omega)) fX7_34 dX7_leave_46 ?_
    refine gG_top (nI t) (by rw [hV9, hV6, gup_ne (by simp), gup_ne (by simp)]; exact ht) ?_
    refine g_callV X hR (rest := []) mX7_set lX7_48 (k_set hI V9 k i 8 (nI t) (by first | assumption | decide | omega) (by first | assumption | decide | omega) (by first | assumption | decide | omega)) rfl rfl (Nat.le_of_ble_eq_true rfl) (gP_23 (by first | assumption | decide | omega)) rfl rfl rfl ⟨Nat.le_of_ble_eq_true rfl, Nat.le_of_ble_eq_true rfl, Nat.le_of_ble_eq_true rfl, Nat.le_of_ble_eq_true rfl⟩ dX7_leave_49 (fun r11 V12 hz_13 => ?_)
    refine gG_rv hz_13.1 ?_
    have hV12 := hz_13.2
    refine gG_st [] rfl ?_
    refine g_vret X F ?_ rfl dX7_leave_52
    exact ⟨rfl, by rw [hV12, hV9, hV6]⟩
  · first | exact absurd (rfl) c4 | exact absurd c4 (rfl)

set_option maxRecDepth 20000 in
theorem k_leaveBack {l : Launch} {B : gB} (hI : gI B) (V : gMem) (k : Nat) (i : Nat) (e : Nat) (d : Nat) (xs : List Nat) (hk : k < 2) (hi : i < 16) (he : V 24 k 0 (10 * i + 4) = nI e) (hd : V 23 k 0 1 = nI d) (he2 : e < 2) (hd2 : d < 2) (hne : e ≠ d) (hx : RowM V k e xs) (hl : xs.length < 16) : gM l B yX7_leave cX7_leave 2 none rmX7_leave [.ref (B.2.1 23 k 0), .int (nI i)] V (fun v V' => v = none ∧ ∃ Vx, RowM Vx k e (i :: xs) ∧ rmodM V Vx k e ∧ V' = gup (gup Vx 24 k 0 (10 * i + 5) 0) 24 k 0 (10 * i + 6) (-1)) := by
  refine gM_of (own := RX7) (L := [(0, .ref (B.2.1 23 k 0)), (1, .int (nI i))]) (by decide +kernel) rfl hI (Nat.le_of_ble_eq_true rfl) rfl ?_
  intro Z hnL hR X F
  refine g_aload_n X 0 rfl dX7_leave_0 ?_
  refine g_iload_n X 1 rfl dX7_leave_1 ?_
  refine g_iconst X 4 (by decide) dX7_leave_2 ?_
  refine g_callV X hR (rest := []) mX7_own lX7_52 (k_own hI V k i 4 (by first | assumption | decide | omega) (by first | assumption | decide | omega) (by first | assumption | decide | omega)) rfl rfl (Nat.le_of_ble_eq_true rfl) (gP_23 (by first | assumption | decide | omega)) rfl rfl rfl ⟨Nat.le_of_ble_eq_true rfl, Nat.le_of_ble_eq_true rfl, Nat.le_of_ble_eq_true rfl, Nat.le_of_ble_eq_true rfl⟩ dX7_leave_3 (fun r1 V2 hz_3 => ?_)
  refine gG_ret hz_3.1 hz_3.2 ?_
  refine gG_st [.int (V 24 k 0 (10 * i + 4))] rfl ?_
  refine gG_top (nI e) (he) ?_
  refine g_aload_n X 0 rfl dX7_leave_6 ?_
  refine gg_X7_open X (gP_23 (by first | assumption | decide | omega)) fX7_38 dX7_leave_7 ?_
  refine gG_top (nI d) (hd) ?_
  refine g_icmp_eq X 26 (by decide) dX7_leave_10 (fun c4 => ?_) (fun c4 => ?_)
  · first | exact absurd (fun q => hne ((nI_eq (by omega) (by omega)).mp q)) c4 | exact absurd c4 (fun q => hne ((nI_eq (by omega) (by omega)).mp q))
  · refine g_aload_n X 0 rfl dX7_leave_13 ?_
    refine g_iload_n X 1 rfl dX7_leave_14 ?_
    refine g_aload_n X 0 rfl dX7_leave_15 ?_
    refine g_iload_n X 1 rfl dX7_leave_16 ?_
    refine g_iconst X 4 (by decide) dX7_leave_17 ?_
    refine g_callV X hR (rest := [.int (nI i), .ref (B.2.1 23 k 0)]) mX7_own lX7_52 (k_own hI V k i 4 (by first | assumption | decide | omega) (by first | assumption | decide | omega) (by first | assumption | decide | omega)) rfl rfl (Nat.le_of_ble_eq_true rfl) (gP_23 (by first | assumption | decide | omega)) rfl rfl rfl ⟨Nat.le_of_ble_eq_true rfl, Nat.le_of_ble_eq_true rfl, Nat.le_of_ble_eq_true rfl, Nat.le_of_ble_eq_true rfl⟩ dX7_leave_18 (fun r5 V6 hz_7 => ?_)
    refine gG_ret hz_7.1 hz_7.2 ?_
    refine gG_st [.int (V 24 k 0 (10 * i + 4)), .int (nI i), .ref (B.2.1 23 k 0)] rfl ?_
    refine gG_top (nI e) (he) ?_
    refine g_iconst X 0 (by decide) dX7_leave_21 ?_
    refine gG_top (nI 0) (rfl) ?_
    refine g_callV X hR (rest := []) mX7_line lX7_56 (k_lineF hI V k e i xs (by first | assumption | decide | omega) (by first | assumption | decide | omega) hi (by first | assumption | decide | omega) (by first | assumption | decide | omega)) rfl rfl (Nat.le_of_ble_eq_true rfl) (gP_23 (by first | assumption | decide | omega)) rfl rfl rfl ⟨Nat.le_of_ble_eq_true rfl, Nat.le_of_ble_eq_true rfl, Nat.le_of_ble_eq_true rfl, Nat.le_of_ble_eq_true rfl⟩ dX7_leave_22 (fun r8 V9 hz_10 => ?_)
    refine gG_rv hz_10.1 ?_
    obtain ⟨-, XV9, hrowV9, hmodV9, hV9⟩ := hz_10
    refine gG_st [] rfl ?_
    refine g_vret X F ?_ rfl dX7_leave_25
    exact ⟨rfl, XV9, hrowV9, hmodV9, hV9⟩

def goStep (S : gSt) (i lim : Nat) : gSt := if min (S.2.2.2.1 i 9 + S.2.2.2.1 i 4) (lim - 1) < S.1 2 then sC S i 9 (min (S.2.2.2.1 i 9 + S.2.2.2.1 i 4) (lim - 1)) else sO (sC S i 8 2) i (nI (S.1 0))
theorem goStep_go {S : gSt} {i lim v : Nat} (h : min (S.2.2.2.1 i 9 + S.2.2.2.1 i 4) (lim - 1) = v) (hv : v < S.1 2) : goStep S i lim = sC S i 9 v := by
  unfold goStep
  rw [h, if_pos hv]
theorem goStep_out {S : gSt} {i lim : Nat} (h : ¬ min (S.2.2.2.1 i 9 + S.2.2.2.1 i 4) (lim - 1) < S.1 2) : goStep S i lim = sO (sC S i 8 2) i (nI (S.1 0)) := if_neg h
theorem sPos_0 {S : gSt} {i : Nat} (h : S.2.2.2.1 i 1 = 0) : sPos S i = S.2.2.2.1 i 9 := if_pos h
theorem sPos_1 {S : gSt} {i : Nat} (h : S.2.2.2.1 i 1 = 1) : sPos S i = S.1 2 - 1 - S.2.2.2.1 i 9 := if_neg (by omega)
theorem sPos_of {S : gSt} {i d : Nat} (h : S.2.2.2.1 i 1 = d) : sPos S i = if d = 0 then S.2.2.2.1 i 9 else S.1 2 - 1 - S.2.2.2.1 i 9 := by rw [← h]; rfl

abbrev rmX7_move : Room := { frames := 3, cells := 0, slots := 0, locals := 85 }
set_option maxRecDepth 20000 in
theorem k_moveOn {l : Launch} {B : gB} (hI : gI B) (V : gMem) (k : Nat) (S : gSt) (i : Nat) (lim : Nat) (hk : k < 2) (hA : AbsM V k S) (hn : sNumOk S) (hc : sCartOk S i) (hi : i < S.1 6) (h8 : S.2.2.2.1 i 8 = 1) (he : S.2.2.2.1 i 1 = S.1 1) (hlim : S.2.2.2.1 i 9 < lim) (hlp : lim < S.1 2 ∨ lim = S.1 2 + 4) (hon : ∀ j, j < S.1 6 → S.2.2.2.1 j 8 = 1 → S.2.2.2.1 j 1 = S.1 1 ∧ S.2.2.2.1 j 9 < S.1 2) (h1 : ∀ j, j < S.1 6 → S.2.2.2.1 j 8 = 1 → j ≠ i → S.2.2.2.1 j 9 < S.2.2.2.1 i 9 ∨ lim ≤ S.2.2.2.1 j 9) (h2 : lim < S.1 2 → ∃ j, j < S.1 6 ∧ S.2.2.2.1 j 8 = 1 ∧ j ≠ i ∧ S.2.2.2.1 j 9 = lim) : gM l B yX7_move cX7_move 6 none rmX7_move [.ref (B.2.1 23 k 0), .int (nI i)] V (fun v V' => v = none ∧ stmod V V' k ∧ AbsM V' k (goStep S i lim)) := by
  refine gM_of (own := RX7) (L := [(0, .ref (B.2.1 23 k 0)), (1, .int (nI i))]) (by decide +kernel) rfl hI (Nat.le_of_ble_eq_true rfl) rfl ?_
  intro Z hnL hR X F
  have hN : S.1 6 ≤ 16 := hn.2.2.2.2.2
  have hpl := hn.2.1
  have hdir := hn.1
  have hpace := hc.2.2.2.1
  obtain ⟨-, hwp⟩ := hon i hi h8
  refine g_aload_n X 0 rfl dX7_move_0 ?_
  refine gg_X7_open X (gP_23 (by first | assumption | decide | omega)) fX7_38 dX7_move_1 ?_
  refine gG_top (nI (S.1 1)) (hA.1.2.1) ?_
  by_cases hd0 : S.1 1 = 0
  · refine gG_top 0 (by rw [hd0]; rfl) ?_
    have hpos : sPos S i = S.2.2.2.1 i 9 := sPos_0 (he.trans hd0)
    refine g_if_ne X 11 (by decide) dX7_move_4 (fun c1 => ?_) (fun c1 => ?_)
    ·  exact absurd c1 (by decide)
    · refine g_iconst X 1 (by decide) dX7_move_7 ?_
      refine g_goto X 12 (by decide) dX7_move_8 ?_
      refine g_istore_n X rfl dX7_move_12 [(2, .int 1), (0, .ref (B.2.1 23 k 0)), (1, .int (nI i))] rfl (gnl_lt hnL (by decide)) ?_
      refine g_aload_n X 1 rfl dX7_move_13 ?_
      refine g_iload_n X 2 rfl dX7_move_14 ?_
      refine g_iconst X 4 (by decide) dX7_move_15 ?_
      refine g_callV X hR (rest := []) mX7_own lX7_52 (k_ownM hI V k S i 4 (by first | assumption | decide | omega) hA (by first | assumption | decide | omega) (by first | assumption | decide | omega) (by decide)) rfl rfl (Nat.le_of_ble_eq_true rfl) (gP_23 (by first | assumption | decide | omega)) rfl rfl rfl ⟨Nat.le_of_ble_eq_true rfl, Nat.le_of_ble_eq_true rfl, Nat.le_of_ble_eq_true rfl, Nat.le_of_ble_eq_true rfl⟩ dX7_move_16 (fun r2 V3 hz_4 => ?_)
      refine gG_ret hz_4.1 hz_4.2 ?_
      refine gG_st [.int (nI (S.2.2.2.1 i 1))] rfl ?_
      refine gG_top (nI (S.1 1)) (by rw [he]) ?_
      refine g_aload_n X 1 rfl dX7_move_19 ?_
      refine gg_X7_open X (gP_23 (by first | assumption | decide | omega)) fX7_38 dX7_move_20 ?_
      refine gG_top (nI (S.1 1)) (hA.1.2.1) ?_
      refine g_icmp_ne X 35 (by decide) dX7_move_23 (fun c5 => ?_) (fun c5 => ?_)
      · first | exact absurd (fun q => q rfl) c5 | exact absurd c5 (fun q => q rfl)
      · refine g_aload_n X 1 rfl dX7_move_26 ?_
        refine g_iload_n X 2 rfl dX7_move_27 ?_
        refine g_iconst X 2 (by decide) dX7_move_28 ?_
        refine g_callV X hR (rest := []) mX7_own lX7_52 (k_ownM hI V k S i 2 (by first | assumption | decide | omega) hA (by first | assumption | decide | omega) (by first | assumption | decide | omega) (by decide)) rfl rfl (Nat.le_of_ble_eq_true rfl) (gP_23 (by first | assumption | decide | omega)) rfl rfl rfl ⟨Nat.le_of_ble_eq_true rfl, Nat.le_of_ble_eq_true rfl, Nat.le_of_ble_eq_true rfl, Nat.le_of_ble_eq_true rfl⟩ dX7_move_29 (fun r6 V7 hz_8 => ?_)
        refine gG_ret hz_8.1 hz_8.2 ?_
        refine gG_st [.int (nI (S.2.2.2.1 i 4))] rfl ?_
        refine g_goto X 36 (by decide) dX7_move_32 ?_
        refine g_istore_n X rfl dX7_move_36 [(3, .int (nI (S.2.2.2.1 i 4))), (2, .int 1), (0, .ref (B.2.1 23 k 0)), (1, .int (nI i))] rfl (gnl_lt hnL (by decide)) ?_
        refine g_aload_n X 2 rfl dX7_move_37 ?_
        refine g_iload_n X 3 rfl dX7_move_38 ?_
        refine g_bipush X 6 (by decide) dX7_move_39 ?_
        refine g_callV X hR (rest := []) mX7_own lX7_52 (k_ownM hI V k S i 6 (by first | assumption | decide | omega) hA (by first | assumption | decide | omega) (by first | assumption | decide | omega) (by decide)) rfl rfl (Nat.le_of_ble_eq_true rfl) (gP_23 (by first | assumption | decide | omega)) rfl rfl rfl ⟨Nat.le_of_ble_eq_true rfl, Nat.le_of_ble_eq_true rfl, Nat.le_of_ble_eq_true rfl, Nat.le_of_ble_eq_true rfl⟩ dX7_move_41 (fun r9 V10 hz_11 => ?_)
        refine gG_ret hz_11.1 hz_11.2 ?_
        refine gG_st [.int (sPlc S i)] rfl ?_
        refine gG_top (nI (S.2.2.2.1 i 9)) (by rw [sPlc_on h8, hpos]) ?_
        refine g_istore X dX7_move_44 [(4, .int (nI (S.2.2.2.1 i 9))), (3, .int (nI (S.2.2.2.1 i 4))), (2, .int 1), (0, .ref (B.2.1 23 k 0)), (1, .int (nI i))] rfl (gnl_lt hnL (by decide)) ?_
        refine g_aload_n X 3 rfl dX7_move_46 ?_
        refine gg_X7_at X (gP_23 (by first | assumption | decide | omega)) fX7_19 dX7_move_47 ?_
        refine g_iload X 0 rfl dX7_move_50 ?_
        refine g_iconst X (-1) (by decide) dX7_move_52 ?_
        refine g_iastN X ((S.2.2.2.1 i 9)) rfl (by omega) (by decide) (gP_25 (by first | assumption | decide | omega)) (fun _ => rfl) dX7_move_53 ?_
        refine gG_nm (fun V12 hV12 => ?_)
        refine gG_L [3, 4, 2, 1, 0] (L' := [(0, .ref (B.2.1 23 k 0)), (1, .int (nI i)), (2, .int 1), (3, .int (nI (S.2.2.2.1 i 4))), (4, .int (nI (S.2.2.2.1 i 9)))]) rfl ?_
        rw [← hpos] at hV12
        have hPl : V12 20 0 0 4 = nI (S.1 2) := by rw [hV12, gup_ne (by simp)]; exact hA.2.2.2.2.2.1
        have hfree : ∀ v, v < S.1 2 → S.2.2.2.1 i 9 < v → v < lim → V12 25 k 0 (v) = -1 := by
          intro v hv hwv hvl
          rw [hV12, gup_ne (by rw [hpos]; omega)]
          refine hA.2.2.1.2 _ (by omega) (fun j hj hj8 => ?_)
          obtain ⟨hje, hjw⟩ := hon j hj hj8
          rw [sPos_of hje]
          by_cases hji : j = i
          · subst hji; split <;> omega
          · have := h1 j hj hj8 hji; split <;> omega
        have hblk : lim < S.1 2 → ∃ j, j < S.1 6 ∧ V12 25 k 0 (lim) = nI j := by
          intro hl
          obtain ⟨j, hj, hj8, hji, hjw⟩ := h2 hl
          obtain ⟨hje, hjw2⟩ := hon j hj hj8
          refine ⟨j, hj, ?_⟩
          have hq := hA.2.2.1.1 j hj hj8
          rw [sPos_of hje, hjw] at hq
          rw [hV12, gup_ne (by rw [hpos]; omega)]
          rw [if_pos hd0] at hq
          exact hq
        have hapart : Apart S i := fun j hj hj8 hji => by
          obtain ⟨hje, hjw⟩ := hon j hj hj8
          rw [sPos_of hje, hpos]
          have := h1 j hj hj8 hji
          rw [if_pos hd0]
          clear h2 hblk
          omega
        have loop : ∀ (lf v : Nat), v + lf = S.2.2.2.1 i 9 + S.2.2.2.1 i 4 → S.2.2.2.1 i 9 ≤ v → v < S.1 2 → v < lim → gG Z B (0, 0) V12 54 [(0, .ref (B.2.1 23 k 0)), (1, .int (nI i)), (2, .int 1), (3, .int (nI lf)), (4, .int (nI v))] [] := by
          intro lf
          induction lf with
          | zero =>
            intro v hv hwv hvp hvl
            refine g_iload_n X 3 rfl dX7_move_54 ?_
            refine g_if_le X 111 (by decide) dX7_move_55 (fun c13 => ?_) (fun c13 => ?_)
            · refine g_aload_n X 0 rfl dX7_move_111 ?_
              refine gg_X7_at X (gP_23 (by first | assumption | decide | omega)) fX7_19 dX7_move_112 ?_
              refine g_iload X 4 rfl dX7_move_115 ?_
              refine g_iload_n X 1 rfl dX7_move_117 ?_
              refine g_iastN X (v) rfl (by omega) (by decide) (gP_25 (by first | assumption | decide | omega)) (fun _ => rfl) dX7_move_118 ?_
              refine gG_nm (fun V14 hV14 => ?_)
              refine g_aload_n X 0 rfl dX7_move_119 ?_
              refine g_iload_n X 1 rfl dX7_move_120 ?_
              refine g_bipush X 6 (by decide) dX7_move_121 ?_
              refine g_iload X 4 rfl dX7_move_123 ?_
              refine g_callV X hR (rest := []) mX7_set lX7_48 (k_set hI V14 k i 6 (nI v) (by first | assumption | decide | omega) (by first | assumption | decide | omega) (by first | assumption | decide | omega)) rfl rfl (Nat.le_of_ble_eq_true rfl) (gP_23 (by first | assumption | decide | omega)) rfl rfl rfl ⟨Nat.le_of_ble_eq_true rfl, Nat.le_of_ble_eq_true rfl, Nat.le_of_ble_eq_true rfl, Nat.le_of_ble_eq_true rfl⟩ dX7_move_125 (fun r15 V16 hz_17 => ?_)
              refine gG_rv hz_17.1 ?_
              have hV16 := hz_17.2
              refine gG_st [] rfl ?_
              refine g_vret X F ?_ rfl dX7_move_128
              have hgs := goStep_go (S := S) (i := i) (lim := lim) (v := v) (by clear h2 hblk; omega) hvp
              rw [hgs]
              refine ⟨rfl, ?_, ?_⟩
              · rw [hV16, hV14, hV12]
                exact ((stmod.rf.up (by decide) (by decide)).up (by decide) (by decide)).up (by decide) (by decide)
              · rw [hV16, hV14, hV12]
                refine hA.go hi h8 hapart v (v) ?_ (fun j hj hj8 hji => ?_)
                · have e1 : (sC S i 9 v).2.2.2.1 i 1 = S.1 1 := by simp [sC]; exact he
                  rw [sPos_of e1, if_pos hd0]
                  simp [sC]
                · obtain ⟨hje, hjw⟩ := hon j hj hj8
                  rw [sPos_of hje, if_pos hd0]
                  have := h1 j hj hj8 hji
                  omega
            · first | exact absurd (Int32.le_refl _) c13 | exact absurd c13 (Int32.le_refl _)
          | succ lf ih =>
            intro v hv hwv hvp hvl
            refine g_iload_n X 3 rfl dX7_move_54 ?_
            refine g_if_le X 111 (by decide) dX7_move_55 (fun c18 => ?_) (fun c18 => ?_)
            · first | exact absurd (nI_nle (by omega) (by omega)) c18 | exact absurd c18 (nI_nle (by omega) (by omega))
            · refine g_iload X 4 rfl dX7_move_58 ?_
              refine g_iload_n X 2 rfl dX7_move_60 ?_
              refine g_iadd X dX7_move_61 ?_
              refine gG_top (nI (v + 1)) (nI_1 _) ?_
              by_cases hlast : v + 1 = S.1 2
              · refine gG_top (nI (S.1 2)) (by rw [show S.1 2 = v + 1 by omega]) ?_
                refine g_istore X dX7_move_62 [(5, .int (nI (S.1 2))), (0, .ref (B.2.1 23 k 0)), (1, .int (nI i)), (2, .int 1), (3, .int (nI (lf + 1))), (4, .int (nI v))] rfl (gnl_lt hnL (by decide)) ?_
                refine g_iload X 0 rfl dX7_move_64 ?_
                refine g_if_lt X 81 (by decide) dX7_move_66 (fun c19 => ?_) (fun c19 => ?_)
                · first | exact absurd (nI_pos (by omega)) c19 | exact absurd c19 (nI_pos (by omega))
                · refine g_iload X 0 rfl dX7_move_69 ?_
                  refine g_aload_n X 1 rfl dX7_move_71 ?_
                  refine gg_X7_this_0 X (gP_23 (by first | assumption | decide | omega)) fX7_3 dX7_move_72 ?_
                  refine gg_X8_places X ⟨by decide, by decide⟩ fX7_59 dX7_move_75 ?_
                  refine gG_top (nI (S.1 2)) (hPl) ?_
                  refine g_icmp_ne X 87 (by decide) dX7_move_78 (fun c20 => ?_) (fun c20 => ?_)
                  · first | exact absurd (fun z => z rfl) c20 | exact absurd c20 (fun z => z rfl)
                  · refine g_aload_n X 1 rfl dX7_move_81 ?_
                    refine g_iload_n X 2 rfl dX7_move_82 ?_
                    refine g_callV X hR (rest := []) mX7_leave lX7_62 (k_leaveOn hI V12 k i (S.1 1) (S.1 0) (by first | assumption | decide | omega) (by first | assumption | decide | omega) (by rw [hV12, gup_ne (by simp), hA.2.1 i hi 4 (by decide)]; show nI (S.2.2.2.1 i 1) = _; rw [he]) (by rw [hV12, gup_ne (by simp)]; exact hA.1.2.1) (by rw [hV12, gup_ne (by simp)]; exact hA.1.1)) rfl rfl (Nat.le_of_ble_eq_true rfl) (gP_23 (by first | assumption | decide | omega)) rfl rfl rfl ⟨Nat.le_of_ble_eq_true rfl, Nat.le_of_ble_eq_true rfl, Nat.le_of_ble_eq_true rfl, Nat.le_of_ble_eq_true rfl⟩ dX7_move_83 (fun r21 V22 hz_23 => ?_)
                    refine gG_rv hz_23.1 ?_
                    have hV22 := hz_23.2
                    refine gG_st [] rfl ?_
                    refine g_vret X F ?_ rfl dX7_move_86
                    rw [goStep_out (by clear h2 hblk ih; omega)]
                    refine ⟨rfl, ?_, ?_⟩
                    · rw [hV22, hV12]
                      exact (((stmod.rf.up (by decide) (by decide)).up (by decide) (by decide)).up (by decide) (by decide)).up (by decide) (by decide)
                    · rw [hV22, hV12]
                      exact hA.over hi h8 hapart (S.1 0)
              · skip
                refine g_istore X dX7_move_62 [(5, .int (nI (v + 1))), (0, .ref (B.2.1 23 k 0)), (1, .int (nI i)), (2, .int 1), (3, .int (nI (lf + 1))), (4, .int (nI v))] rfl (gnl_lt hnL (by decide)) ?_
                refine g_iload X 0 rfl dX7_move_64 ?_
                refine g_if_lt X 81 (by decide) dX7_move_66 (fun c24 => ?_) (fun c24 => ?_)
                · first | exact absurd (nI_pos (by omega)) c24 | exact absurd c24 (nI_pos (by omega))
                · refine g_iload X 0 rfl dX7_move_69 ?_
                  refine g_aload_n X 1 rfl dX7_move_71 ?_
                  refine gg_X7_this_0 X (gP_23 (by first | assumption | decide | omega)) fX7_3 dX7_move_72 ?_
                  refine gg_X8_places X ⟨by decide, by decide⟩ fX7_59 dX7_move_75 ?_
                  refine gG_top (nI (S.1 2)) (hPl) ?_
                  refine g_icmp_ne X 87 (by decide) dX7_move_78 (fun c25 => ?_) (fun c25 => ?_)
                  · refine g_aload_n X 1 rfl dX7_move_87 ?_
                    refine gg_X7_at X (gP_23 (by first | assumption | decide | omega)) fX7_19 dX7_move_88 ?_
                    refine g_iload X 0 rfl dX7_move_91 ?_
                    refine g_ialdN X ((v + 1)) rfl (by omega) (by decide) (gP_25 (by first | assumption | decide | omega)) rfl dX7_move_93 ?_
                    by_cases hbl : v + 1 = lim
                    · obtain ⟨j, hj, hjat⟩ := hblk (by omega)
                      refine gG_top (nI j) (by rw [hbl]; exact hjat) ?_
                      refine g_iconst X (-1) (by decide) dX7_move_94 ?_
                      refine g_icmp_eq X 101 (by decide) dX7_move_95 (fun c26 => ?_) (fun c26 => ?_)
                      · first | exact absurd (nI_ne_m1 (by have := hn.2.2.2.2.2; omega)) c26 | exact absurd c26 (nI_ne_m1 (by have := hn.2.2.2.2.2; omega))
                      · refine g_goto X 111 (by decide) dX7_move_98 ?_
                        refine g_aload_n X 1 rfl dX7_move_111 ?_
                        refine gg_X7_at X (gP_23 (by first | assumption | decide | omega)) fX7_19 dX7_move_112 ?_
                        refine g_iload X 5 rfl dX7_move_115 ?_
                        refine g_iload_n X 2 rfl dX7_move_117 ?_
                        refine g_iastN X (v) rfl (by omega) (by decide) (gP_25 (by first | assumption | decide | omega)) (fun _ => rfl) dX7_move_118 ?_
                        refine gG_nm (fun V27 hV27 => ?_)
                        refine g_aload_n X 1 rfl dX7_move_119 ?_
                        refine g_iload_n X 2 rfl dX7_move_120 ?_
                        refine g_bipush X 6 (by decide) dX7_move_121 ?_
                        refine g_iload X 5 rfl dX7_move_123 ?_
                        refine g_callV X hR (rest := []) mX7_set lX7_48 (k_set hI V27 k i 6 (nI v) (by first | assumption | decide | omega) (by first | assumption | decide | omega) (by first | assumption | decide | omega)) rfl rfl (Nat.le_of_ble_eq_true rfl) (gP_23 (by first | assumption | decide | omega)) rfl rfl rfl ⟨Nat.le_of_ble_eq_true rfl, Nat.le_of_ble_eq_true rfl, Nat.le_of_ble_eq_true rfl, Nat.le_of_ble_eq_true rfl⟩ dX7_move_125 (fun r28 V29 hz_30 => ?_)
                        refine gG_rv hz_30.1 ?_
                        have hV29 := hz_30.2
                        refine gG_st [] rfl ?_
                        refine g_vret X F ?_ rfl dX7_move_128
                        have hgs := goStep_go (S := S) (i := i) (lim := lim) (v := v) (by clear h2 hblk; omega) hvp
                        rw [hgs]
                        refine ⟨rfl, ?_, ?_⟩
                        · rw [hV29, hV27, hV12]
                          exact ((stmod.rf.up (by decide) (by decide)).up (by decide) (by decide)).up (by decide) (by decide)
                        · rw [hV29, hV27, hV12]
                          refine hA.go hi h8 hapart v (v) ?_ (fun j hj hj8 hji => ?_)
                          · have e1 : (sC S i 9 v).2.2.2.1 i 1 = S.1 1 := by simp [sC]; exact he
                            rw [sPos_of e1, if_pos hd0]
                            simp [sC]
                          · obtain ⟨hje, hjw⟩ := hon j hj hj8
                            rw [sPos_of hje, if_pos hd0]
                            have := h1 j hj hj8 hji
                            omega
                    · refine gG_top (-1) (hfree (v + 1) (by omega) (by omega) (by omega)) ?_
                      refine g_iconst X (-1) (by decide) dX7_move_94 ?_
                      refine g_icmp_eq X 101 (by decide) dX7_move_95 (fun c31 => ?_) (fun c31 => ?_)
                      · refine g_iload X 0 rfl dX7_move_101 ?_
                        refine g_istore X dX7_move_103 [(4, .int (nI (v + 1))), (5, .int (nI (v + 1))), (0, .ref (B.2.1 23 k 0)), (1, .int (nI i)), (2, .int 1), (3, .int (nI (lf + 1)))] rfl (gnl_lt hnL (by decide)) ?_
                        refine g_iinc X 5 rfl (nI lf) (iinc_m1 lf) dX7_move_105 [(3, .int (nI lf)), (4, .int (nI (v + 1))), (5, .int (nI (v + 1))), (0, .ref (B.2.1 23 k 0)), (1, .int (nI i)), (2, .int 1)] rfl (gnl_lt hnL (by decide)) ?_
                        refine g_goto X 54 (by decide) dX7_move_108 ?_
                        refine gG_L [3, 4, 5, 0, 1] (L' := [(0, .ref (B.2.1 23 k 0)), (1, .int (nI i)), (2, .int 1), (3, .int (nI lf)), (4, .int (nI (v + 1)))]) rfl ?_
                        exact ih (v + 1) (by omega) (by omega) (by omega) (by omega)
                      ·  exact absurd c31 (by decide)
                  · first | exact absurd (fun z => hlast ((nI_eq (by omega) (by omega)).mp z)) c25 | exact absurd c25 (fun z => hlast ((nI_eq (by omega) (by omega)).mp z))
        exact loop (S.2.2.2.1 i 4) (S.2.2.2.1 i 9) rfl (Nat.le_refl _) hwp hlim
  · have hd1 : S.1 1 = 1 := by omega
    refine gG_top 1 (by rw [hd1]; rfl) ?_
    have hpos : sPos S i = S.1 2 - 1 - S.2.2.2.1 i 9 := sPos_1 (he.trans hd1)
    refine g_if_ne X 11 (by decide) dX7_move_4 (fun c32 => ?_) (fun c32 => ?_)
    · refine g_iconst X (-1) (by decide) dX7_move_11 ?_
      refine g_istore_n X rfl dX7_move_12 [(2, .int ((-1))), (0, .ref (B.2.1 23 k 0)), (1, .int (nI i))] rfl (gnl_lt hnL (by decide)) ?_
      refine g_aload_n X 1 rfl dX7_move_13 ?_
      refine g_iload_n X 2 rfl dX7_move_14 ?_
      refine g_iconst X 4 (by decide) dX7_move_15 ?_
      refine g_callV X hR (rest := []) mX7_own lX7_52 (k_ownM hI V k S i 4 (by first | assumption | decide | omega) hA (by first | assumption | decide | omega) (by first | assumption | decide | omega) (by decide)) rfl rfl (Nat.le_of_ble_eq_true rfl) (gP_23 (by first | assumption | decide | omega)) rfl rfl rfl ⟨Nat.le_of_ble_eq_true rfl, Nat.le_of_ble_eq_true rfl, Nat.le_of_ble_eq_true rfl, Nat.le_of_ble_eq_true rfl⟩ dX7_move_16 (fun r33 V34 hz_35 => ?_)
      refine gG_ret hz_35.1 hz_35.2 ?_
      refine gG_st [.int (nI (S.2.2.2.1 i 1))] rfl ?_
      refine gG_top (nI (S.1 1)) (by rw [he]) ?_
      refine g_aload_n X 1 rfl dX7_move_19 ?_
      refine gg_X7_open X (gP_23 (by first | assumption | decide | omega)) fX7_38 dX7_move_20 ?_
      refine gG_top (nI (S.1 1)) (hA.1.2.1) ?_
      refine g_icmp_ne X 35 (by decide) dX7_move_23 (fun c36 => ?_) (fun c36 => ?_)
      · first | exact absurd (fun q => q rfl) c36 | exact absurd c36 (fun q => q rfl)
      · refine g_aload_n X 1 rfl dX7_move_26 ?_
        refine g_iload_n X 2 rfl dX7_move_27 ?_
        refine g_iconst X 2 (by decide) dX7_move_28 ?_
        refine g_callV X hR (rest := []) mX7_own lX7_52 (k_ownM hI V k S i 2 (by first | assumption | decide | omega) hA (by first | assumption | decide | omega) (by first | assumption | decide | omega) (by decide)) rfl rfl (Nat.le_of_ble_eq_true rfl) (gP_23 (by first | assumption | decide | omega)) rfl rfl rfl ⟨Nat.le_of_ble_eq_true rfl, Nat.le_of_ble_eq_true rfl, Nat.le_of_ble_eq_true rfl, Nat.le_of_ble_eq_true rfl⟩ dX7_move_29 (fun r37 V38 hz_39 => ?_)
        refine gG_ret hz_39.1 hz_39.2 ?_
        refine gG_st [.int (nI (S.2.2.2.1 i 4))] rfl ?_
        refine g_goto X 36 (by decide) dX7_move_32 ?_
        refine g_istore_n X rfl dX7_move_36 [(3, .int (nI (S.2.2.2.1 i 4))), (2, .int ((-1))), (0, .ref (B.2.1 23 k 0)), (1, .int (nI i))] rfl (gnl_lt hnL (by decide)) ?_
        refine g_aload_n X 2 rfl dX7_move_37 ?_
        refine g_iload_n X 3 rfl dX7_move_38 ?_
        refine g_bipush X 6 (by decide) dX7_move_39 ?_
        refine g_callV X hR (rest := []) mX7_own lX7_52 (k_ownM hI V k S i 6 (by first | assumption | decide | omega) hA (by first | assumption | decide | omega) (by first | assumption | decide | omega) (by decide)) rfl rfl (Nat.le_of_ble_eq_true rfl) (gP_23 (by first | assumption | decide | omega)) rfl rfl rfl ⟨Nat.le_of_ble_eq_true rfl, Nat.le_of_ble_eq_true rfl, Nat.le_of_ble_eq_true rfl, Nat.le_of_ble_eq_true rfl⟩ dX7_move_41 (fun r40 V41 hz_42 => ?_)
        refine gG_ret hz_42.1 hz_42.2 ?_
        refine gG_st [.int (sPlc S i)] rfl ?_
        refine gG_top (nI (S.1 2 - 1 - (S.2.2.2.1 i 9))) (by rw [sPlc_on h8, hpos]) ?_
        refine g_istore X dX7_move_44 [(4, .int (nI (S.1 2 - 1 - (S.2.2.2.1 i 9)))), (3, .int (nI (S.2.2.2.1 i 4))), (2, .int ((-1))), (0, .ref (B.2.1 23 k 0)), (1, .int (nI i))] rfl (gnl_lt hnL (by decide)) ?_
        refine g_aload_n X 3 rfl dX7_move_46 ?_
        refine gg_X7_at X (gP_23 (by first | assumption | decide | omega)) fX7_19 dX7_move_47 ?_
        refine g_iload X 0 rfl dX7_move_50 ?_
        refine g_iconst X (-1) (by decide) dX7_move_52 ?_
        refine g_iastN X (S.1 2 - 1 - (S.2.2.2.1 i 9)) rfl (by omega) (by decide) (gP_25 (by first | assumption | decide | omega)) (fun _ => rfl) dX7_move_53 ?_
        refine gG_nm (fun V43 hV43 => ?_)
        refine gG_L [3, 4, 2, 1, 0] (L' := [(0, .ref (B.2.1 23 k 0)), (1, .int (nI i)), (2, .int ((-1))), (3, .int (nI (S.2.2.2.1 i 4))), (4, .int (nI (S.1 2 - 1 - (S.2.2.2.1 i 9))))]) rfl ?_
        rw [← hpos] at hV43
        have hPl : V43 20 0 0 4 = nI (S.1 2) := by rw [hV43, gup_ne (by simp)]; exact hA.2.2.2.2.2.1
        have hfree : ∀ v, v < S.1 2 → S.2.2.2.1 i 9 < v → v < lim → V43 25 k 0 (S.1 2 - 1 - v) = -1 := by
          intro v hv hwv hvl
          rw [hV43, gup_ne (by rw [hpos]; omega)]
          refine hA.2.2.1.2 _ (by omega) (fun j hj hj8 => ?_)
          obtain ⟨hje, hjw⟩ := hon j hj hj8
          rw [sPos_of hje]
          by_cases hji : j = i
          · subst hji; split <;> omega
          · have := h1 j hj hj8 hji; split <;> omega
        have hblk : lim < S.1 2 → ∃ j, j < S.1 6 ∧ V43 25 k 0 (S.1 2 - 1 - lim) = nI j := by
          intro hl
          obtain ⟨j, hj, hj8, hji, hjw⟩ := h2 hl
          obtain ⟨hje, hjw2⟩ := hon j hj hj8
          refine ⟨j, hj, ?_⟩
          have hq := hA.2.2.1.1 j hj hj8
          rw [sPos_of hje, hjw] at hq
          rw [hV43, gup_ne (by rw [hpos]; omega)]
          rw [if_neg hd0] at hq
          exact hq
        have hapart : Apart S i := fun j hj hj8 hji => by
          obtain ⟨hje, hjw⟩ := hon j hj hj8
          rw [sPos_of hje, hpos]
          have := h1 j hj hj8 hji
          rw [if_neg hd0]
          clear h2 hblk
          omega
        have loop : ∀ (lf v : Nat), v + lf = S.2.2.2.1 i 9 + S.2.2.2.1 i 4 → S.2.2.2.1 i 9 ≤ v → v < S.1 2 → v < lim → gG Z B (0, 0) V43 54 [(0, .ref (B.2.1 23 k 0)), (1, .int (nI i)), (2, .int ((-1))), (3, .int (nI lf)), (4, .int (nI (S.1 2 - 1 - v)))] [] := by
          intro lf
          induction lf with
          | zero =>
            intro v hv hwv hvp hvl
            refine g_iload_n X 3 rfl dX7_move_54 ?_
            refine g_if_le X 111 (by decide) dX7_move_55 (fun c44 => ?_) (fun c44 => ?_)
            · refine g_aload_n X 0 rfl dX7_move_111 ?_
              refine gg_X7_at X (gP_23 (by first | assumption | decide | omega)) fX7_19 dX7_move_112 ?_
              refine g_iload X 4 rfl dX7_move_115 ?_
              refine g_iload_n X 1 rfl dX7_move_117 ?_
              refine g_iastN X (S.1 2 - 1 - v) rfl (by omega) (by decide) (gP_25 (by first | assumption | decide | omega)) (fun _ => rfl) dX7_move_118 ?_
              refine gG_nm (fun V45 hV45 => ?_)
              refine g_aload_n X 0 rfl dX7_move_119 ?_
              refine g_iload_n X 1 rfl dX7_move_120 ?_
              refine g_bipush X 6 (by decide) dX7_move_121 ?_
              refine g_iload X 4 rfl dX7_move_123 ?_
              refine g_callV X hR (rest := []) mX7_set lX7_48 (k_set hI V45 k i 6 (nI (S.1 2 - 1 - v)) (by first | assumption | decide | omega) (by first | assumption | decide | omega) (by first | assumption | decide | omega)) rfl rfl (Nat.le_of_ble_eq_true rfl) (gP_23 (by first | assumption | decide | omega)) rfl rfl rfl ⟨Nat.le_of_ble_eq_true rfl, Nat.le_of_ble_eq_true rfl, Nat.le_of_ble_eq_true rfl, Nat.le_of_ble_eq_true rfl⟩ dX7_move_125 (fun r46 V47 hz_48 => ?_)
              refine gG_rv hz_48.1 ?_
              have hV47 := hz_48.2
              refine gG_st [] rfl ?_
              refine g_vret X F ?_ rfl dX7_move_128
              have hgs := goStep_go (S := S) (i := i) (lim := lim) (v := v) (by clear h2 hblk; omega) hvp
              rw [hgs]
              refine ⟨rfl, ?_, ?_⟩
              · rw [hV47, hV45, hV43]
                exact ((stmod.rf.up (by decide) (by decide)).up (by decide) (by decide)).up (by decide) (by decide)
              · rw [hV47, hV45, hV43]
                refine hA.go hi h8 hapart v (S.1 2 - 1 - v) ?_ (fun j hj hj8 hji => ?_)
                · have e1 : (sC S i 9 v).2.2.2.1 i 1 = S.1 1 := by simp [sC]; exact he
                  rw [sPos_of e1, if_neg hd0]
                  simp [sC]
                · obtain ⟨hje, hjw⟩ := hon j hj hj8
                  rw [sPos_of hje, if_neg hd0]
                  have := h1 j hj hj8 hji
                  omega
            · first | exact absurd (Int32.le_refl _) c44 | exact absurd c44 (Int32.le_refl _)
          | succ lf ih =>
            intro v hv hwv hvp hvl
            refine g_iload_n X 3 rfl dX7_move_54 ?_
            refine g_if_le X 111 (by decide) dX7_move_55 (fun c49 => ?_) (fun c49 => ?_)
            · first | exact absurd (nI_nle (by omega) (by omega)) c49 | exact absurd c49 (nI_nle (by omega) (by omega))
            · refine g_iload X 4 rfl dX7_move_58 ?_
              refine g_iload_n X 2 rfl dX7_move_60 ?_
              refine g_iadd X dX7_move_61 ?_
              by_cases hlast : v + 1 = S.1 2
              · refine gG_top (-1) (by rw [show S.1 2 - 1 - v = 0 by omega]; decide) ?_
                refine g_istore X dX7_move_62 [(5, .int ((-1))), (0, .ref (B.2.1 23 k 0)), (1, .int (nI i)), (2, .int ((-1))), (3, .int (nI (lf + 1))), (4, .int (nI (S.1 2 - 1 - v)))] rfl (gnl_lt hnL (by decide)) ?_
                refine g_iload X 0 rfl dX7_move_64 ?_
                refine g_if_lt X 81 (by decide) dX7_move_66 (fun c50 => ?_) (fun c50 => ?_)
                · refine g_aload_n X 1 rfl dX7_move_81 ?_
                  refine g_iload_n X 2 rfl dX7_move_82 ?_
                  refine g_callV X hR (rest := []) mX7_leave lX7_62 (k_leaveOn hI V43 k i (S.1 1) (S.1 0) (by first | assumption | decide | omega) (by first | assumption | decide | omega) (by rw [hV43, gup_ne (by simp), hA.2.1 i hi 4 (by decide)]; show nI (S.2.2.2.1 i 1) = _; rw [he]) (by rw [hV43, gup_ne (by simp)]; exact hA.1.2.1) (by rw [hV43, gup_ne (by simp)]; exact hA.1.1)) rfl rfl (Nat.le_of_ble_eq_true rfl) (gP_23 (by first | assumption | decide | omega)) rfl rfl rfl ⟨Nat.le_of_ble_eq_true rfl, Nat.le_of_ble_eq_true rfl, Nat.le_of_ble_eq_true rfl, Nat.le_of_ble_eq_true rfl⟩ dX7_move_83 (fun r51 V52 hz_53 => ?_)
                  refine gG_rv hz_53.1 ?_
                  have hV52 := hz_53.2
                  refine gG_st [] rfl ?_
                  refine g_vret X F ?_ rfl dX7_move_86
                  rw [goStep_out (by clear h2 hblk ih; omega)]
                  refine ⟨rfl, ?_, ?_⟩
                  · rw [hV52, hV43]
                    exact (((stmod.rf.up (by decide) (by decide)).up (by decide) (by decide)).up (by decide) (by decide)).up (by decide) (by decide)
                  · rw [hV52, hV43]
                    exact hA.over hi h8 hapart (S.1 0)
                ·  exact absurd c50 (by decide)
              · refine gG_top (nI (S.1 2 - 1 - (v + 1))) (by rw [show S.1 2 - 1 - v = S.1 2 - 1 - (v + 1) + 1 by omega]; exact pk_m1 _) ?_
                refine g_istore X dX7_move_62 [(5, .int (nI (S.1 2 - 1 - (v + 1)))), (0, .ref (B.2.1 23 k 0)), (1, .int (nI i)), (2, .int ((-1))), (3, .int (nI (lf + 1))), (4, .int (nI (S.1 2 - 1 - v)))] rfl (gnl_lt hnL (by decide)) ?_
                refine g_iload X 0 rfl dX7_move_64 ?_
                refine g_if_lt X 81 (by decide) dX7_move_66 (fun c54 => ?_) (fun c54 => ?_)
                · first | exact absurd (nI_pos (by omega)) c54 | exact absurd c54 (nI_pos (by omega))
                · refine g_iload X 0 rfl dX7_move_69 ?_
                  refine g_aload_n X 1 rfl dX7_move_71 ?_
                  refine gg_X7_this_0 X (gP_23 (by first | assumption | decide | omega)) fX7_3 dX7_move_72 ?_
                  refine gg_X8_places X ⟨by decide, by decide⟩ fX7_59 dX7_move_75 ?_
                  refine gG_top (nI (S.1 2)) (hPl) ?_
                  refine g_icmp_ne X 87 (by decide) dX7_move_78 (fun c55 => ?_) (fun c55 => ?_)
                  · refine g_aload_n X 1 rfl dX7_move_87 ?_
                    refine gg_X7_at X (gP_23 (by first | assumption | decide | omega)) fX7_19 dX7_move_88 ?_
                    refine g_iload X 0 rfl dX7_move_91 ?_
                    refine g_ialdN X (S.1 2 - 1 - (v + 1)) rfl (by omega) (by decide) (gP_25 (by first | assumption | decide | omega)) rfl dX7_move_93 ?_
                    by_cases hbl : v + 1 = lim
                    · obtain ⟨j, hj, hjat⟩ := hblk (by omega)
                      refine gG_top (nI j) (by rw [hbl]; exact hjat) ?_
                      refine g_iconst X (-1) (by decide) dX7_move_94 ?_
                      refine g_icmp_eq X 101 (by decide) dX7_move_95 (fun c56 => ?_) (fun c56 => ?_)
                      · first | exact absurd (nI_ne_m1 (by have := hn.2.2.2.2.2; omega)) c56 | exact absurd c56 (nI_ne_m1 (by have := hn.2.2.2.2.2; omega))
                      · refine g_goto X 111 (by decide) dX7_move_98 ?_
                        refine g_aload_n X 1 rfl dX7_move_111 ?_
                        refine gg_X7_at X (gP_23 (by first | assumption | decide | omega)) fX7_19 dX7_move_112 ?_
                        refine g_iload X 5 rfl dX7_move_115 ?_
                        refine g_iload_n X 2 rfl dX7_move_117 ?_
                        refine g_iastN X (S.1 2 - 1 - v) rfl (by omega) (by decide) (gP_25 (by first | assumption | decide | omega)) (fun _ => rfl) dX7_move_118 ?_
                        refine gG_nm (fun V57 hV57 => ?_)
                        refine g_aload_n X 1 rfl dX7_move_119 ?_
                        refine g_iload_n X 2 rfl dX7_move_120 ?_
                        refine g_bipush X 6 (by decide) dX7_move_121 ?_
                        refine g_iload X 5 rfl dX7_move_123 ?_
                        refine g_callV X hR (rest := []) mX7_set lX7_48 (k_set hI V57 k i 6 (nI (S.1 2 - 1 - v)) (by first | assumption | decide | omega) (by first | assumption | decide | omega) (by first | assumption | decide | omega)) rfl rfl (Nat.le_of_ble_eq_true rfl) (gP_23 (by first | assumption | decide | omega)) rfl rfl rfl ⟨Nat.le_of_ble_eq_true rfl, Nat.le_of_ble_eq_true rfl, Nat.le_of_ble_eq_true rfl, Nat.le_of_ble_eq_true rfl⟩ dX7_move_125 (fun r58 V59 hz_60 => ?_)
                        refine gG_rv hz_60.1 ?_
                        have hV59 := hz_60.2
                        refine gG_st [] rfl ?_
                        refine g_vret X F ?_ rfl dX7_move_128
                        have hgs := goStep_go (S := S) (i := i) (lim := lim) (v := v) (by clear h2 hblk; omega) hvp
                        rw [hgs]
                        refine ⟨rfl, ?_, ?_⟩
                        · rw [hV59, hV57, hV43]
                          exact ((stmod.rf.up (by decide) (by decide)).up (by decide) (by decide)).up (by decide) (by decide)
                        · rw [hV59, hV57, hV43]
                          refine hA.go hi h8 hapart v (S.1 2 - 1 - v) ?_ (fun j hj hj8 hji => ?_)
                          · have e1 : (sC S i 9 v).2.2.2.1 i 1 = S.1 1 := by simp [sC]; exact he
                            rw [sPos_of e1, if_neg hd0]
                            simp [sC]
                          · obtain ⟨hje, hjw⟩ := hon j hj hj8
                            rw [sPos_of hje, if_neg hd0]
                            have := h1 j hj hj8 hji
                            omega
                    · refine gG_top (-1) (hfree (v + 1) (by omega) (by omega) (by omega)) ?_
                      refine g_iconst X (-1) (by decide) dX7_move_94 ?_
                      refine g_icmp_eq X 101 (by decide) dX7_move_95 (fun c61 => ?_) (fun c61 => ?_)
                      · refine g_iload X 0 rfl dX7_move_101 ?_
                        refine g_istore X dX7_move_103 [(4, .int (nI (S.1 2 - 1 - (v + 1)))), (5, .int (nI (S.1 2 - 1 - (v + 1)))), (0, .ref (B.2.1 23 k 0)), (1, .int (nI i)), (2, .int ((-1))), (3, .int (nI (lf + 1)))] rfl (gnl_lt hnL (by decide)) ?_
                        refine g_iinc X 5 rfl (nI lf) (iinc_m1 lf) dX7_move_105 [(3, .int (nI lf)), (4, .int (nI (S.1 2 - 1 - (v + 1)))), (5, .int (nI (S.1 2 - 1 - (v + 1)))), (0, .ref (B.2.1 23 k 0)), (1, .int (nI i)), (2, .int ((-1)))] rfl (gnl_lt hnL (by decide)) ?_
                        refine g_goto X 54 (by decide) dX7_move_108 ?_
                        refine gG_L [3, 4, 5, 0, 1] (L' := [(0, .ref (B.2.1 23 k 0)), (1, .int (nI i)), (2, .int ((-1))), (3, .int (nI lf)), (4, .int (nI (S.1 2 - 1 - (v + 1))))]) rfl ?_
                        exact ih (v + 1) (by omega) (by omega) (by omega) (by omega)
                      ·  exact absurd c61 (by decide)
                  · first | exact absurd (fun z => absurd ((nI_eq (by omega) (by omega)).mp z) (by omega)) c55 | exact absurd c55 (fun z => absurd ((nI_eq (by omega) (by omega)).mp z) (by omega))
        exact loop (S.2.2.2.1 i 4) (S.2.2.2.1 i 9) rfl (Nat.le_refl _) hwp hlim
    ·  exact absurd c32 (by decide)

def bkStep (S : gSt) (i : Nat) : gSt := if S.2.2.2.1 i 9 = 0 then sQ (sC S i 8 0) (S.2.2.2.1 i 1) (i :: S.2.1 (S.2.2.2.1 i 1)) else sC S i 9 (S.2.2.2.1 i 9 - 1)

set_option maxRecDepth 20000 in
theorem k_moveBack {l : Launch} {B : gB} (hI : gI B) (V : gMem) (k : Nat) (S : gSt) (i : Nat) (hk : k < 2) (hA : AbsM V k S) (hn : sNumOk S) (hc : sCartOk S i) (hi : i < S.1 6) (h8 : S.2.2.2.1 i 8 = 1) (he : S.2.2.2.1 i 1 ≠ S.1 1) (hon : ∀ j, j < S.1 6 → S.2.2.2.1 j 8 = 1 → S.2.2.2.1 j 1 = S.2.2.2.1 i 1 ∧ S.2.2.2.1 j 9 < S.1 2) (hdi : ∀ j, j < S.1 6 → S.2.2.2.1 j 8 = 1 → j ≠ i → S.2.2.2.1 j 9 ≠ S.2.2.2.1 i 9) (hfr : ∀ j, j < S.1 6 → S.2.2.2.1 j 8 = 1 → j ≠ i → S.2.2.2.1 j 9 + 1 ≠ S.2.2.2.1 i 9) (hq : (S.2.1 (S.2.2.2.1 i 1)).length < 16) : gM l B yX7_move cX7_move 6 none rmX7_move [.ref (B.2.1 23 k 0), .int (nI i)] V (fun v V' => v = none ∧ stmod V V' k ∧ AbsM V' k (bkStep S i)) := by
  refine gM_of (own := RX7) (L := [(0, .ref (B.2.1 23 k 0)), (1, .int (nI i))]) (by decide +kernel) rfl hI (Nat.le_of_ble_eq_true rfl) rfl ?_
  intro Z hnL hR X F
  have hN : S.1 6 ≤ 16 := hn.2.2.2.2.2
  have hpl := hn.2.1
  have hdir := hn.1
  have hend := hc.1
  obtain ⟨-, hwp⟩ := hon i hi h8
  refine g_aload_n X 0 rfl dX7_move_0 ?_
  refine gg_X7_open X (gP_23 (by first | assumption | decide | omega)) fX7_38 dX7_move_1 ?_
  refine gG_top (nI (S.1 1)) (hA.1.2.1) ?_
  by_cases hd0 : S.1 1 = 0
  · refine gG_top 0 (by rw [hd0]; rfl) ?_
    have he1 : S.2.2.2.1 i 1 = 1 := by omega
    have hpos : sPos S i = S.1 2 - 1 - S.2.2.2.1 i 9 := sPos_1 he1
    refine g_if_ne X 11 (by decide) dX7_move_4 (fun c1 => ?_) (fun c1 => ?_)
    ·  exact absurd c1 (by decide)
    · refine g_iconst X 1 (by decide) dX7_move_7 ?_
      refine g_goto X 12 (by decide) dX7_move_8 ?_
      refine g_istore_n X rfl dX7_move_12 [(2, .int 1), (0, .ref (B.2.1 23 k 0)), (1, .int (nI i))] rfl (gnl_lt hnL (by decide)) ?_
      refine g_aload_n X 1 rfl dX7_move_13 ?_
      refine g_iload_n X 2 rfl dX7_move_14 ?_
      refine g_iconst X 4 (by decide) dX7_move_15 ?_
      refine g_callV X hR (rest := []) mX7_own lX7_52 (k_ownM hI V k S i 4 (by first | assumption | decide | omega) hA (by first | assumption | decide | omega) (by first | assumption | decide | omega) (by decide)) rfl rfl (Nat.le_of_ble_eq_true rfl) (gP_23 (by first | assumption | decide | omega)) rfl rfl rfl ⟨Nat.le_of_ble_eq_true rfl, Nat.le_of_ble_eq_true rfl, Nat.le_of_ble_eq_true rfl, Nat.le_of_ble_eq_true rfl⟩ dX7_move_16 (fun r2 V3 hz_4 => ?_)
      refine gG_ret hz_4.1 hz_4.2 ?_
      refine gG_st [.int (nI (S.2.2.2.1 i 1))] rfl ?_
      refine g_aload_n X 1 rfl dX7_move_19 ?_
      refine gg_X7_open X (gP_23 (by first | assumption | decide | omega)) fX7_38 dX7_move_20 ?_
      refine gG_top (nI (S.1 1)) (hA.1.2.1) ?_
      refine g_icmp_ne X 35 (by decide) dX7_move_23 (fun c5 => ?_) (fun c5 => ?_)
      · refine g_iconst X 1 (by decide) dX7_move_35 ?_
        refine g_istore_n X rfl dX7_move_36 [(3, .int 1), (2, .int 1), (0, .ref (B.2.1 23 k 0)), (1, .int (nI i))] rfl (gnl_lt hnL (by decide)) ?_
        refine g_aload_n X 2 rfl dX7_move_37 ?_
        refine g_iload_n X 3 rfl dX7_move_38 ?_
        refine g_bipush X 6 (by decide) dX7_move_39 ?_
        refine g_callV X hR (rest := []) mX7_own lX7_52 (k_ownM hI V k S i 6 (by first | assumption | decide | omega) hA (by first | assumption | decide | omega) (by first | assumption | decide | omega) (by decide)) rfl rfl (Nat.le_of_ble_eq_true rfl) (gP_23 (by first | assumption | decide | omega)) rfl rfl rfl ⟨Nat.le_of_ble_eq_true rfl, Nat.le_of_ble_eq_true rfl, Nat.le_of_ble_eq_true rfl, Nat.le_of_ble_eq_true rfl⟩ dX7_move_41 (fun r6 V7 hz_8 => ?_)
        refine gG_ret hz_8.1 hz_8.2 ?_
        refine gG_st [.int (sPlc S i)] rfl ?_
        refine gG_top (nI (S.1 2 - 1 - (S.2.2.2.1 i 9))) (by rw [sPlc_on h8, hpos]) ?_
        refine g_istore X dX7_move_44 [(4, .int (nI (S.1 2 - 1 - (S.2.2.2.1 i 9)))), (3, .int 1), (2, .int 1), (0, .ref (B.2.1 23 k 0)), (1, .int (nI i))] rfl (gnl_lt hnL (by decide)) ?_
        refine g_aload_n X 3 rfl dX7_move_46 ?_
        refine gg_X7_at X (gP_23 (by first | assumption | decide | omega)) fX7_19 dX7_move_47 ?_
        refine g_iload X 0 rfl dX7_move_50 ?_
        refine g_iconst X (-1) (by decide) dX7_move_52 ?_
        refine g_iastN X (S.1 2 - 1 - (S.2.2.2.1 i 9)) rfl (by omega) (by decide) (gP_25 (by first | assumption | decide | omega)) (fun _ => rfl) dX7_move_53 ?_
        refine gG_nm (fun V9 hV9 => ?_)
        rw [← hpos] at hV9
        have hPl : V9 20 0 0 4 = nI (S.1 2) := by rw [hV9, gup_ne (by simp)]; exact hA.2.2.2.2.2.1
        have hapart : Apart S i := fun j hj hj8 hji => by
          obtain ⟨hje, hjw⟩ := hon j hj hj8
          rw [sPos_of (hje.trans he1), hpos]
          have := hdi j hj hj8 hji
          rw [if_neg (by decide)]
          omega
        refine g_iload_n X 1 rfl dX7_move_54 ?_
        refine g_if_le X 111 (by decide) dX7_move_55 (fun c10 => ?_) (fun c10 => ?_)
        ·  exact absurd c10 (by decide)
        · refine g_iload X 0 rfl dX7_move_58 ?_
          refine g_iload_n X 2 rfl dX7_move_60 ?_
          refine g_iadd X dX7_move_61 ?_
          refine gG_top (nI ((S.1 2 - 1 - (S.2.2.2.1 i 9)) + 1)) (nI_1 _) ?_
          by_cases hz : S.2.2.2.1 i 9 = 0
          · refine gG_top (nI (S.1 2)) (by rw [hz, show S.1 2 - 1 - 0 + 1 = S.1 2 by omega]) ?_
            refine g_istore X dX7_move_62 [(5, .int (nI (S.1 2))), (4, .int (nI (S.1 2 - 1 - (S.2.2.2.1 i 9)))), (3, .int 1), (2, .int 1), (0, .ref (B.2.1 23 k 0)), (1, .int (nI i))] rfl (gnl_lt hnL (by decide)) ?_
            refine g_iload X 0 rfl dX7_move_64 ?_
            refine g_if_lt X 81 (by decide) dX7_move_66 (fun c11 => ?_) (fun c11 => ?_)
            · first | exact absurd (nI_pos (by omega)) c11 | exact absurd c11 (nI_pos (by omega))
            · refine g_iload X 0 rfl dX7_move_69 ?_
              refine g_aload_n X 4 rfl dX7_move_71 ?_
              refine gg_X7_this_0 X (gP_23 (by first | assumption | decide | omega)) fX7_3 dX7_move_72 ?_
              refine gg_X8_places X ⟨by decide, by decide⟩ fX7_59 dX7_move_75 ?_
              refine gG_top (nI (S.1 2)) (hPl) ?_
              refine g_icmp_ne X 87 (by decide) dX7_move_78 (fun c12 => ?_) (fun c12 => ?_)
              · first | exact absurd (fun z => z rfl) c12 | exact absurd c12 (fun z => z rfl)
              · refine g_aload_n X 4 rfl dX7_move_81 ?_
                refine g_iload_n X 5 rfl dX7_move_82 ?_
                refine g_callV X hR (rest := []) mX7_leave lX7_62 (k_leaveBack hI V9 k i (S.2.2.2.1 i 1) (S.1 1) (S.2.1 (S.2.2.2.1 i 1)) (by first | assumption | decide | omega) (by first | assumption | decide | omega) (by rw [hV9, gup_ne (by simp), hA.2.1 i hi 4 (by decide)]; rfl) (by rw [hV9, gup_ne (by simp)]; exact hA.1.2.1) (by first | assumption | decide | omega) (by first | assumption | decide | omega) (by first | assumption | decide | omega) (by have q := hA.2.2.2.1 (S.2.2.2.1 i 1) (by omega); rw [hV9]; exact ⟨by rw [gup_ne (by simp)]; exact q.1, q.2.1, fun j hj => by rw [gup_ne (by simp)]; exact q.2.2 j hj⟩) (by first | assumption | decide | omega)) rfl rfl (Nat.le_of_ble_eq_true rfl) (gP_23 (by first | assumption | decide | omega)) rfl rfl rfl ⟨Nat.le_of_ble_eq_true rfl, Nat.le_of_ble_eq_true rfl, Nat.le_of_ble_eq_true rfl, Nat.le_of_ble_eq_true rfl⟩ dX7_move_83 (fun r13 V14 hz_15 => ?_)
                refine gG_rv hz_15.1 ?_
                obtain ⟨-, XV14, hrowV14, hmodV14, hV14⟩ := hz_15
                refine gG_st [] rfl ?_
                refine g_vret X F ?_ rfl dX7_move_86
                rw [show bkStep S i = sQ (sC S i 8 0) (S.2.2.2.1 i 1) (i :: S.2.1 (S.2.2.2.1 i 1)) from if_pos hz]
                refine ⟨rfl, ?_, ?_⟩
                · rw [hV14]
                  refine (((?_ : stmod V XV14 k)).up (by decide) (by decide)).up (by decide) (by decide)
                  refine stmod.trans ?_ hmodV14.st
                  rw [hV9]
                  exact stmod.rf.up (by decide) (by decide)
                · rw [hV14]
                  exact hA.back hi h8 hapart (by omega) hrowV14 (by rw [← hV9]; exact hmodV14)
          · refine gG_top (nI (S.1 2 - 1 - (S.2.2.2.1 i 9 - 1))) (by rw [show S.1 2 - 1 - (S.2.2.2.1 i 9 - 1) = S.1 2 - 1 - S.2.2.2.1 i 9 + 1 by omega]) ?_
            refine g_istore X dX7_move_62 [(5, .int (nI (S.1 2 - 1 - (S.2.2.2.1 i 9 - 1)))), (4, .int (nI (S.1 2 - 1 - (S.2.2.2.1 i 9)))), (3, .int 1), (2, .int 1), (0, .ref (B.2.1 23 k 0)), (1, .int (nI i))] rfl (gnl_lt hnL (by decide)) ?_
            refine g_iload X 0 rfl dX7_move_64 ?_
            refine g_if_lt X 81 (by decide) dX7_move_66 (fun c16 => ?_) (fun c16 => ?_)
            · first | exact absurd (nI_pos (by omega)) c16 | exact absurd c16 (nI_pos (by omega))
            · refine g_iload X 0 rfl dX7_move_69 ?_
              refine g_aload_n X 4 rfl dX7_move_71 ?_
              refine gg_X7_this_0 X (gP_23 (by first | assumption | decide | omega)) fX7_3 dX7_move_72 ?_
              refine gg_X8_places X ⟨by decide, by decide⟩ fX7_59 dX7_move_75 ?_
              refine gG_top (nI (S.1 2)) (hPl) ?_
              refine g_icmp_ne X 87 (by decide) dX7_move_78 (fun c17 => ?_) (fun c17 => ?_)
              · refine g_aload_n X 4 rfl dX7_move_87 ?_
                refine gg_X7_at X (gP_23 (by first | assumption | decide | omega)) fX7_19 dX7_move_88 ?_
                refine g_iload X 0 rfl dX7_move_91 ?_
                refine g_ialdN X (S.1 2 - 1 - (S.2.2.2.1 i 9 - 1)) rfl (by omega) (by decide) (gP_25 (by first | assumption | decide | omega)) rfl dX7_move_93 ?_
                refine gG_top (-1) ?_ ?_
                · rw [hV9, gup_ne (by rw [hpos]; omega)]
                  refine hA.2.2.1.2 _ (by omega) (fun j hj hj8 => ?_)
                  obtain ⟨hje, hjw⟩ := hon j hj hj8
                  rw [sPos_of (hje.trans he1), if_neg (by decide)]
                  by_cases hji : j = i
                  · subst hji; omega
                  · have := hfr j hj hj8 hji; omega
                refine g_iconst X (-1) (by decide) dX7_move_94 ?_
                refine g_icmp_eq X 101 (by decide) dX7_move_95 (fun c18 => ?_) (fun c18 => ?_)
                · refine g_iload X 0 rfl dX7_move_101 ?_
                  refine g_istore X dX7_move_103 [(4, .int (nI (S.1 2 - 1 - (S.2.2.2.1 i 9 - 1)))), (5, .int (nI (S.1 2 - 1 - (S.2.2.2.1 i 9 - 1)))), (3, .int 1), (2, .int 1), (0, .ref (B.2.1 23 k 0)), (1, .int (nI i))] rfl (gnl_lt hnL (by decide)) ?_
                  refine g_iinc X 2 rfl (0) (by decide) dX7_move_105 [(3, .int 0), (4, .int (nI (S.1 2 - 1 - (S.2.2.2.1 i 9 - 1)))), (5, .int (nI (S.1 2 - 1 - (S.2.2.2.1 i 9 - 1)))), (2, .int 1), (0, .ref (B.2.1 23 k 0)), (1, .int (nI i))] rfl (gnl_lt hnL (by decide)) ?_
                  refine g_goto X 54 (by decide) dX7_move_108 ?_
                  refine g_iload_n X 0 rfl dX7_move_54 ?_
                  refine g_if_le X 111 (by decide) dX7_move_55 (fun c19 => ?_) (fun c19 => ?_)
                  · refine g_aload_n X 4 rfl dX7_move_111 ?_
                    refine gg_X7_at X (gP_23 (by first | assumption | decide | omega)) fX7_19 dX7_move_112 ?_
                    refine g_iload X 1 rfl dX7_move_115 ?_
                    refine g_iload_n X 5 rfl dX7_move_117 ?_
                    refine g_iastN X (S.1 2 - 1 - (S.2.2.2.1 i 9 - 1)) rfl (by omega) (by decide) (gP_25 (by first | assumption | decide | omega)) (fun _ => rfl) dX7_move_118 ?_
                    refine gG_nm (fun V20 hV20 => ?_)
                    refine g_aload_n X 4 rfl dX7_move_119 ?_
                    refine g_iload_n X 5 rfl dX7_move_120 ?_
                    refine g_bipush X 6 (by decide) dX7_move_121 ?_
                    refine g_iload X 1 rfl dX7_move_123 ?_
                    refine g_callV X hR (rest := []) mX7_set lX7_48 (k_set hI V20 k i 6 (nI (S.1 2 - 1 - (S.2.2.2.1 i 9 - 1))) (by first | assumption | decide | omega) (by first | assumption | decide | omega) (by first | assumption | decide | omega)) rfl rfl (Nat.le_of_ble_eq_true rfl) (gP_23 (by first | assumption | decide | omega)) rfl rfl rfl ⟨Nat.le_of_ble_eq_true rfl, Nat.le_of_ble_eq_true rfl, Nat.le_of_ble_eq_true rfl, Nat.le_of_ble_eq_true rfl⟩ dX7_move_125 (fun r21 V22 hz_23 => ?_)
                    refine gG_rv hz_23.1 ?_
                    have hV22 := hz_23.2
                    refine gG_st [] rfl ?_
                    refine g_vret X F ?_ rfl dX7_move_128
                    rw [show bkStep S i = sC S i 9 (S.2.2.2.1 i 9 - 1) from if_neg hz]
                    refine ⟨rfl, ?_, ?_⟩
                    · rw [hV22, hV20, hV9]
                      exact ((stmod.rf.up (by decide) (by decide)).up (by decide) (by decide)).up (by decide) (by decide)
                    · rw [hV22, hV20, hV9]
                      refine hA.go hi h8 hapart (S.2.2.2.1 i 9 - 1) (S.1 2 - 1 - (S.2.2.2.1 i 9 - 1)) ?_ (fun j hj hj8 hji => ?_)
                      · have e1 : (sC S i 9 (S.2.2.2.1 i 9 - 1)).2.2.2.1 i 1 = 1 := by simp [sC]; exact he1
                        rw [sPos_of e1]
                        simp [sC]
                      · obtain ⟨hje, hjw⟩ := hon j hj hj8
                        rw [sPos_of (hje.trans he1), if_neg (by decide)]
                        have := hfr j hj hj8 hji
                        omega
                  ·  exact absurd c19 (by decide)
                ·  exact absurd c18 (by decide)
              · first | exact absurd (fun z => absurd ((nI_eq (by omega) (by omega)).mp z) (by omega)) c17 | exact absurd c17 (fun z => absurd ((nI_eq (by omega) (by omega)).mp z) (by omega))
      · first | exact absurd (fun q => he ((nI_eq (by omega) (by omega)).mp q)) c5 | exact absurd c5 (fun q => he ((nI_eq (by omega) (by omega)).mp q))
  · have hd1 : S.1 1 = 1 := by omega
    refine gG_top 1 (by rw [hd1]; rfl) ?_
    have he1 : S.2.2.2.1 i 1 = 0 := by omega
    have hpos : sPos S i = S.2.2.2.1 i 9 := sPos_0 he1
    refine g_if_ne X 11 (by decide) dX7_move_4 (fun c24 => ?_) (fun c24 => ?_)
    · refine g_iconst X (-1) (by decide) dX7_move_11 ?_
      refine g_istore_n X rfl dX7_move_12 [(2, .int ((-1))), (0, .ref (B.2.1 23 k 0)), (1, .int (nI i))] rfl (gnl_lt hnL (by decide)) ?_
      refine g_aload_n X 1 rfl dX7_move_13 ?_
      refine g_iload_n X 2 rfl dX7_move_14 ?_
      refine g_iconst X 4 (by decide) dX7_move_15 ?_
      refine g_callV X hR (rest := []) mX7_own lX7_52 (k_ownM hI V k S i 4 (by first | assumption | decide | omega) hA (by first | assumption | decide | omega) (by first | assumption | decide | omega) (by decide)) rfl rfl (Nat.le_of_ble_eq_true rfl) (gP_23 (by first | assumption | decide | omega)) rfl rfl rfl ⟨Nat.le_of_ble_eq_true rfl, Nat.le_of_ble_eq_true rfl, Nat.le_of_ble_eq_true rfl, Nat.le_of_ble_eq_true rfl⟩ dX7_move_16 (fun r25 V26 hz_27 => ?_)
      refine gG_ret hz_27.1 hz_27.2 ?_
      refine gG_st [.int (nI (S.2.2.2.1 i 1))] rfl ?_
      refine g_aload_n X 1 rfl dX7_move_19 ?_
      refine gg_X7_open X (gP_23 (by first | assumption | decide | omega)) fX7_38 dX7_move_20 ?_
      refine gG_top (nI (S.1 1)) (hA.1.2.1) ?_
      refine g_icmp_ne X 35 (by decide) dX7_move_23 (fun c28 => ?_) (fun c28 => ?_)
      · refine g_iconst X 1 (by decide) dX7_move_35 ?_
        refine g_istore_n X rfl dX7_move_36 [(3, .int 1), (2, .int ((-1))), (0, .ref (B.2.1 23 k 0)), (1, .int (nI i))] rfl (gnl_lt hnL (by decide)) ?_
        refine g_aload_n X 2 rfl dX7_move_37 ?_
        refine g_iload_n X 3 rfl dX7_move_38 ?_
        refine g_bipush X 6 (by decide) dX7_move_39 ?_
        refine g_callV X hR (rest := []) mX7_own lX7_52 (k_ownM hI V k S i 6 (by first | assumption | decide | omega) hA (by first | assumption | decide | omega) (by first | assumption | decide | omega) (by decide)) rfl rfl (Nat.le_of_ble_eq_true rfl) (gP_23 (by first | assumption | decide | omega)) rfl rfl rfl ⟨Nat.le_of_ble_eq_true rfl, Nat.le_of_ble_eq_true rfl, Nat.le_of_ble_eq_true rfl, Nat.le_of_ble_eq_true rfl⟩ dX7_move_41 (fun r29 V30 hz_31 => ?_)
        refine gG_ret hz_31.1 hz_31.2 ?_
        refine gG_st [.int (sPlc S i)] rfl ?_
        refine gG_top (nI (S.2.2.2.1 i 9)) (by rw [sPlc_on h8, hpos]) ?_
        refine g_istore X dX7_move_44 [(4, .int (nI (S.2.2.2.1 i 9))), (3, .int 1), (2, .int ((-1))), (0, .ref (B.2.1 23 k 0)), (1, .int (nI i))] rfl (gnl_lt hnL (by decide)) ?_
        refine g_aload_n X 3 rfl dX7_move_46 ?_
        refine gg_X7_at X (gP_23 (by first | assumption | decide | omega)) fX7_19 dX7_move_47 ?_
        refine g_iload X 0 rfl dX7_move_50 ?_
        refine g_iconst X (-1) (by decide) dX7_move_52 ?_
        refine g_iastN X ((S.2.2.2.1 i 9)) rfl (by omega) (by decide) (gP_25 (by first | assumption | decide | omega)) (fun _ => rfl) dX7_move_53 ?_
        refine gG_nm (fun V32 hV32 => ?_)
        rw [← hpos] at hV32
        have hPl : V32 20 0 0 4 = nI (S.1 2) := by rw [hV32, gup_ne (by simp)]; exact hA.2.2.2.2.2.1
        have hapart : Apart S i := fun j hj hj8 hji => by
          obtain ⟨hje, hjw⟩ := hon j hj hj8
          rw [sPos_of (hje.trans he1), hpos]
          have := hdi j hj hj8 hji
          rw [if_pos rfl]
          omega
        refine g_iload_n X 1 rfl dX7_move_54 ?_
        refine g_if_le X 111 (by decide) dX7_move_55 (fun c33 => ?_) (fun c33 => ?_)
        ·  exact absurd c33 (by decide)
        · refine g_iload X 0 rfl dX7_move_58 ?_
          refine g_iload_n X 2 rfl dX7_move_60 ?_
          refine g_iadd X dX7_move_61 ?_
          by_cases hz : S.2.2.2.1 i 9 = 0
          · refine gG_top (-1) (by rw [hz]; decide) ?_
            refine g_istore X dX7_move_62 [(5, .int ((-1))), (4, .int (nI (S.2.2.2.1 i 9))), (3, .int 1), (2, .int ((-1))), (0, .ref (B.2.1 23 k 0)), (1, .int (nI i))] rfl (gnl_lt hnL (by decide)) ?_
            refine g_iload X 0 rfl dX7_move_64 ?_
            refine g_if_lt X 81 (by decide) dX7_move_66 (fun c34 => ?_) (fun c34 => ?_)
            · refine g_aload_n X 4 rfl dX7_move_81 ?_
              refine g_iload_n X 5 rfl dX7_move_82 ?_
              refine g_callV X hR (rest := []) mX7_leave lX7_62 (k_leaveBack hI V32 k i (S.2.2.2.1 i 1) (S.1 1) (S.2.1 (S.2.2.2.1 i 1)) (by first | assumption | decide | omega) (by first | assumption | decide | omega) (by rw [hV32, gup_ne (by simp), hA.2.1 i hi 4 (by decide)]; rfl) (by rw [hV32, gup_ne (by simp)]; exact hA.1.2.1) (by first | assumption | decide | omega) (by first | assumption | decide | omega) (by first | assumption | decide | omega) (by have q := hA.2.2.2.1 (S.2.2.2.1 i 1) (by omega); rw [hV32]; exact ⟨by rw [gup_ne (by simp)]; exact q.1, q.2.1, fun j hj => by rw [gup_ne (by simp)]; exact q.2.2 j hj⟩) (by first | assumption | decide | omega)) rfl rfl (Nat.le_of_ble_eq_true rfl) (gP_23 (by first | assumption | decide | omega)) rfl rfl rfl ⟨Nat.le_of_ble_eq_true rfl, Nat.le_of_ble_eq_true rfl, Nat.le_of_ble_eq_true rfl, Nat.le_of_ble_eq_true rfl⟩ dX7_move_83 (fun r35 V36 hz_37 => ?_)
              refine gG_rv hz_37.1 ?_
              obtain ⟨-, XV36, hrowV36, hmodV36, hV36⟩ := hz_37
              refine gG_st [] rfl ?_
              refine g_vret X F ?_ rfl dX7_move_86
              rw [show bkStep S i = sQ (sC S i 8 0) (S.2.2.2.1 i 1) (i :: S.2.1 (S.2.2.2.1 i 1)) from if_pos hz]
              refine ⟨rfl, ?_, ?_⟩
              · rw [hV36]
                refine (((?_ : stmod V XV36 k)).up (by decide) (by decide)).up (by decide) (by decide)
                refine stmod.trans ?_ hmodV36.st
                rw [hV32]
                exact stmod.rf.up (by decide) (by decide)
              · rw [hV36]
                exact hA.back hi h8 hapart (by omega) hrowV36 (by rw [← hV32]; exact hmodV36)
            ·  exact absurd c34 (by decide)
          · refine gG_top (nI (S.2.2.2.1 i 9 - 1)) (sb_m1 (by omega)) ?_
            refine g_istore X dX7_move_62 [(5, .int (nI (S.2.2.2.1 i 9 - 1))), (4, .int (nI (S.2.2.2.1 i 9))), (3, .int 1), (2, .int ((-1))), (0, .ref (B.2.1 23 k 0)), (1, .int (nI i))] rfl (gnl_lt hnL (by decide)) ?_
            refine g_iload X 0 rfl dX7_move_64 ?_
            refine g_if_lt X 81 (by decide) dX7_move_66 (fun c38 => ?_) (fun c38 => ?_)
            · first | exact absurd (nI_pos (by omega)) c38 | exact absurd c38 (nI_pos (by omega))
            · refine g_iload X 0 rfl dX7_move_69 ?_
              refine g_aload_n X 4 rfl dX7_move_71 ?_
              refine gg_X7_this_0 X (gP_23 (by first | assumption | decide | omega)) fX7_3 dX7_move_72 ?_
              refine gg_X8_places X ⟨by decide, by decide⟩ fX7_59 dX7_move_75 ?_
              refine gG_top (nI (S.1 2)) (hPl) ?_
              refine g_icmp_ne X 87 (by decide) dX7_move_78 (fun c39 => ?_) (fun c39 => ?_)
              · refine g_aload_n X 4 rfl dX7_move_87 ?_
                refine gg_X7_at X (gP_23 (by first | assumption | decide | omega)) fX7_19 dX7_move_88 ?_
                refine g_iload X 0 rfl dX7_move_91 ?_
                refine g_ialdN X ((S.2.2.2.1 i 9 - 1)) rfl (by omega) (by decide) (gP_25 (by first | assumption | decide | omega)) rfl dX7_move_93 ?_
                refine gG_top (-1) ?_ ?_
                · rw [hV32, gup_ne (by rw [hpos]; omega)]
                  refine hA.2.2.1.2 _ (by omega) (fun j hj hj8 => ?_)
                  obtain ⟨hje, hjw⟩ := hon j hj hj8
                  rw [sPos_of (hje.trans he1), if_pos rfl]
                  by_cases hji : j = i
                  · subst hji; omega
                  · have := hfr j hj hj8 hji; omega
                refine g_iconst X (-1) (by decide) dX7_move_94 ?_
                refine g_icmp_eq X 101 (by decide) dX7_move_95 (fun c40 => ?_) (fun c40 => ?_)
                · refine g_iload X 0 rfl dX7_move_101 ?_
                  refine g_istore X dX7_move_103 [(4, .int (nI (S.2.2.2.1 i 9 - 1))), (5, .int (nI (S.2.2.2.1 i 9 - 1))), (3, .int 1), (2, .int ((-1))), (0, .ref (B.2.1 23 k 0)), (1, .int (nI i))] rfl (gnl_lt hnL (by decide)) ?_
                  refine g_iinc X 2 rfl (0) (by decide) dX7_move_105 [(3, .int 0), (4, .int (nI (S.2.2.2.1 i 9 - 1))), (5, .int (nI (S.2.2.2.1 i 9 - 1))), (2, .int ((-1))), (0, .ref (B.2.1 23 k 0)), (1, .int (nI i))] rfl (gnl_lt hnL (by decide)) ?_
                  refine g_goto X 54 (by decide) dX7_move_108 ?_
                  refine g_iload_n X 0 rfl dX7_move_54 ?_
                  refine g_if_le X 111 (by decide) dX7_move_55 (fun c41 => ?_) (fun c41 => ?_)
                  · refine g_aload_n X 4 rfl dX7_move_111 ?_
                    refine gg_X7_at X (gP_23 (by first | assumption | decide | omega)) fX7_19 dX7_move_112 ?_
                    refine g_iload X 1 rfl dX7_move_115 ?_
                    refine g_iload_n X 5 rfl dX7_move_117 ?_
                    refine g_iastN X ((S.2.2.2.1 i 9 - 1)) rfl (by omega) (by decide) (gP_25 (by first | assumption | decide | omega)) (fun _ => rfl) dX7_move_118 ?_
                    refine gG_nm (fun V42 hV42 => ?_)
                    refine g_aload_n X 4 rfl dX7_move_119 ?_
                    refine g_iload_n X 5 rfl dX7_move_120 ?_
                    refine g_bipush X 6 (by decide) dX7_move_121 ?_
                    refine g_iload X 1 rfl dX7_move_123 ?_
                    refine g_callV X hR (rest := []) mX7_set lX7_48 (k_set hI V42 k i 6 (nI (S.2.2.2.1 i 9 - 1)) (by first | assumption | decide | omega) (by first | assumption | decide | omega) (by first | assumption | decide | omega)) rfl rfl (Nat.le_of_ble_eq_true rfl) (gP_23 (by first | assumption | decide | omega)) rfl rfl rfl ⟨Nat.le_of_ble_eq_true rfl, Nat.le_of_ble_eq_true rfl, Nat.le_of_ble_eq_true rfl, Nat.le_of_ble_eq_true rfl⟩ dX7_move_125 (fun r43 V44 hz_45 => ?_)
                    refine gG_rv hz_45.1 ?_
                    have hV44 := hz_45.2
                    refine gG_st [] rfl ?_
                    refine g_vret X F ?_ rfl dX7_move_128
                    rw [show bkStep S i = sC S i 9 (S.2.2.2.1 i 9 - 1) from if_neg hz]
                    refine ⟨rfl, ?_, ?_⟩
                    · rw [hV44, hV42, hV32]
                      exact ((stmod.rf.up (by decide) (by decide)).up (by decide) (by decide)).up (by decide) (by decide)
                    · rw [hV44, hV42, hV32]
                      refine hA.go hi h8 hapart (S.2.2.2.1 i 9 - 1) ((S.2.2.2.1 i 9 - 1)) ?_ (fun j hj hj8 hji => ?_)
                      · have e1 : (sC S i 9 (S.2.2.2.1 i 9 - 1)).2.2.2.1 i 1 = 0 := by simp [sC]; exact he1
                        rw [sPos_of e1]
                        simp [sC]
                      · obtain ⟨hje, hjw⟩ := hon j hj hj8
                        rw [sPos_of (hje.trans he1), if_pos rfl]
                        have := hfr j hj hj8 hji
                        omega
                  ·  exact absurd c41 (by decide)
                ·  exact absurd c40 (by decide)
              · first | exact absurd (fun z => absurd ((nI_eq (by omega) (by omega)).mp z) (by omega)) c39 | exact absurd c39 (fun z => absurd ((nI_eq (by omega) (by omega)).mp z) (by omega))
      · first | exact absurd (fun q => he ((nI_eq (by omega) (by omega)).mp q)) c28 | exact absurd c28 (fun q => he ((nI_eq (by omega) (by omega)).mp q))
    ·  exact absurd c24 (by decide)

