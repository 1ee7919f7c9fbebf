/-! a cart comes: what must be so behind it, on both sides -/
theorem AbsC.new {V V' : gMem} {S : gSt} {e ax wt pc cn ch : Nat} (h : AbsC V 0 S) (hn : S.1 6 < 16) (h6 : V' 10 0 0 6 = nI (S.1 6 + 1)) (h10 : ∀ k, k < 6 → V' 10 0 0 k = V 10 0 0 k) (hr : RowIs V' 0 e (S.2.1 e ++ [S.1 6])) (hro : ∀ r, r < 3 → r ≠ e → V' 13 0 r = V 13 0 r ∧ V' 14 0 r = V 14 0 r)
    (h12 : ∀ x, x < 2 → V' 12 0 x = V 12 0 x) (hc : ∀ k, 1 ≤ k → k ≤ 9 → V' 15 0 (S.1 6) k = nI (nwC e ax wt pc cn ch k)) (h1 : V' 15 0 (S.1 6) 10 = -1) (h0 : V' 15 0 (S.1 6) 0 = nI (S.1 6)) (ho : ∀ i, i ≠ S.1 6 → V' 15 0 i = V 15 0 i) : AbsC V' 0 (sNew S e ax wt pc cn ch) := by
  refine ⟨fun k hk => ?_, fun r hr3 => ?_, fun x hx k k1 k2 => ?_, fun i hi k k1 k2 => ?_, fun i hi => ?_, fun i hi => ?_, fun h00 i hi1 hi2 => ?_⟩
  · show _ = nI (if k = 6 then S.1 6 + 1 else S.1 k)
    by_cases hk6 : k = 6
    · rw [hk6, if_pos rfl]; exact h6
    · rw [if_neg hk6, h10 k (by omega)]; exact h.1 k hk
  · show RowIs V' 0 r (if r = e then S.2.1 e ++ [S.1 6] else S.2.1 r)
    by_cases hre : r = e
    · rw [if_pos hre, hre]; exact hr
    · rw [if_neg hre]; exact (h.2.1 r hr3).same (hro r hr3 hre).1 (hro r hr3 hre).2
  · rw [h12 x hx]; exact h.2.2.1 x hx k k1 k2
  · have hi : i < S.1 6 + 1 := hi
    show _ = nI (if i = S.1 6 then nwC e ax wt pc cn ch k else S.2.2.2.1 i k)
    by_cases hin : i = S.1 6
    · rw [hin, if_pos rfl]; exact hc k k1 k2
    · rw [if_neg hin, ho i hin]; exact h.2.2.2.1 i (by omega) k k1 k2
  · have hi : i < S.1 6 + 1 := hi
    show _ = (if i = S.1 6 then -1 else S.2.2.2.2 i)
    by_cases hin : i = S.1 6
    · rw [hin, if_pos rfl]; exact h1
    · rw [if_neg hin, ho i hin]; exact h.2.2.2.2.1 i (by omega)
  · by_cases hin : i = S.1 6
    · rw [hin]; exact h0
    · rw [ho i hin]; exact h.2.2.2.2.2.1 i hi
  · have hi1 : S.1 6 + 1 ≤ i := hi1
    have hin : i ≠ S.1 6 := by omega
    rw [ho i hin]
    have q := h.2.2.2.2.2.2 rfl i (by omega) hi2
    refine ⟨fun k k1 k2 => ?_, ?_⟩
    · show _ = nI (if i = S.1 6 then nwC e ax wt pc cn ch k else S.2.2.2.1 i k)
      rw [if_neg hin]; exact q.1 k k1 k2
    · show _ = (if i = S.1 6 then -1 else S.2.2.2.2 i)
      rw [if_neg hin]; exact q.2
def nwM (e ax wt pc cn ch f : Nat) : Int32 := match f with
  | 0 => nI ax
  | 1 => nI wt
  | 2 => nI pc
  | 3 => nI cn
  | 4 => nI e
  | 5 => 0
  | 6 => -1
  | 7 => nI ch
  | 8 => -1
  | _ => 0
theorem AbsM.new {V V' : gMem} {S : gSt} {e ax wt pc cn ch : Nat} (h : AbsM V 0 S) (hw : WF S) (hn : S.1 6 < 16) (he : e < 2) (h23 : V' 23 0 0 0 = V 23 0 0 0 ∧ V' 23 0 0 1 = V 23 0 0 1 ∧ V' 23 0 0 2 = nI (S.1 6 + 1)) (hc : ∀ f, f < 10 → V' 24 0 0 (10 * S.1 6 + f) = nwM e ax wt pc cn ch f) (ho : ∀ j, ¬ (10 * S.1 6 ≤ j ∧ j < 10 * S.1 6 + 10) → V' 24 0 0 j = V 24 0 0 j)
    (h25 : V' 25 0 0 = V 25 0 0) (hr : RowM V' 0 e (S.2.1 e ++ [S.1 6])) (hro : ∀ x, x < 2 → x ≠ e → RowM V' 0 x (S.2.1 x)) (h27 : ∀ x, x < 2 → V' 27 0 0 (5 * x) = V 27 0 0 (5 * x) ∧ V' 27 0 0 (5 * x + 1) = V 27 0 0 (5 * x + 1) ∧ V' 27 0 0 (5 * x + 2) = V 27 0 0 (5 * x + 2) ∧ V' 27 0 0 (5 * x + 4) = V 27 0 0 (5 * x + 4)) (h20 : ∀ j, 4 ≤ j → V' 20 0 0 j = V 20 0 0 j) : AbsM V' 0 (sNew S e ax wt pc cn ch) := by
  have co : ∀ i, i ≠ S.1 6 → ∀ k, (sNew S e ax wt pc cn ch).2.2.2.1 i k = S.2.2.2.1 i k := fun i hi k => if_neg hi
  have c8 : (sNew S e ax wt pc cn ch).2.2.2.1 (S.1 6) 8 = 0 := if_pos rfl
  have n2 : (sNew S e ax wt pc cn ch).1 2 = S.1 2 := rfl
  have hps : ∀ i, i ≠ S.1 6 → sPos (sNew S e ax wt pc cn ch) i = sPos S i := fun i hi => by unfold sPos; rw [co i hi, co i hi, n2]
  have hpl : ∀ i, i ≠ S.1 6 → sPlc (sNew S e ax wt pc cn ch) i = sPlc S i := fun i hi => by unfold sPlc; rw [co i hi, co i hi, co i hi, n2]
  refine ⟨⟨h23.1.trans h.1.1, h23.2.1.trans h.1.2.1, h23.2.2⟩, fun i hi f hf => ?_, ⟨fun i hi h8 => ?_, fun p hp hno => ?_⟩, fun x hx => ?_, fun x hx => ?_, ?_⟩
  · have hi : i < S.1 6 + 1 := hi
    by_cases hin : i = S.1 6
    · subst hin
      rw [hc f hf]
      rcases (show f = 0 ∨ f = 1 ∨ f = 2 ∨ f = 3 ∨ f = 4 ∨ f = 5 ∨ f = 6 ∨ f = 7 ∨ f = 8 ∨ f = 9 by omega) with rfl | rfl | rfl | rfl | rfl | rfl | rfl | rfl | rfl | rfl
      all_goals first
        | (simp [mF, nwM, sNew, nwC]; done)
        | (show (0 : Int32) = nI (if S.1 6 = S.1 6 then _ else _); rw [if_pos rfl]; exact nI_0.symm)
        | (simp only [mF, nwM]; rw [sPlc_off (by rw [c8]; decide)]; done)
    · rw [ho _ (by omega), h.2.1 i (by omega) f hf]
      have oo : (sNew S e ax wt pc cn ch).2.2.2.2 i = S.2.2.2.2 i := if_neg hin
      unfold mF
      split <;> first | rw [co i hin] | exact (hpl i hin).symm | exact oo.symm
  · have hi : i < S.1 6 + 1 := hi
    have hin : i ≠ S.1 6 := fun q => by rw [q, c8] at h8; cases h8
    rw [co i hin] at h8
    rw [hps i hin, h25]
    exact h.2.2.1.1 i (by omega) h8
  · rw [h25]
    refine h.2.2.1.2 p hp (fun i hi h8 => ?_)
    have hin : i ≠ S.1 6 := by omega
    rw [← hps i hin]
    exact hno i (show i < S.1 6 + 1 by omega) (by rw [co i hin]; exact h8)
  · show RowM V' 0 x (if x = e then S.2.1 e ++ [S.1 6] else S.2.1 x)
    by_cases hxe : x = e
    · rw [if_pos hxe, hxe]; exact hr
    · rw [if_neg hxe]; exact hro x hx hxe
  · obtain ⟨a, b, c, d⟩ := h27 x hx
    obtain ⟨p, q, r, s⟩ := h.2.2.2.2.1 x hx
    exact ⟨a.trans p, b.trans q, c.trans r, d.trans s⟩
  · obtain ⟨a, b, c, d⟩ := h.2.2.2.2.2
    refine ⟨?_, ?_, ?_, ?_⟩
    · rw [h20 4 (by decide), a, n2]
    · rw [h20 5 (by decide), b]; rfl
    · rw [h20 6 (by decide), c]; rfl
    · rw [h20 7 (by decide), d]; rfl

