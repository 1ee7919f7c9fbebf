/-! THE LAW'S LOOP -/
theorem law_gt {L t : Nat} (h : t = L / 7) (hL : L ≤ 3584) : nI L - 7 < nI (7 * t) := by
  by_cases h7 : L < 7
  · have ht : t = 0 := by omega
    subst ht
    exact pk_sneg (a := L) (b := 7) (by decide) h7
  · rw [show nI L - 7 = nI (L - 7) from pk_sub (a := L) (b := 7) (by omega)]
    exact nI_lt (by omega) (by omega)
theorem law_le {L t : Nat} (h : 7 * t + 7 ≤ L) (hL : L ≤ 3584) : ¬ nI L - 7 < nI (7 * t) := by
  rw [show nI L - 7 = nI (L - 7) from pk_sub (a := L) (b := 7) (by omega)]
  exact nI_nlt (by omega) (by omega)
set_option maxRecDepth 20000 in
set_option maxHeartbeats 1000000 in
theorem law_loop {Z : gZ} {B : gB} {b L : Nat} {xs : Nat → Int32} (X : gX Z B cL_law RL) (T : gTL Z B) (hR : gRm Z = room_1) (hnL : gnL Z = 9) (SC : gSC Z B b L xs) (h0 : B.2.2.2.2 = 0) (hL : L ≤ 3584) {c0 s0 : Nat} (hc0 : c0 + 12 * 513 ≤ 601024) (hs0 : s0 + 130 * 513 ≤ 7293034)
    (fin : ∀ (V' : gMem) (z' : Int64) (n' : Nat × Nat) (L' : List (Nat × Value)), n'.1 ≤ 601024 → n'.2 ≤ 7293034 → gG Z (gOut B z') n' V' 1353 L' []) :
    ∀ (f t : Nat) (V : gMem) (w : gWd) (z : Int64), t + f = L / 7 → vOk w → COk V w → MOk V w → N15 V → w.1.1 0 ≤ 200 * t → gG Z (gOut B z) (c0 + 12 * t, s0 + 130 * t) V 23 [(0, .ref b), (1, .ref (B.2.1 0 0 0)), (2, .ref (B.2.1 20 0 0)), (3, .ref (B.2.1 28 0 0)), (4, .int (nI (7 * t)))] [] := by
  intro f
  induction f with
  | zero =>
    intro t V w z htf hv hQ hM hN htk
    have X1 := gX_out (z := z) X
    have SC1 := gSC_out (z := z) SC
    refine g_iload X1 4 rfl dL_law_23 ?_
    refine g_aload_n X1 0 rfl dL_law_25 ?_
    refine g_slen X1 SC1 dL_law_26 ?_
    refine g_bipush X1 7 (by decide) dL_law_27 ?_
    refine g_isub X1 dL_law_29 ?_
    exact g_icmp_gt X1 1353 (by decide) dL_law_30 (fun _ => fin _ _ _ _ (by show c0 + 12 * t ≤ 601024; omega) (by show s0 + 130 * t ≤ 7293034; omega)) (fun h => absurd (law_gt (by omega) hL) h)
  | succ f ih =>
    intro t V w z htf hv hQ hM hN htk
    have X1 := gX_out (z := z) X
    have T1 := gTL_out (z := z) T
    have SC1 := gSC_out (z := z) SC
    have ht : 7 * t + 7 ≤ L := by omega
    have h12 : (c0 + 12 * t, s0 + 130 * t).1 + 12 ≤ 601024 := by show c0 + 12 * t + 12 ≤ 601024; omega
    have h130 : (c0 + 12 * t, s0 + 130 * t).2 + 130 ≤ 7293034 := by show s0 + 130 * t + 130 ≤ 7293034; omega
    have h20 : w.1.1 0 < 2 ^ 20 := by omega
    have cont : lawK Z (gOut B z) (c0 + 12 * t, s0 + 130 * t) b t w := by
      intro V' w' z' hv' hQ' hM' hN' ht'
      have X2 := gX_out (z := z') X
      show gG Z (gOut B z') (c0 + 12 * t + 12, s0 + 130 * t + 130) V' 1347 [(0, .ref b), (1, .ref (B.2.1 0 0 0)), (2, .ref (B.2.1 20 0 0)), (3, .ref (B.2.1 28 0 0)), (4, .int (nI (7 * t)))] []
      refine g_iinc X2 4 rfl (nI (7 * (t + 1))) (by rw [show Int32.ofInt 7 = nI 7 from by decide, nI_add, Nat.mul_succ]) dL_law_1347 [(4, .int (nI (7 * (t + 1)))), (0, .ref b), (1, .ref (B.2.1 0 0 0)), (2, .ref (B.2.1 20 0 0)), (3, .ref (B.2.1 28 0 0))] rfl (gnl_lt hnL (by decide)) ?_
      refine g_goto X2 23 (by decide) dL_law_1350 ?_
      refine gG_L [1, 2, 3, 4, 0] (L' := [(0, .ref b), (1, .ref (B.2.1 0 0 0)), (2, .ref (B.2.1 20 0 0)), (3, .ref (B.2.1 28 0 0)), (4, .int (nI (7 * (t + 1))))]) rfl ?_
      refine gG_n (c0 + 12 * (t + 1), s0 + 130 * (t + 1)) (by rw [Nat.mul_succ, Nat.mul_succ, Nat.add_assoc, Nat.add_assoc]) ?_
      exact ih (t + 1) V' w' z' (by omega) hv' hQ' hM' hN' (by omega)
    refine g_iload X1 4 rfl dL_law_23 ?_
    refine g_aload_n X1 0 rfl dL_law_25 ?_
    refine g_slen X1 SC1 dL_law_26 ?_
    refine g_bipush X1 7 (by decide) dL_law_27 ?_
    refine g_isub X1 dL_law_29 ?_
    refine g_icmp_gt X1 1353 (by decide) dL_law_30 (fun h => absurd h (law_le ht hL)) (fun _ => ?_)
    refine g_aload_n X1 0 rfl dL_law_33 ?_
    refine g_iload X1 4 rfl dL_law_34 ?_
    refine g_sld X1 SC1 (7 * t) rfl (by omega) (by omega) dL_law_36 ?_
    refine g_bipush X1 31 (by decide) dL_law_37 ?_
    refine g_iand X1 dL_law_39 ?_
    obtain ⟨j, hj, hje⟩ := pk_andE (xs (7 * t)) (m := 31) 5 (by decide)
    refine gG_top (nI j) hje ?_
    have hj : j < 32 := hj
    rcases (show j = 0 ∨ j = 1 ∨ j = 2 ∨ j = 3 ∨ j = 4 ∨ j = 5 ∨ j = 6 ∨ j = 7 ∨ j = 8 ∨ j = 9 ∨ j = 10 ∨ j = 11 ∨ j = 12 ∨ j = 13 ∨ j = 14 ∨ j = 15 ∨ j = 16 ∨ j = 17 ∨ j = 18 ∨ j = 19 ∨ j = 20 ∨ 21 ≤ j by omega) with rfl | rfl | rfl | rfl | rfl | rfl | rfl | rfl | rfl | rfl | rfl | rfl | rfl | rfl | rfl | rfl | rfl | rfl | rfl | rfl | rfl | h21
    · refine g_tableIn X1 100 140 (by decide) (by decide) (by decide) (by decide) dL_law_40 ?_
      exact law_addSignal X1 T1 hR hnL SC1 h0 ht hL h12 h130 hv hQ hM hN h20 cont
    · refine g_tableIn X1 156 196 (by decide) (by decide) (by decide) (by decide) dL_law_40 ?_
      exact law_read X1 T1 hR hnL SC1 h0 ht hL h12 h130 hv hQ hM hN h20 cont
    · refine g_tableIn X1 224 264 (by decide) (by decide) (by decide) (by decide) dL_law_40 ?_
      exact law_heard X1 T1 hR hnL SC1 h0 ht hL h12 h130 hv hQ hM hN h20 cont
    · refine g_tableIn X1 280 320 (by decide) (by decide) (by decide) (by decide) dL_law_40 ?_
      exact law_safe X1 T1 hR hnL SC1 h0 ht hL h12 h130 hv hQ hM hN h20 cont
    · refine g_tableIn X1 336 376 (by decide) (by decide) (by decide) (by decide) dL_law_40 ?_
      exact law_rows X1 T1 hR hnL SC1 h0 ht hL h12 h130 hv hQ hM hN h20 cont
    · refine g_tableIn X1 392 432 (by decide) (by decide) (by decide) (by decide) dL_law_40 ?_
      exact law_setFog X1 T1 hR hnL SC1 h0 ht hL h12 h130 hv hQ hM hN h20 cont
    · refine g_tableIn X1 460 500 (by decide) (by decide) (by decide) (by decide) dL_law_40 ?_
      exact law_rebuild X1 T1 hR hnL SC1 h0 ht hL h12 h130 hv hQ hM hN h20 cont
    · refine g_tableIn X1 528 568 (by decide) (by decide) (by decide) (by decide) dL_law_40 ?_
      exact law_setToll X1 T1 hR hnL SC1 h0 ht hL h12 h130 hv hQ hM hN h20 cont
    · refine g_tableIn X1 596 636 (by decide) (by decide) (by decide) (by decide) dL_law_40 ?_
      exact law_change X1 T1 hR hnL SC1 h0 ht hL h12 h130 hv hQ hM hN h20 cont
    · refine g_tableIn X1 609 649 (by decide) (by decide) (by decide) (by decide) dL_law_40 ?_
      exact law_come X1 T1 hR hnL SC1 h0 ht hL h12 h130 hv hQ hM hN h20 cont
    · refine g_tableIn X1 743 783 (by decide) (by decide) (by decide) (by decide) dL_law_40 ?_
      exact law_cart X1 T1 hR hnL SC1 h0 ht hL h12 h130 hv hQ hM hN h20 cont
    · refine g_tableIn X1 811 851 (by decide) (by decide) (by decide) (by decide) dL_law_40 ?_
      exact law_queue X1 T1 hR hnL SC1 h0 ht hL h12 h130 hv hQ hM hN h20 cont
    · refine g_tableIn X1 879 919 (by decide) (by decide) (by decide) (by decide) dL_law_40 ?_
      exact law_box X1 T1 hR hnL SC1 h0 ht hL h12 h130 hv hQ hM hN h20 cont
    · refine g_tableIn X1 947 987 (by decide) (by decide) (by decide) (by decide) dL_law_40 ?_
      exact law_empty X1 T1 hR hnL SC1 h0 ht hL h12 h130 hv hQ hM hN h20 cont
    · refine g_tableIn X1 1003 1043 (by decide) (by decide) (by decide) (by decide) dL_law_40 ?_
      exact law_pass X1 T1 hR hnL SC1 h0 ht hL h12 h130 hv hQ hM hN h20 cont
    · refine g_tableIn X1 1059 1099 (by decide) (by decide) (by decide) (by decide) dL_law_40 ?_
      exact law_count X1 T1 hR hnL SC1 h0 ht hL h12 h130 hv hQ hM hN h20 cont
    · refine g_tableIn X1 1115 1155 (by decide) (by decide) (by decide) (by decide) dL_law_40 ?_
      exact law_over X1 T1 hR hnL SC1 h0 ht hL h12 h130 hv hQ hM hN h20 cont
    · refine g_tableIn X1 1171 1211 (by decide) (by decide) (by decide) (by decide) dL_law_40 ?_
      exact law_keep X1 T1 hR hnL SC1 h0 ht hL h12 h130 hv hQ hM hN h20 cont
    · refine g_tableIn X1 1184 1224 (by decide) (by decide) (by decide) (by decide) dL_law_40 ?_
      exact law_foresee X1 T1 hR hnL SC1 h0 ht hL h12 h130 hv hQ hM hN h20 cont
    · refine g_tableIn X1 1252 1292 (by decide) (by decide) (by decide) (by decide) dL_law_40 ?_
      exact law_mean X1 T1 hR hnL SC1 h0 ht hL h12 h130 hv hQ hM hN h20 cont
    · refine g_tableIn X1 1293 1333 (by decide) (by decide) (by decide) (by decide) dL_law_40 ?_
      exact law_digest X1 T1 hR hnL SC1 h0 ht hL h12 h130 hv hQ hM hN h20 cont
    · refine g_tableOut X1 1347 (Or.inr (by rw [nI_toInt (by omega)]; omega)) (by decide) dL_law_40 ?_
      refine g_widen (c0 + 12 * t + 12, s0 + 130 * t + 130) (by show c0 + 12 * t ≤ c0 + 12 * t + 12; omega) (by show s0 + 130 * t ≤ s0 + 130 * t + 130; omega) ?_
      exact cont V w z hv hQ hM hN (by omega)

