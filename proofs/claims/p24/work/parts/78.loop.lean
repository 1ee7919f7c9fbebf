/-! THE LAW'S LOOP, whole -/
theorem law_CD {Z : gZ} {B : gB} {b L : Nat} {xs : Nat → Int32} (X : gX Z B cL_law RL) (SC : gSC Z B b L xs) (hR : gRm Z = room_1) (hnL : gnL Z = 33) (hown : B.2.2.2.2 = 4) (hLb : L ≤ 260) {nc ns : Nat} (hnc : nc ≤ 600074) (hns : ns ≤ 7301550) {V : gMem} {w : gWd} {a : Nat → Nat → Int32} {c0 : Nat → Nat} {tk al t N P Q : Nat} (hL : gLS V w a) (hw : wOk w) (hI9 : LI c0 tk w.1) (hN : w.1.1 6 = N) (hP : w.1.1 2 = P) (hQ : w.1.1 3 = Q) (hT : w.1.1 0 ≤ 64) (hc0 : ∀ i, i < N → c0 i ≤ 100) (hal : al = sumN c0 N) {S0 : gSt} (hS0 : ∀ i, i < N → S0.2.2.2.1 i 8 ≤ 3 ∧ S0.2.2.2.1 i 5 ≤ 100) (hR9 : ∀ i, i < N → (1 < S0.2.2.2.1 i 8 → w.1.2.2.2.1 i 8 = S0.2.2.2.1 i 8) ∧ (S0.2.2.2.1 i 5 ≠ c0 i → w.1.2.2.2.1 i 5 = S0.2.2.2.1 i 5))
    (hA0 : ∀ i, i < N → a 0 i = nI (c0 i)) (hA1 : ∀ i, i < N → a 1 i = nI (S0.2.2.2.1 i 8) ∧ a 2 i = nI (S0.2.2.2.1 i 5)) (hA3 : ∀ k, a 3 k = 0)
    (cont : ∀ (V : gMem) (a : Nat → Nat → Int32), gLS V w a → (∀ i, i < N → a 0 i = nI (c0 i)) → (∀ i, i < N → a 1 i = nI (w.1.2.2.2.1 i 8) ∧ a 2 i = nI (w.1.2.2.2.1 i 5)) → gG Z B (nc, ns) V 1084 [(0, .ref b), (1, .ref (B.2.1 0 0 0)), (2, .int (nI N)), (3, .int (nI P)), (4, .int (nI Q)), (5, .ref (B.2.1 29 0 0)), (6, .int (nI al)), (7, .ref (B.2.1 29 1 0)), (8, .ref (B.2.1 29 2 0)), (9, .int (nI tk)), (10, .int (nI t))] []) : gG Z B (nc, ns) V 508 [(0, .ref b), (1, .ref (B.2.1 0 0 0)), (2, .int (nI N)), (3, .int (nI P)), (4, .int (nI Q)), (5, .ref (B.2.1 29 0 0)), (6, .int (nI al)), (7, .ref (B.2.1 29 1 0)), (8, .ref (B.2.1 29 2 0)), (9, .int (nI tk)), (10, .int (nI t)), (22, .int (nI (w.1.1 1)))] [.ref (B.2.1 29 3 0)] := by
  refine g_astore X dL_law_508 [(23, .ref (B.2.1 29 3 0)), (0, .ref b), (1, .ref (B.2.1 0 0 0)), (2, .int (nI N)), (3, .int (nI P)), (4, .int (nI Q)), (5, .ref (B.2.1 29 0 0)), (6, .int (nI al)), (7, .ref (B.2.1 29 1 0)), (8, .ref (B.2.1 29 2 0)), (9, .int (nI tk)), (10, .int (nI t)), (22, .int (nI (w.1.1 1)))] rfl (gnl_lt hnL (by decide)) ?_
  refine g_iconst X (nI 0) (by decide) dL_law_510 ?_
  refine g_istore X dL_law_511 [(24, .int (nI 0)), (23, .ref (B.2.1 29 3 0)), (0, .ref b), (1, .ref (B.2.1 0 0 0)), (2, .int (nI N)), (3, .int (nI P)), (4, .int (nI Q)), (5, .ref (B.2.1 29 0 0)), (6, .int (nI al)), (7, .ref (B.2.1 29 1 0)), (8, .ref (B.2.1 29 2 0)), (9, .int (nI tk)), (10, .int (nI t)), (22, .int (nI (w.1.1 1)))] rfl (gnl_lt hnL (by decide)) ?_
  refine g_iconst X (nI 0) (by decide) dL_law_513 ?_
  refine g_istore X dL_law_514 [(25, .int (nI 0)), (24, .int (nI 0)), (23, .ref (B.2.1 29 3 0)), (0, .ref b), (1, .ref (B.2.1 0 0 0)), (2, .int (nI N)), (3, .int (nI P)), (4, .int (nI Q)), (5, .ref (B.2.1 29 0 0)), (6, .int (nI al)), (7, .ref (B.2.1 29 1 0)), (8, .ref (B.2.1 29 2 0)), (9, .int (nI tk)), (10, .int (nI t)), (22, .int (nI (w.1.1 1)))] rfl (gnl_lt hnL (by decide)) ?_
  refine g_iconst X (nI 0) (by decide) dL_law_516 ?_
  refine g_istore X dL_law_517 [(26, .int (nI 0)), (25, .int (nI 0)), (24, .int (nI 0)), (23, .ref (B.2.1 29 3 0)), (0, .ref b), (1, .ref (B.2.1 0 0 0)), (2, .int (nI N)), (3, .int (nI P)), (4, .int (nI Q)), (5, .ref (B.2.1 29 0 0)), (6, .int (nI al)), (7, .ref (B.2.1 29 1 0)), (8, .ref (B.2.1 29 2 0)), (9, .int (nI tk)), (10, .int (nI t)), (22, .int (nI (w.1.1 1)))] rfl (gnl_lt hnL (by decide)) ?_
  refine g_iconst X (nI 0) (by decide) dL_law_519 ?_
  refine g_istore X dL_law_520 [(27, .int (nI 0)), (26, .int (nI 0)), (25, .int (nI 0)), (24, .int (nI 0)), (23, .ref (B.2.1 29 3 0)), (0, .ref b), (1, .ref (B.2.1 0 0 0)), (2, .int (nI N)), (3, .int (nI P)), (4, .int (nI Q)), (5, .ref (B.2.1 29 0 0)), (6, .int (nI al)), (7, .ref (B.2.1 29 1 0)), (8, .ref (B.2.1 29 2 0)), (9, .int (nI tk)), (10, .int (nI t)), (22, .int (nI (w.1.1 1)))] rfl (gnl_lt hnL (by decide)) ?_
  refine g_iconst X (nI 0) (by decide) dL_law_522 ?_
  refine g_istore X dL_law_523 [(28, .int (nI 0)), (27, .int (nI 0)), (26, .int (nI 0)), (25, .int (nI 0)), (24, .int (nI 0)), (23, .ref (B.2.1 29 3 0)), (0, .ref b), (1, .ref (B.2.1 0 0 0)), (2, .int (nI N)), (3, .int (nI P)), (4, .int (nI Q)), (5, .ref (B.2.1 29 0 0)), (6, .int (nI al)), (7, .ref (B.2.1 29 1 0)), (8, .ref (B.2.1 29 2 0)), (9, .int (nI tk)), (10, .int (nI t)), (22, .int (nI (w.1.1 1)))] rfl (gnl_lt hnL (by decide)) ?_
  refine gG_L [6, 7, 8, 9, 10, 11, 12, 13, 14, 15, 16, 17, 5, 4, 3, 2, 1, 0] (L' := [(0, .ref b), (1, .ref (B.2.1 0 0 0)), (2, .int (nI N)), (3, .int (nI P)), (4, .int (nI Q)), (5, .ref (B.2.1 29 0 0)), (6, .int (nI al)), (7, .ref (B.2.1 29 1 0)), (8, .ref (B.2.1 29 2 0)), (9, .int (nI tk)), (10, .int (nI t)), (22, .int (nI (w.1.1 1))), (23, .ref (B.2.1 29 3 0)), (24, .int (nI 0)), (25, .int (nI 0)), (26, .int (nI 0)), (27, .int (nI 0)), (28, .int (nI 0))]) rfl ?_
  refine gG_Le [(0, .ref b), (1, .ref (B.2.1 0 0 0)), (2, .int (nI N)), (3, .int (nI P)), (4, .int (nI Q)), (5, .ref (B.2.1 29 0 0)), (6, .int (nI al)), (7, .ref (B.2.1 29 1 0)), (8, .ref (B.2.1 29 2 0)), (9, .int (nI tk)), (10, .int (nI t)), (22, .int (nI (w.1.1 1))), (23, .ref (B.2.1 29 3 0)), (24, .int (nI (msk w.1 0))), (25, .int (nI (wSm w.1 0))), (26, .int (nI (bk w.1 0))), (27, .int (nI (cSm w.1 0))), (28, .int (nI 0))] rfl ?_
  exact law_C X SC hR hnL hown hLb hnc hns hw hI9 hN hP hQ hT hc0 hS0 hR9 (fun V a hL hAR => law_D X SC hR hnL hown hLb hnc hns hL hw hI9 hN hP hQ hal hAR.2.2 (fun V hL => cont V a hL hAR.1 (fun i hi => by have z := hAR.2.1 i hi; rw [if_pos hi] at z; exact z))) N 0 V a (Nat.zero_add N) hL ⟨hA0, fun i hi => by rw [if_neg (Nat.not_lt_zero i)]; exact hA1 i hi, fun k hk => by rw [hA3]; exact rfl⟩

theorem sTick_k {S : gSt} (h : WF S) {k : Nat} (hk : k ≠ 0) : (sTick S).1.1 k = S.1 k := by
  show (if k = 0 then _ else (sCome (sMove S).1).1 k) = _
  rw [if_neg hk, sCome_num, sMove_num h]
theorem sTick_0t {S : gSt} (h : WF S) : (sTick S).1.1 0 = S.1 0 + 1 := by
  have h0 : (sTick S).1.1 0 = (sCome (sMove S).1).1 0 + 1 := rfl
  rw [h0, sCome_num, sMove_num h]
set_option maxRecDepth 20000 in
theorem law_loop {Z : gZ} {B : gB} {b L : Nat} {xs : Nat → Int32} (X : gX Z B cL_law RL) (SC : gSC Z B b L xs) (hR : gRm Z = room_1) (hnL : gnL Z = 33) (hown : B.2.2.2.2 = 3) (hLb : L ≤ 260) {cb sb : Nat} (hc1 : cb + 41 ≤ 600074) (hs1 : sb + 164 ≤ 7301550) {c0 : Nat → Nat} {al N P Q : Nat} (h1N : 1 ≤ N) (hc0 : ∀ i, i < N → c0 i ≤ 100) (hal : al = sumN c0 N)
    (fin : ∀ (V : gMem) (n : Nat × Nat) (L' : List (Nat × Value)), n.1 ≤ 600074 → n.2 ≤ 7301550 → gG Z B n V 1090 L' []) :
    ∀ (f t : Nat) (V : gMem) (w : gWd) (a : Nat → Nat → Int32) (tk : Nat), t + f = 40 → gLS V w a → wOk w → LI c0 tk w.1 → w.1.1 6 = N → w.1.1 2 = P → w.1.1 3 = Q → w.1.1 0 = t → (∀ i, i < N → a 0 i = nI (c0 i)) → (∀ i, i < N → a 1 i = nI (w.1.2.2.2.1 i 8) ∧ a 2 i = nI (w.1.2.2.2.1 i 5)) → gG Z B (cb + t, sb + 4 * t) V 94 [(0, .ref b), (1, .ref (B.2.1 0 0 0)), (2, .int (nI N)), (3, .int (nI P)), (4, .int (nI Q)), (5, .ref (B.2.1 29 0 0)), (6, .int (nI al)), (7, .ref (B.2.1 29 1 0)), (8, .ref (B.2.1 29 2 0)), (9, .int (nI tk)), (10, .int (nI t))] [] := by
  intro f
  induction f with
  | zero =>
    intro t V w a tk htf hL hw hI9 hN hP hQ hT hA0 hA1
    refine g_iload X 10 rfl dL_law_94 ?_
    refine g_bipush X (nI 40) (by decide) dL_law_96 ?_
    refine g_icmp_ge X 1090 (by decide) dL_law_98 (fun c1 => ?_) (fun c1 => ?_)
    · exact fin _ _ _ (by show cb + t ≤ 600074; omega) (by show sb + 4 * t ≤ 7301550; omega)
    · first | exact absurd (nI_le (by omega) (by omega)) c1 | exact absurd c1 (nI_le (by omega) (by omega))
  | succ f ih =>
    intro t V w a tk htf hL hw hI9 hN hP hQ hT hA0 hA1
    have hnc : cb + t ≤ 600074 := by omega
    have hns : sb + 4 * t ≤ 7301550 := by omega
    have hI := gX_I X
    refine law_A X SC hR hnL hown hLb hnc hns hL hw hI9 hN hP hQ hT (by omega) (fun V1 w1 tk1 x hL1 hw1 hI1 hC1 hN1 hP1 hQ1 hT1 => ?_)
    refine law_B (c0 := c0) X SC hR hnL hown hLb hnc hns hL1 hw1 hN1 hP1 hQ1 (by omega) h1N (fun V2 w2 hL2 hw2 hS2 => ?_)
    have hN2 : w2.1.1 6 = N := by rw [hS2, sTick_k hw1.1 (by decide)]; exact hN1
    have hP2 : w2.1.1 2 = P := by rw [hS2, sTick_k hw1.1 (by decide)]; exact hP1
    have hQ2 : w2.1.1 3 = Q := by rw [hS2, sTick_k hw1.1 (by decide)]; exact hQ1
    have hT2 : w2.1.1 0 = t + 1 := by rw [hS2, sTick_0t hw1.1, hT1]
    have hI2 : LI c0 tk1 w2.1 := by rw [hS2]; exact hI1.tick hw1.1
    have hS0 : ∀ i, i < N → w1.1.2.2.2.1 i 8 ≤ 3 ∧ w1.1.2.2.2.1 i 5 ≤ 100 := fun i hi => ⟨(hw1.1.2.1 i (by omega)).2.2.2.2.2.2.2, (hw1.1.2.1 i (by omega)).2.2.2.2.1⟩
    have hR9 : ∀ i, i < N → (1 < w1.1.2.2.2.1 i 8 → w2.1.2.2.2.1 i 8 = w1.1.2.2.2.1 i 8) ∧ (w1.1.2.2.2.1 i 5 ≠ c0 i → w2.1.2.2.2.1 i 5 = w1.1.2.2.2.1 i 5) := by
      intro i hi
      have z := (tick_keeps hw1.1) i (by omega)
      rw [hS2]
      exact ⟨z.1, fun q => z.2 (fun y => q ((hI1.2.1 i (by omega)).2.1 y))⟩
    refine g_aload_n X 1 rfl dL_law_497 ?_
    refine g_bipush X (nI 7) (by decide) dL_law_498 ?_
    refine g_callV X hR (rest := []) mX6_count lL_36 (c_count hI V2 w2 a 7 hL2 hw2 (by first | assumption | decide | omega)) rfl rfl (Nat.le_of_ble_eq_true rfl) ⟨by decide, by decide⟩ rfl rfl rfl ⟨Nat.le_of_ble_eq_true rfl, Nat.le_of_ble_eq_true rfl, hnc, hns⟩ dL_law_500 (fun r1 V2 hz_3 => ?_)
    refine gG_rv hz_3.1 ?_
    have hL4 := hz_3.2
    refine gG_n (cb + t, sb + 4 * t) rfl ?_
    refine gG_st [.int (nI (w2.1.1 1))] rfl ?_
    refine g_istore X dL_law_503 [(22, .int (nI (w2.1.1 1))), (0, .ref b), (1, .ref (B.2.1 0 0 0)), (2, .int (nI N)), (3, .int (nI P)), (4, .int (nI Q)), (5, .ref (B.2.1 29 0 0)), (6, .int (nI al)), (7, .ref (B.2.1 29 1 0)), (8, .ref (B.2.1 29 2 0)), (9, .int (nI tk1)), (10, .int (nI t))] rfl (gnl_lt hnL (by decide)) ?_
    refine g_iconst X (nI 4) (by decide) dL_law_505 ?_
    refine g_newS X hR 4 rfl (by rw [hown]; rfl) (by decide) ⟨by show cb + t + 1 ≤ 600074; omega, by show sb + 4 * t + 4 ≤ 7301550; omega⟩ dL_law_506 (fun ad had X4 => ?_)
    rw [hown]
    have SC4 := SC.s had
    have hown4 : (gBs B ad).2.2.2.2 = 4 := by show B.2.2.2.2 + 1 = 4; rw [hown]
    have hL4 : gLS (gzf V2 3 (fun _ => 0)) w2 (arow a 3 (fun _ => 0)) := hL4.row 3 _
    have e0 : (gBs B ad).2.1 0 0 0 = B.2.1 0 0 0 := gBs_off B ad (fun q => absurd q.1 (by decide))
    have e1 : (gBs B ad).2.1 29 0 0 = B.2.1 29 0 0 := gBs_off B ad (by rw [hown]; decide)
    have e2 : (gBs B ad).2.1 29 1 0 = B.2.1 29 1 0 := gBs_off B ad (by rw [hown]; decide)
    have e3 : (gBs B ad).2.1 29 2 0 = B.2.1 29 2 0 := gBs_off B ad (by rw [hown]; decide)
    have e4 : (gBs B ad).2.1 29 3 0 = ad := by have z := gBs_new B ad 0; rw [hown] at z; exact z
    refine gG_n (cb + t + 1, sb + 4 * t + 4) rfl ?_
    refine gG_L [1, 2, 3, 4, 5, 6, 7, 8, 9, 10, 11, 0] (L' := [(0, .ref b), (1, .ref (B.2.1 0 0 0)), (2, .int (nI N)), (3, .int (nI P)), (4, .int (nI Q)), (5, .ref (B.2.1 29 0 0)), (6, .int (nI al)), (7, .ref (B.2.1 29 1 0)), (8, .ref (B.2.1 29 2 0)), (9, .int (nI tk1)), (10, .int (nI t)), (22, .int (nI (w2.1.1 1)))]) rfl ?_
    refine gG_Le [(0, .ref b), (1, .ref ((gBs B ad).2.1 0 0 0)), (2, .int (nI N)), (3, .int (nI P)), (4, .int (nI Q)), (5, .ref ((gBs B ad).2.1 29 0 0)), (6, .int (nI al)), (7, .ref ((gBs B ad).2.1 29 1 0)), (8, .ref ((gBs B ad).2.1 29 2 0)), (9, .int (nI tk1)), (10, .int (nI t)), (22, .int (nI (w2.1.1 1)))] (by rw [e0, e1, e2, e3]) ?_
    refine gG_st [.ref ((gBs B ad).2.1 29 3 0)] (by rw [e4]) ?_
    refine law_CD (S0 := w1.1) X4 SC4 hR hnL hown4 hLb (by omega) (by omega) hL4 hw2 hI2 hN2 hP2 hQ2 (by rw [hT2]; omega) hc0 hal hS0 hR9 hA0 (fun i hi => ⟨by rw [hC1]; exact (hA1 i hi).1, by rw [hC1]; exact (hA1 i hi).2⟩) (fun k => rfl) (fun V5 a5 hL5 hB0 hB1 => ?_)
    refine gG_Le [(0, .ref b), (1, .ref (B.2.1 0 0 0)), (2, .int (nI N)), (3, .int (nI P)), (4, .int (nI Q)), (5, .ref (B.2.1 29 0 0)), (6, .int (nI al)), (7, .ref (B.2.1 29 1 0)), (8, .ref (B.2.1 29 2 0)), (9, .int (nI tk1)), (10, .int (nI t))] (by rw [e0, e1, e2, e3]) ?_
    refine g_drop had ?_
    refine g_iinc X 10 rfl (nI (t + 1)) (iinc_1 _) dL_law_1084 [(10, .int (nI (t + 1))), (0, .ref b), (1, .ref (B.2.1 0 0 0)), (2, .int (nI N)), (3, .int (nI P)), (4, .int (nI Q)), (5, .ref (B.2.1 29 0 0)), (6, .int (nI al)), (7, .ref (B.2.1 29 1 0)), (8, .ref (B.2.1 29 2 0)), (9, .int (nI tk1))] rfl (gnl_lt hnL (by decide)) ?_
    refine g_goto X 94 (by decide) dL_law_1087 ?_
    refine gG_L [1, 2, 3, 4, 5, 6, 7, 8, 9, 10, 0] (L' := [(0, .ref b), (1, .ref (B.2.1 0 0 0)), (2, .int (nI N)), (3, .int (nI P)), (4, .int (nI Q)), (5, .ref (B.2.1 29 0 0)), (6, .int (nI al)), (7, .ref (B.2.1 29 1 0)), (8, .ref (B.2.1 29 2 0)), (9, .int (nI tk1)), (10, .int (nI (t + 1)))]) rfl ?_
    exact ih (t + 1) V5 w2 a5 tk1 (by omega) hL5 hw2 hI2 hN2 hP2 hQ2 hT2 hB0 hB1
