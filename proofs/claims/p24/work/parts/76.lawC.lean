/-! THE LAW'S LOOP, C: the carts, one by one -/
theorem m1_lt {n : Nat} (hn : n < 2 ^ 31) : (-1 : Int32) < nI n := Int32.lt_of_lt_of_le (by decide) (nI_pos' hn)
/-- the law's own rows behind c carts: coins at first, how they are, what they had, how many are how -/
def cAR (c0 : Nat → Nat) (S0 S : gSt) (N c : Nat) (a : Nat → Nat → Int32) : Prop :=
  (∀ i, i < N → a 0 i = nI (c0 i)) ∧ (∀ i, i < N → a 1 i = nI ((if i < c then S else S0).2.2.2.1 i 8) ∧ a 2 i = nI ((if i < c then S else S0).2.2.2.1 i 5)) ∧ ∀ k, k < 4 → a 3 k = nI (stc S k c)
theorem cAR.pre {c0 : Nat → Nat} {S0 S : gSt} {N c : Nat} {a : Nat → Nat → Int32} (h : cAR c0 S0 S N c a) (hc : c < N) (k : Nat) (x : Int32) : (∀ i, i < N → (aup a 3 k x) 0 i = nI (c0 i)) ∧ (aup a 3 k x) 1 c = nI (S0.2.2.2.1 c 8) ∧ (aup a 3 k x) 2 c = nI (S0.2.2.2.1 c 5) := by
  have h1 := h.2.1 c hc
  rw [if_neg (Nat.lt_irrefl c)] at h1
  exact ⟨h.1, h1.1, h1.2⟩
theorem cAR.step {c0 : Nat → Nat} {S0 S : gSt} {N c : Nat} {a : Nat → Nat → Int32} (h : cAR c0 S0 S N c a) (hc : c < N) (h4 : S.2.2.2.1 c 8 < 4) : cAR c0 S0 S N (c + 1) (aup (aup (aup a 3 (S.2.2.2.1 c 8) (nI (stc S (S.2.2.2.1 c 8) c + 1))) 2 c (nI (S.2.2.2.1 c 5))) 1 c (nI (S.2.2.2.1 c 8))) := by
  refine ⟨h.1, fun i hi => ⟨?_, ?_⟩, fun k hk => ?_⟩
  · show (if i = c then nI (S.2.2.2.1 c 8) else a 1 i) = _
    by_cases hic : i = c
    · subst hic
      rw [if_pos rfl, if_pos (Nat.lt_succ_self i)]
    · rw [if_neg hic, (h.2.1 i hi).1]
      by_cases hlt : i < c
      · rw [if_pos hlt, if_pos (by omega)]
      · rw [if_neg hlt, if_neg (by omega)]
  · show (if i = c then nI (S.2.2.2.1 c 5) else a 2 i) = _
    by_cases hic : i = c
    · subst hic
      rw [if_pos rfl, if_pos (Nat.lt_succ_self i)]
    · rw [if_neg hic, (h.2.1 i hi).2]
      by_cases hlt : i < c
      · rw [if_pos hlt, if_pos (by omega)]
      · rw [if_neg hlt, if_neg (by omega)]
  · show (if k = S.2.2.2.1 c 8 then nI (stc S (S.2.2.2.1 c 8) c + 1) else a 3 k) = _
    rw [stc_s]
    by_cases hkc : k = S.2.2.2.1 c 8
    · rw [if_pos hkc, if_pos hkc.symm, hkc]
    · rw [if_neg hkc, if_neg (fun q => hkc q.symm), h.2.2 k hk]; rfl
set_option maxRecDepth 20000 in
set_option maxHeartbeats 4000000 in
theorem law_C {Z : gZ} {B : gB} {b L : Nat} {xs : Nat → Int32} (X : gX Z B cL_law RL) (SC : gSC Z B b L xs) (hR : gRm Z = room_1) (hnL : gnL Z = 33) (hown : B.2.2.2.2 = 4) (hLb : L ≤ 260) {nc ns : Nat} (hnc : nc ≤ 600074) (hns : ns ≤ 7301550) {w : gWd} {c0 : Nat → Nat} {tk al t N P Q : Nat} (hw : wOk w) (hI9 : LI c0 tk w.1) (hN : w.1.1 6 = N) (hP : w.1.1 2 = P) (hQ : w.1.1 3 = Q) (hT : w.1.1 0 ≤ 64) (hc0 : ∀ i, i < N → c0 i ≤ 100) {S0 : gSt} (hS0 : ∀ i, i < N → S0.2.2.2.1 i 8 ≤ 3 ∧ S0.2.2.2.1 i 5 ≤ 100) (hR9 : ∀ i, i < N → (1 < S0.2.2.2.1 i 8 → w.1.2.2.2.1 i 8 = S0.2.2.2.1 i 8) ∧ (S0.2.2.2.1 i 5 ≠ c0 i → w.1.2.2.2.1 i 5 = S0.2.2.2.1 i 5))
    (cont : ∀ (V : gMem) (a : Nat → Nat → Int32), gLS V w a → cAR c0 S0 w.1 N N a → gG Z B (nc, ns) V 817 [(0, .ref b), (1, .ref (B.2.1 0 0 0)), (2, .int (nI N)), (3, .int (nI P)), (4, .int (nI Q)), (5, .ref (B.2.1 29 0 0)), (6, .int (nI al)), (7, .ref (B.2.1 29 1 0)), (8, .ref (B.2.1 29 2 0)), (9, .int (nI tk)), (10, .int (nI t)), (22, .int (nI (w.1.1 1))), (23, .ref (B.2.1 29 3 0)), (24, .int (nI (msk w.1 N))), (25, .int (nI (wSm w.1 N))), (26, .int (nI (bk w.1 N))), (27, .int (nI (cSm w.1 N))), (28, .int (nI N))] []) :
    ∀ (f c : Nat) (V : gMem) (a : Nat → Nat → Int32), c + f = N → gLS V w a → cAR c0 S0 w.1 N c a → gG Z B (nc, ns) V 525 [(0, .ref b), (1, .ref (B.2.1 0 0 0)), (2, .int (nI N)), (3, .int (nI P)), (4, .int (nI Q)), (5, .ref (B.2.1 29 0 0)), (6, .int (nI al)), (7, .ref (B.2.1 29 1 0)), (8, .ref (B.2.1 29 2 0)), (9, .int (nI tk)), (10, .int (nI t)), (22, .int (nI (w.1.1 1))), (23, .ref (B.2.1 29 3 0)), (24, .int (nI (msk w.1 c))), (25, .int (nI (wSm w.1 c))), (26, .int (nI (bk w.1 c))), (27, .int (nI (cSm w.1 c))), (28, .int (nI c))] [] := by
  have hI := gX_I X
  have h16 := hw.n16
  have hP3 := hw.1.1.2.1
  intro f
  induction f with
  | zero =>
      intro c V a hcf hL hAR
      obtain rfl : c = N := by omega
      refine g_iload X 17 rfl dL_law_525 ?_
      refine g_iload_n X 2 rfl dL_law_527 ?_
      refine g_icmp_ge X 817 (by decide) dL_law_528 (fun c1 => ?_) (fun c1 => ?_)
      · exact cont V a hL hAR
      · first | exact absurd (nI_le (by omega) (by omega)) c1 | exact absurd c1 (nI_le (by omega) (by omega))
  | succ f ih =>
      intro c V a hcf hL hAR
      have hc : c < N := by omega
      have hck := hw.1.2.1 c (by omega)
      have h83 := hck.2.2.2.2.2.2.2
      have h51 := hck.2.2.2.2.1
      have h11 := hck.1
      have hd1 := hw.1.1.1
      have hS8 := (hS0 c hc).1
      have hS5 := (hS0 c hc).2
      refine g_iload X 17 rfl dL_law_525 ?_
      refine g_iload_n X 2 rfl dL_law_527 ?_
      refine g_icmp_ge X 817 (by decide) dL_law_528 (fun c1 => ?_) (fun c1 => ?_)
      · first | exact absurd (nI_ge (by omega) (by omega)) c1 | exact absurd c1 (nI_ge (by omega) (by omega))
      · refine g_aload_n X 1 rfl dL_law_531 ?_
        refine g_iload X 17 rfl dL_law_532 ?_
        refine g_iconst X (nI 5) (by decide) dL_law_534 ?_
        refine g_callV X hR (rest := []) mX6_cart lL_40 (c_cart hI V w a c 5 hL hw (by first | assumption | decide | omega) (by first | assumption | decide | omega)) rfl rfl (Nat.le_of_ble_eq_true rfl) ⟨by decide, by decide⟩ rfl rfl rfl ⟨Nat.le_of_ble_eq_true rfl, Nat.le_of_ble_eq_true rfl, hnc, hns⟩ dL_law_535 (fun r2 V3 hz_4 => ?_)
        refine gG_rv hz_4.1 ?_
        have hL5 := hz_4.2
        refine gG_n (nc, ns) rfl ?_
        refine gG_st [.int (nI (w.1.2.2.2.1 c 8))] rfl ?_
        refine g_istore X dL_law_538 [(29, .int (nI (w.1.2.2.2.1 c 8))), (0, .ref b), (1, .ref (B.2.1 0 0 0)), (2, .int (nI N)), (3, .int (nI P)), (4, .int (nI Q)), (5, .ref (B.2.1 29 0 0)), (6, .int (nI al)), (7, .ref (B.2.1 29 1 0)), (8, .ref (B.2.1 29 2 0)), (9, .int (nI tk)), (10, .int (nI t)), (22, .int (nI (w.1.1 1))), (23, .ref (B.2.1 29 3 0)), (24, .int (nI (msk w.1 c))), (25, .int (nI (wSm w.1 c))), (26, .int (nI (bk w.1 c))), (27, .int (nI (cSm w.1 c))), (28, .int (nI c))] rfl (gnl_lt hnL (by decide)) ?_
        rcases (show w.1.2.2.2.1 c 8 = 0 ∨ w.1.2.2.2.1 c 8 = 1 ∨ w.1.2.2.2.1 c 8 = 2 ∨ w.1.2.2.2.1 c 8 = 3 by omega) with h8 | h8 | h8 | h8
        · refine gG_Le [(29, .int (nI 0)), (0, .ref b), (1, .ref (B.2.1 0 0 0)), (2, .int (nI N)), (3, .int (nI P)), (4, .int (nI Q)), (5, .ref (B.2.1 29 0 0)), (6, .int (nI al)), (7, .ref (B.2.1 29 1 0)), (8, .ref (B.2.1 29 2 0)), (9, .int (nI tk)), (10, .int (nI t)), (22, .int (nI (w.1.1 1))), (23, .ref (B.2.1 29 3 0)), (24, .int (nI (msk w.1 c))), (25, .int (nI (wSm w.1 c))), (26, .int (nI (bk w.1 c))), (27, .int (nI (cSm w.1 c))), (28, .int (nI c))] (by rw [h8]) ?_
          refine g_aload_n X 2 rfl dL_law_540 ?_
          refine g_iload X 18 rfl dL_law_541 ?_
          refine g_bipush X (nI 6) (by decide) dL_law_543 ?_
          refine g_callV X hR (rest := []) mX6_cart lL_40 (c_cart hI V3 w a c 6 hL5 hw (by first | assumption | decide | omega) (by first | assumption | decide | omega)) rfl rfl (Nat.le_of_ble_eq_true rfl) ⟨by decide, by decide⟩ rfl rfl rfl ⟨Nat.le_of_ble_eq_true rfl, Nat.le_of_ble_eq_true rfl, hnc, hns⟩ dL_law_545 (fun r6 V7 hz_8 => ?_)
          refine gG_rv hz_8.1 ?_
          have hL9 := hz_8.2
          refine gG_n (nc, ns) rfl ?_
          refine gG_st [.int (sPlc w.1 c)] rfl ?_
          refine gG_top ((-1)) (plc_off (by omega)) ?_
          refine g_istore X dL_law_548 [(30, .int ((-1))), (29, .int (nI 0)), (0, .ref b), (1, .ref (B.2.1 0 0 0)), (2, .int (nI N)), (3, .int (nI P)), (4, .int (nI Q)), (5, .ref (B.2.1 29 0 0)), (6, .int (nI al)), (7, .ref (B.2.1 29 1 0)), (8, .ref (B.2.1 29 2 0)), (9, .int (nI tk)), (10, .int (nI t)), (22, .int (nI (w.1.1 1))), (23, .ref (B.2.1 29 3 0)), (24, .int (nI (msk w.1 c))), (25, .int (nI (wSm w.1 c))), (26, .int (nI (bk w.1 c))), (27, .int (nI (cSm w.1 c))), (28, .int (nI c))] rfl (gnl_lt hnL (by decide)) ?_
          refine g_aload X 14 rfl dL_law_550 ?_
          refine g_iload X 1 rfl dL_law_552 ?_
          refine g_dup2 X rfl rfl dL_law_554 ?_
          refine g_oald X (0) (by rw [hown]; decide) rfl (by show 0 < 4; first | decide | omega) dL_law_555 ?_
          refine gG_top (a 3 0) (congrFun (hL9.2.2 3) _) ?_
          refine gG_top (nI (stc w.1 0 c)) (hAR.2.2 _ (by decide)) ?_
          refine g_iconst X (nI 1) (by decide) dL_law_556 ?_
          refine g_iadd X dL_law_557 ?_
          refine gG_top (nI ((stc w.1 0 c) + 1)) (nI_add (stc w.1 0 c) 1) ?_
          refine g_oast X (0) (by rw [hown]; decide) rfl (by show 0 < 4; first | decide | omega) dL_law_558 ?_
          obtain ⟨a11, ea11⟩ : ∃ y, y = aup a 3 0 (nI ((stc w.1 0 c) + 1)) := ⟨_, rfl⟩
          have hL12 : gLS (gup V7 29 3 0 0 (nI ((stc w.1 0 c) + 1))) w a11 := by rw [ea11]; exact hL9.own 3 0 (nI ((stc w.1 0 c) + 1))
          generalize gup V7 29 3 0 0 (nI ((stc w.1 0 c) + 1)) = V10 at hL12 ⊢
          have hA : (∀ i, i < N → a11 0 i = nI (c0 i)) ∧ a11 1 c = nI (S0.2.2.2.1 c 8) ∧ a11 2 c = nI (S0.2.2.2.1 c 5) := by rw [ea11]; exact hAR.pre hc _ _
          refine g_iload X 18 rfl dL_law_559 ?_
          refine g_aload_n X 3 rfl dL_law_561 ?_
          refine g_iload X 19 rfl dL_law_562 ?_
          refine g_iconst X (nI 3) (by decide) dL_law_564 ?_
          refine g_callV X hR (rest := [.int (nI (cSm w.1 c))]) mX6_cart lL_40 (c_cart hI V10 w a11 c 3 hL12 hw (by first | assumption | decide | omega) (by first | assumption | decide | omega)) rfl rfl (Nat.le_of_ble_eq_true rfl) ⟨by decide, by decide⟩ rfl rfl rfl ⟨Nat.le_of_ble_eq_true rfl, Nat.le_of_ble_eq_true rfl, hnc, hns⟩ dL_law_565 (fun r13 V14 hz_15 => ?_)
          refine gG_rv hz_15.1 ?_
          have hL16 := hz_15.2
          refine gG_n (nc, ns) rfl ?_
          refine gG_st [.int (nI (w.1.2.2.2.1 c 5)), .int (nI (cSm w.1 c))] rfl ?_
          refine g_iadd X dL_law_568 ?_
          refine gG_top (nI ((cSm w.1 c) + (w.1.2.2.2.1 c 5))) (nI_add (cSm w.1 c) (w.1.2.2.2.1 c 5)) ?_
          refine gG_top (nI (cSm w.1 (c + 1))) (by rw [cSm_s]) ?_
          refine g_istore X dL_law_569 [(27, .int (nI (cSm w.1 (c + 1)))), (30, .int ((-1))), (29, .int (nI 0)), (0, .ref b), (1, .ref (B.2.1 0 0 0)), (2, .int (nI N)), (3, .int (nI P)), (4, .int (nI Q)), (5, .ref (B.2.1 29 0 0)), (6, .int (nI al)), (7, .ref (B.2.1 29 1 0)), (8, .ref (B.2.1 29 2 0)), (9, .int (nI tk)), (10, .int (nI t)), (22, .int (nI (w.1.1 1))), (23, .ref (B.2.1 29 3 0)), (24, .int (nI (msk w.1 c))), (25, .int (nI (wSm w.1 c))), (26, .int (nI (bk w.1 c))), (28, .int (nI c))] rfl (gnl_lt hnL (by decide)) ?_
          refine g_iload X 2 rfl dL_law_571 ?_
          refine g_iconst X (nI 1) (by decide) dL_law_573 ?_
          refine g_icmp_ne X 581 (by decide) dL_law_574 (fun c17 => ?_) (fun c17 => ?_)
          · refine g_iconst X (nI 0) (by decide) dL_law_581 ?_
            refine g_iload X 1 rfl dL_law_582 ?_
            refine g_if_lt X 591 (by decide) dL_law_584 (fun c18 => ?_) (fun c18 => ?_)
            · refine g_iconst X (nI 0) (by decide) dL_law_591 ?_
              refine g_icmp_ne X 631 (by decide) dL_law_592 (fun c19 => ?_) (fun c19 => ?_)
              ·  exact absurd c19 (by decide)
              · refine g_aload_n X 4 rfl dL_law_595 ?_
                refine g_iload X 19 rfl dL_law_596 ?_
                refine g_bipush X (nI 8) (by decide) dL_law_598 ?_
                refine g_callV X hR (rest := []) mX6_cart lL_40 (c_cart hI V14 w a11 c 8 hL16 hw (by first | assumption | decide | omega) (by first | assumption | decide | omega)) rfl rfl (Nat.le_of_ble_eq_true rfl) ⟨by decide, by decide⟩ rfl rfl rfl ⟨Nat.le_of_ble_eq_true rfl, Nat.le_of_ble_eq_true rfl, hnc, hns⟩ dL_law_600 (fun r20 V21 hz_22 => ?_)
                refine gG_rv hz_22.1 ?_
                have hL23 := hz_22.2
                refine gG_n (nc, ns) rfl ?_
                refine gG_st [.int (w.1.2.2.2.2 c)] rfl ?_
                refine gG_top ((-1)) (hI9.1 c (by omega) (by omega)) ?_
                refine g_if_lt X 610 (by decide) dL_law_603 (fun c24 => ?_) (fun c24 => ?_)
                · refine g_iconst X (nI 0) (by decide) dL_law_610 ?_
                  refine g_iload X 2 rfl dL_law_611 ?_
                  refine g_iconst X (nI 2) (by decide) dL_law_613 ?_
                  refine g_icmp_ne X 621 (by decide) dL_law_614 (fun c25 => ?_) (fun c25 => ?_)
                  · refine g_iconst X (nI 0) (by decide) dL_law_621 ?_
                    refine g_icmp_ne X 631 (by decide) dL_law_622 (fun c26 => ?_) (fun c26 => ?_)
                    ·  exact absurd c26 (by decide)
                    · refine g_iload X 1 rfl dL_law_625 ?_
                      refine g_iload_n X 6 rfl dL_law_627 ?_
                      refine g_icmp_lt X 633 (by decide) dL_law_628 (fun c27 => ?_) (fun c27 => ?_)
                      · have jn28 : ∀ V29 : gMem, gLS V29 w a11 → gG Z B (nc, ns) V29 652 [(27, .int (nI (cSm w.1 (c + 1)))), (30, .int ((-1))), (29, .int (nI 0)), (0, .ref b), (1, .ref (B.2.1 0 0 0)), (2, .int (nI N)), (3, .int (nI P)), (4, .int (nI Q)), (5, .ref (B.2.1 29 0 0)), (6, .int (nI al)), (7, .ref (B.2.1 29 1 0)), (8, .ref (B.2.1 29 2 0)), (9, .int (nI tk)), (10, .int (nI t)), (22, .int (nI (w.1.1 1))), (23, .ref (B.2.1 29 3 0)), (24, .int (nI (msk w.1 c))), (25, .int (nI (wSm w.1 c))), (26, .int (nI (bk w.1 c))), (28, .int (nI c))] [] := by
                          intro V29 hL30
                          refine g_aload_n X 4 rfl dL_law_652 ?_
                          refine g_iload X 19 rfl dL_law_653 ?_
                          refine g_iconst X (nI 3) (by decide) dL_law_655 ?_
                          refine g_callV X hR (rest := []) mX6_cart lL_40 (c_cart hI V29 w a11 c 3 hL30 hw (by first | assumption | decide | omega) (by first | assumption | decide | omega)) rfl rfl (Nat.le_of_ble_eq_true rfl) ⟨by decide, by decide⟩ rfl rfl rfl ⟨Nat.le_of_ble_eq_true rfl, Nat.le_of_ble_eq_true rfl, hnc, hns⟩ dL_law_656 (fun r31 V32 hz_33 => ?_)
                          refine gG_rv hz_33.1 ?_
                          have hL34 := hz_33.2
                          refine gG_n (nc, ns) rfl ?_
                          refine gG_st [.int (nI (w.1.2.2.2.1 c 5))] rfl ?_
                          refine g_aload X 8 rfl dL_law_659 ?_
                          refine g_iload X 19 rfl dL_law_661 ?_
                          refine g_oald X (c) (by rw [hown]; decide) rfl (by show c < 16; first | decide | omega) dL_law_663 ?_
                          refine gG_top (a11 0 c) (congrFun (hL34.2.2 0) _) ?_
                          refine gG_top (nI (c0 c)) (hA.1 c hc) ?_
                          refine g_icmp_gt X 698 (by decide) dL_law_664 (fun c35 => ?_) (fun c35 => ?_)
                          · first | exact absurd (nI_nlt (hI9.2.1 c (by omega)).1 (by have := hc0 c hc; omega)) c35 | exact absurd c35 (nI_nlt (hI9.2.1 c (by omega)).1 (by have := hc0 c hc; omega))
                          · refine g_aload_n X 4 rfl dL_law_667 ?_
                            refine g_iload X 19 rfl dL_law_668 ?_
                            refine g_iconst X (nI 3) (by decide) dL_law_670 ?_
                            refine g_callV X hR (rest := []) mX6_cart lL_40 (c_cart hI V32 w a11 c 3 hL34 hw (by first | assumption | decide | omega) (by first | assumption | decide | omega)) rfl rfl (Nat.le_of_ble_eq_true rfl) ⟨by decide, by decide⟩ rfl rfl rfl ⟨Nat.le_of_ble_eq_true rfl, Nat.le_of_ble_eq_true rfl, hnc, hns⟩ dL_law_671 (fun r36 V37 hz_38 => ?_)
                            refine gG_rv hz_38.1 ?_
                            have hL39 := hz_38.2
                            refine gG_n (nc, ns) rfl ?_
                            refine gG_st [.int (nI (w.1.2.2.2.1 c 5))] rfl ?_
                            refine g_if_lt X 698 (by decide) dL_law_674 (fun c40 => ?_) (fun c40 => ?_)
                            · first | exact absurd (nI_pos (by omega)) c40 | exact absurd c40 (nI_pos (by omega))
                            · refine g_iload X 2 rfl dL_law_677 ?_
                              refine g_iconst X (nI 3) (by decide) dL_law_679 ?_
                              refine g_icmp_ne X 700 (by decide) dL_law_680 (fun c41 => ?_) (fun c41 => ?_)
                              · refine g_iload X 2 rfl dL_law_700 ?_
                                refine g_iconst X (nI 1) (by decide) dL_law_702 ?_
                                refine g_icmp_ne X 762 (by decide) dL_law_703 (fun c42 => ?_) (fun c42 => ?_)
                                · refine gG_Le [(27, .int (nI (cSm w.1 (c + 1)))), (30, .int ((-1))), (29, .int (nI 0)), (0, .ref b), (1, .ref (B.2.1 0 0 0)), (2, .int (nI N)), (3, .int (nI P)), (4, .int (nI Q)), (5, .ref (B.2.1 29 0 0)), (6, .int (nI al)), (7, .ref (B.2.1 29 1 0)), (8, .ref (B.2.1 29 2 0)), (9, .int (nI tk)), (10, .int (nI t)), (22, .int (nI (w.1.1 1))), (23, .ref (B.2.1 29 3 0)), (24, .int (nI (msk w.1 (c + 1)))), (25, .int (nI (wSm w.1 (c + 1)))), (26, .int (nI (bk w.1 (c + 1)))), (28, .int (nI c))] (by rw [msk_s, wSm_s, bk_s, if_neg (by omega), if_neg (by omega), if_neg (by omega)]; exact rfl) ?_
                                  refine gG_L [3, 4, 5, 6, 7, 8, 9, 10, 11, 12, 13, 14, 15, 16, 17, 18, 0, 19, 2] (L' := [(0, .ref b), (1, .ref (B.2.1 0 0 0)), (2, .int (nI N)), (3, .int (nI P)), (4, .int (nI Q)), (5, .ref (B.2.1 29 0 0)), (6, .int (nI al)), (7, .ref (B.2.1 29 1 0)), (8, .ref (B.2.1 29 2 0)), (9, .int (nI tk)), (10, .int (nI t)), (22, .int (nI (w.1.1 1))), (23, .ref (B.2.1 29 3 0)), (24, .int (nI (msk w.1 (c + 1)))), (25, .int (nI (wSm w.1 (c + 1)))), (26, .int (nI (bk w.1 (c + 1)))), (27, .int (nI (cSm w.1 (c + 1)))), (28, .int (nI c)), (29, .int (nI 0))]) rfl ?_
                                  have jn43 : ∀ V44 : gMem, gLS V44 w a11 → gG Z B (nc, ns) V44 792 [(0, .ref b), (1, .ref (B.2.1 0 0 0)), (2, .int (nI N)), (3, .int (nI P)), (4, .int (nI Q)), (5, .ref (B.2.1 29 0 0)), (6, .int (nI al)), (7, .ref (B.2.1 29 1 0)), (8, .ref (B.2.1 29 2 0)), (9, .int (nI tk)), (10, .int (nI t)), (22, .int (nI (w.1.1 1))), (23, .ref (B.2.1 29 3 0)), (24, .int (nI (msk w.1 (c + 1)))), (25, .int (nI (wSm w.1 (c + 1)))), (26, .int (nI (bk w.1 (c + 1)))), (27, .int (nI (cSm w.1 (c + 1)))), (28, .int (nI c)), (29, .int (nI 0))] [] := by
                                    intro V44 hL45
                                    refine g_aload X 8 rfl dL_law_792 ?_
                                    refine g_iload X 17 rfl dL_law_794 ?_
                                    refine g_aload_n X 1 rfl dL_law_796 ?_
                                    refine g_iload X 17 rfl dL_law_797 ?_
                                    refine g_iconst X (nI 3) (by decide) dL_law_799 ?_
                                    refine g_callV X hR (rest := [.int (nI c), .ref (B.2.1 29 2 0)]) mX6_cart lL_40 (c_cart hI V44 w a11 c 3 hL45 hw (by first | assumption | decide | omega) (by first | assumption | decide | omega)) rfl rfl (Nat.le_of_ble_eq_true rfl) ⟨by decide, by decide⟩ rfl rfl rfl ⟨Nat.le_of_ble_eq_true rfl, Nat.le_of_ble_eq_true rfl, hnc, hns⟩ dL_law_800 (fun r46 V47 hz_48 => ?_)
                                    refine gG_rv hz_48.1 ?_
                                    have hL49 := hz_48.2
                                    refine gG_n (nc, ns) rfl ?_
                                    refine gG_st [.int (nI (w.1.2.2.2.1 c 5)), .int (nI c), .ref (B.2.1 29 2 0)] rfl ?_
                                    refine g_oast X (c) (by rw [hown]; decide) rfl (by show c < 16; first | decide | omega) dL_law_803 ?_
                                    obtain ⟨a51, ea51⟩ : ∃ y, y = aup a11 2 c (nI (w.1.2.2.2.1 c 5)) := ⟨_, rfl⟩
                                    have hL52 : gLS (gup V47 29 2 0 c (nI (w.1.2.2.2.1 c 5))) w a51 := by rw [ea51]; exact hL49.own 2 c (nI (w.1.2.2.2.1 c 5))
                                    generalize gup V47 29 2 0 c (nI (w.1.2.2.2.1 c 5)) = V50 at hL52 ⊢
                                    refine g_aload X 7 rfl dL_law_804 ?_
                                    refine g_iload X 17 rfl dL_law_806 ?_
                                    refine g_iload X 18 rfl dL_law_808 ?_
                                    refine g_oast X (c) (by rw [hown]; decide) rfl (by show c < 16; first | decide | omega) dL_law_810 ?_
                                    obtain ⟨a54, ea54⟩ : ∃ y, y = aup a51 1 c (nI 0) := ⟨_, rfl⟩
                                    have hL55 : gLS (gup V50 29 1 0 c (nI 0)) w a54 := by rw [ea54]; exact hL52.own 1 c (nI 0)
                                    generalize gup V50 29 1 0 c (nI 0) = V53 at hL55 ⊢
                                    refine g_iinc X 17 rfl (nI (c + 1)) (iinc_1 _) dL_law_811 [(28, .int (nI (c + 1))), (0, .ref b), (1, .ref (B.2.1 0 0 0)), (2, .int (nI N)), (3, .int (nI P)), (4, .int (nI Q)), (5, .ref (B.2.1 29 0 0)), (6, .int (nI al)), (7, .ref (B.2.1 29 1 0)), (8, .ref (B.2.1 29 2 0)), (9, .int (nI tk)), (10, .int (nI t)), (22, .int (nI (w.1.1 1))), (23, .ref (B.2.1 29 3 0)), (24, .int (nI (msk w.1 (c + 1)))), (25, .int (nI (wSm w.1 (c + 1)))), (26, .int (nI (bk w.1 (c + 1)))), (27, .int (nI (cSm w.1 (c + 1)))), (29, .int (nI 0))] rfl (gnl_lt hnL (by decide)) ?_
                                    refine g_goto X 525 (by decide) dL_law_814 ?_
                                    refine gG_L [1, 2, 3, 4, 5, 6, 7, 8, 9, 10, 11, 12, 13, 14, 15, 16, 17, 0] (L' := [(0, .ref b), (1, .ref (B.2.1 0 0 0)), (2, .int (nI N)), (3, .int (nI P)), (4, .int (nI Q)), (5, .ref (B.2.1 29 0 0)), (6, .int (nI al)), (7, .ref (B.2.1 29 1 0)), (8, .ref (B.2.1 29 2 0)), (9, .int (nI tk)), (10, .int (nI t)), (22, .int (nI (w.1.1 1))), (23, .ref (B.2.1 29 3 0)), (24, .int (nI (msk w.1 (c + 1)))), (25, .int (nI (wSm w.1 (c + 1)))), (26, .int (nI (bk w.1 (c + 1)))), (27, .int (nI (cSm w.1 (c + 1)))), (28, .int (nI (c + 1)))]) rfl ?_
                                    refine ih (c + 1) V53 a54 (by omega) hL55 ?_
                                    have hst := hAR.step hc (by omega)
                                    rw [h8] at hst
                                    rw [ea54, ea51, ea11]
                                    exact hst
                                  refine g_aload_n X 1 rfl dL_law_762 ?_
                                  refine g_iload X 17 rfl dL_law_763 ?_
                                  refine g_iconst X (nI 3) (by decide) dL_law_765 ?_
                                  refine g_callV X hR (rest := []) mX6_cart lL_40 (c_cart hI V37 w a11 c 3 hL39 hw (by first | assumption | decide | omega) (by first | assumption | decide | omega)) rfl rfl (Nat.le_of_ble_eq_true rfl) ⟨by decide, by decide⟩ rfl rfl rfl ⟨Nat.le_of_ble_eq_true rfl, Nat.le_of_ble_eq_true rfl, hnc, hns⟩ dL_law_766 (fun r56 V57 hz_58 => ?_)
                                  refine gG_rv hz_58.1 ?_
                                  have hL59 := hz_58.2
                                  refine gG_n (nc, ns) rfl ?_
                                  refine gG_st [.int (nI (w.1.2.2.2.1 c 5))] rfl ?_
                                  refine g_aload X 8 rfl dL_law_769 ?_
                                  refine g_iload X 17 rfl dL_law_771 ?_
                                  refine g_oald X (c) (by rw [hown]; decide) rfl (by show c < 16; first | decide | omega) dL_law_773 ?_
                                  refine gG_top (a11 2 c) (congrFun (hL59.2.2 2) _) ?_
                                  refine gG_top (nI (S0.2.2.2.1 c 5)) (hA.2.2) ?_
                                  by_cases h5 : w.1.2.2.2.1 c 5 = S0.2.2.2.1 c 5
                                  · skip
                                    refine g_icmp_eq X 792 (by decide) dL_law_774 (fun c60 => ?_) (fun c60 => ?_)
                                    · exact jn43 _ hL59
                                    · first | exact absurd (congrArg nI h5) c60 | exact absurd c60 (congrArg nI h5)
                                  · skip
                                    refine g_icmp_eq X 792 (by decide) dL_law_774 (fun c61 => ?_) (fun c61 => ?_)
                                    · first | exact absurd (fun z => h5 ((nI_eq (by omega) (by omega)).mp z)) c61 | exact absurd c61 (fun z => h5 ((nI_eq (by omega) (by omega)).mp z))
                                    · refine g_aload X 8 rfl dL_law_777 ?_
                                      refine g_iload X 17 rfl dL_law_779 ?_
                                      refine g_oald X (c) (by rw [hown]; decide) rfl (by show c < 16; first | decide | omega) dL_law_781 ?_
                                      refine gG_top (a11 2 c) (congrFun (hL59.2.2 2) _) ?_
                                      refine gG_top (nI (S0.2.2.2.1 c 5)) (hA.2.2) ?_
                                      refine g_aload X 5 rfl dL_law_782 ?_
                                      refine g_iload X 17 rfl dL_law_784 ?_
                                      refine g_oald X (c) (by rw [hown]; decide) rfl (by show c < 16; first | decide | omega) dL_law_786 ?_
                                      refine gG_top (a11 0 c) (congrFun (hL59.2.2 0) _) ?_
                                      refine gG_top (nI (c0 c)) (hA.1 c hc) ?_
                                      refine g_icmp_eq X 792 (by decide) dL_law_787 (fun c62 => ?_) (fun c62 => ?_)
                                      · exact jn43 _ hL59
                                      · first | exact absurd (congrArg nI (Classical.byContradiction (fun q => h5 ((hR9 c hc).2 q)))) c62 | exact absurd c62 (congrArg nI (Classical.byContradiction (fun q => h5 ((hR9 c hc).2 q))))
                                ·  exact absurd c42 (by decide)
                              ·  exact absurd c41 (by decide)
                        refine g_aload X 10 rfl dL_law_633 ?_
                        refine g_iload X 19 rfl dL_law_635 ?_
                        refine g_oald X (c) (by rw [hown]; decide) rfl (by show c < 16; first | decide | omega) dL_law_637 ?_
                        refine gG_top (a11 1 c) (congrFun (hL23.2.2 1) _) ?_
                        refine gG_top (nI (S0.2.2.2.1 c 8)) (hA.2.1) ?_
                        refine g_iconst X (nI 1) (by decide) dL_law_638 ?_
                        by_cases hb1 : S0.2.2.2.1 c 8 ≤ 1
                        · skip
                          refine g_icmp_le X 652 (by decide) dL_law_639 (fun c63 => ?_) (fun c63 => ?_)
                          · exact jn28 _ hL23
                          · first | exact absurd (nI_le hb1 (by decide)) c63 | exact absurd c63 (nI_le hb1 (by decide))
                        · skip
                          refine g_icmp_le X 652 (by decide) dL_law_639 (fun c64 => ?_) (fun c64 => ?_)
                          · first | exact absurd (nI_ge (by omega) (by omega)) c64 | exact absurd c64 (nI_ge (by omega) (by omega))
                          · refine g_iload X 2 rfl dL_law_642 ?_
                            refine g_aload X 10 rfl dL_law_644 ?_
                            refine g_iload X 19 rfl dL_law_646 ?_
                            refine g_oald X (c) (by rw [hown]; decide) rfl (by show c < 16; first | decide | omega) dL_law_648 ?_
                            refine gG_top (a11 1 c) (congrFun (hL23.2.2 1) _) ?_
                            refine gG_top (nI (S0.2.2.2.1 c 8)) (hA.2.1) ?_
                            refine g_icmp_ne X 698 (by decide) dL_law_649 (fun c65 => ?_) (fun c65 => ?_)
                            · first | exact absurd (congrArg nI (by have := (hR9 c hc).1 (by omega); omega)) c65 | exact absurd c65 (congrArg nI (by have := (hR9 c hc).1 (by omega); omega))
                            · exact jn28 _ hL23
                      · first | exact absurd (m1_lt (by omega)) c27 | exact absurd c27 (m1_lt (by omega))
                  ·  exact absurd c25 (by decide)
                ·  exact absurd c24 (by decide)
            · first | exact absurd (by decide) c18 | exact absurd c18 (by decide)
          ·  exact absurd c17 (by decide)
        · refine gG_Le [(29, .int (nI 1)), (0, .ref b), (1, .ref (B.2.1 0 0 0)), (2, .int (nI N)), (3, .int (nI P)), (4, .int (nI Q)), (5, .ref (B.2.1 29 0 0)), (6, .int (nI al)), (7, .ref (B.2.1 29 1 0)), (8, .ref (B.2.1 29 2 0)), (9, .int (nI tk)), (10, .int (nI t)), (22, .int (nI (w.1.1 1))), (23, .ref (B.2.1 29 3 0)), (24, .int (nI (msk w.1 c))), (25, .int (nI (wSm w.1 c))), (26, .int (nI (bk w.1 c))), (27, .int (nI (cSm w.1 c))), (28, .int (nI c))] (by rw [h8]) ?_
          have hpl := pl_lt hw.1 (i := c) (by omega) h8
          have hpl3 := hw.1.1.2.1.2
          refine g_aload_n X 2 rfl dL_law_540 ?_
          refine g_iload X 18 rfl dL_law_541 ?_
          refine g_bipush X (nI 6) (by decide) dL_law_543 ?_
          refine g_callV X hR (rest := []) mX6_cart lL_40 (c_cart hI V3 w a c 6 hL5 hw (by first | assumption | decide | omega) (by first | assumption | decide | omega)) rfl rfl (Nat.le_of_ble_eq_true rfl) ⟨by decide, by decide⟩ rfl rfl rfl ⟨Nat.le_of_ble_eq_true rfl, Nat.le_of_ble_eq_true rfl, hnc, hns⟩ dL_law_545 (fun r66 V67 hz_68 => ?_)
          refine gG_rv hz_68.1 ?_
          have hL69 := hz_68.2
          refine gG_n (nc, ns) rfl ?_
          refine gG_st [.int (sPlc w.1 c)] rfl ?_
          refine gG_top (nI (pl w.1 c)) (plc_on h8) ?_
          refine g_istore X dL_law_548 [(30, .int (nI (pl w.1 c))), (29, .int (nI 1)), (0, .ref b), (1, .ref (B.2.1 0 0 0)), (2, .int (nI N)), (3, .int (nI P)), (4, .int (nI Q)), (5, .ref (B.2.1 29 0 0)), (6, .int (nI al)), (7, .ref (B.2.1 29 1 0)), (8, .ref (B.2.1 29 2 0)), (9, .int (nI tk)), (10, .int (nI t)), (22, .int (nI (w.1.1 1))), (23, .ref (B.2.1 29 3 0)), (24, .int (nI (msk w.1 c))), (25, .int (nI (wSm w.1 c))), (26, .int (nI (bk w.1 c))), (27, .int (nI (cSm w.1 c))), (28, .int (nI c))] rfl (gnl_lt hnL (by decide)) ?_
          refine g_aload X 14 rfl dL_law_550 ?_
          refine g_iload X 1 rfl dL_law_552 ?_
          refine g_dup2 X rfl rfl dL_law_554 ?_
          refine g_oald X (1) (by rw [hown]; decide) rfl (by show 1 < 4; first | decide | omega) dL_law_555 ?_
          refine gG_top (a 3 1) (congrFun (hL69.2.2 3) _) ?_
          refine gG_top (nI (stc w.1 1 c)) (hAR.2.2 _ (by decide)) ?_
          refine g_iconst X (nI 1) (by decide) dL_law_556 ?_
          refine g_iadd X dL_law_557 ?_
          refine gG_top (nI ((stc w.1 1 c) + 1)) (nI_add (stc w.1 1 c) 1) ?_
          refine g_oast X (1) (by rw [hown]; decide) rfl (by show 1 < 4; first | decide | omega) dL_law_558 ?_
          obtain ⟨a71, ea71⟩ : ∃ y, y = aup a 3 1 (nI ((stc w.1 1 c) + 1)) := ⟨_, rfl⟩
          have hL72 : gLS (gup V67 29 3 0 1 (nI ((stc w.1 1 c) + 1))) w a71 := by rw [ea71]; exact hL69.own 3 1 (nI ((stc w.1 1 c) + 1))
          generalize gup V67 29 3 0 1 (nI ((stc w.1 1 c) + 1)) = V70 at hL72 ⊢
          have hA : (∀ i, i < N → a71 0 i = nI (c0 i)) ∧ a71 1 c = nI (S0.2.2.2.1 c 8) ∧ a71 2 c = nI (S0.2.2.2.1 c 5) := by rw [ea71]; exact hAR.pre hc _ _
          refine g_iload X 18 rfl dL_law_559 ?_
          refine g_aload_n X 3 rfl dL_law_561 ?_
          refine g_iload X 19 rfl dL_law_562 ?_
          refine g_iconst X (nI 3) (by decide) dL_law_564 ?_
          refine g_callV X hR (rest := [.int (nI (cSm w.1 c))]) mX6_cart lL_40 (c_cart hI V70 w a71 c 3 hL72 hw (by first | assumption | decide | omega) (by first | assumption | decide | omega)) rfl rfl (Nat.le_of_ble_eq_true rfl) ⟨by decide, by decide⟩ rfl rfl rfl ⟨Nat.le_of_ble_eq_true rfl, Nat.le_of_ble_eq_true rfl, hnc, hns⟩ dL_law_565 (fun r73 V74 hz_75 => ?_)
          refine gG_rv hz_75.1 ?_
          have hL76 := hz_75.2
          refine gG_n (nc, ns) rfl ?_
          refine gG_st [.int (nI (w.1.2.2.2.1 c 5)), .int (nI (cSm w.1 c))] rfl ?_
          refine g_iadd X dL_law_568 ?_
          refine gG_top (nI ((cSm w.1 c) + (w.1.2.2.2.1 c 5))) (nI_add (cSm w.1 c) (w.1.2.2.2.1 c 5)) ?_
          refine gG_top (nI (cSm w.1 (c + 1))) (by rw [cSm_s]) ?_
          refine g_istore X dL_law_569 [(27, .int (nI (cSm w.1 (c + 1)))), (30, .int (nI (pl w.1 c))), (29, .int (nI 1)), (0, .ref b), (1, .ref (B.2.1 0 0 0)), (2, .int (nI N)), (3, .int (nI P)), (4, .int (nI Q)), (5, .ref (B.2.1 29 0 0)), (6, .int (nI al)), (7, .ref (B.2.1 29 1 0)), (8, .ref (B.2.1 29 2 0)), (9, .int (nI tk)), (10, .int (nI t)), (22, .int (nI (w.1.1 1))), (23, .ref (B.2.1 29 3 0)), (24, .int (nI (msk w.1 c))), (25, .int (nI (wSm w.1 c))), (26, .int (nI (bk w.1 c))), (28, .int (nI c))] rfl (gnl_lt hnL (by decide)) ?_
          refine g_iload X 2 rfl dL_law_571 ?_
          refine g_iconst X (nI 1) (by decide) dL_law_573 ?_
          refine g_icmp_ne X 581 (by decide) dL_law_574 (fun c77 => ?_) (fun c77 => ?_)
          ·  exact absurd c77 (by decide)
          · refine g_iconst X (nI 1) (by decide) dL_law_577 ?_
            refine g_goto X 582 (by decide) dL_law_578 ?_
            refine g_iload X 1 rfl dL_law_582 ?_
            refine g_if_lt X 591 (by decide) dL_law_584 (fun c78 => ?_) (fun c78 => ?_)
            · first | exact absurd (nI_pos (by omega)) c78 | exact absurd c78 (nI_pos (by omega))
            · refine g_iconst X (nI 1) (by decide) dL_law_587 ?_
              refine g_goto X 592 (by decide) dL_law_588 ?_
              refine g_icmp_ne X 631 (by decide) dL_law_592 (fun c79 => ?_) (fun c79 => ?_)
              ·  exact absurd c79 (by decide)
              · refine g_aload_n X 4 rfl dL_law_595 ?_
                refine g_iload X 19 rfl dL_law_596 ?_
                refine g_bipush X (nI 8) (by decide) dL_law_598 ?_
                refine g_callV X hR (rest := []) mX6_cart lL_40 (c_cart hI V74 w a71 c 8 hL76 hw (by first | assumption | decide | omega) (by first | assumption | decide | omega)) rfl rfl (Nat.le_of_ble_eq_true rfl) ⟨by decide, by decide⟩ rfl rfl rfl ⟨Nat.le_of_ble_eq_true rfl, Nat.le_of_ble_eq_true rfl, hnc, hns⟩ dL_law_600 (fun r80 V81 hz_82 => ?_)
                refine gG_rv hz_82.1 ?_
                have hL83 := hz_82.2
                refine gG_n (nc, ns) rfl ?_
                refine gG_st [.int (w.1.2.2.2.2 c)] rfl ?_
                refine gG_top ((-1)) (hI9.1 c (by omega) (by omega)) ?_
                refine g_if_lt X 610 (by decide) dL_law_603 (fun c84 => ?_) (fun c84 => ?_)
                · refine g_iconst X (nI 0) (by decide) dL_law_610 ?_
                  refine g_iload X 2 rfl dL_law_611 ?_
                  refine g_iconst X (nI 2) (by decide) dL_law_613 ?_
                  refine g_icmp_ne X 621 (by decide) dL_law_614 (fun c85 => ?_) (fun c85 => ?_)
                  · refine g_iconst X (nI 0) (by decide) dL_law_621 ?_
                    refine g_icmp_ne X 631 (by decide) dL_law_622 (fun c86 => ?_) (fun c86 => ?_)
                    ·  exact absurd c86 (by decide)
                    · refine g_iload X 1 rfl dL_law_625 ?_
                      refine g_iload_n X 6 rfl dL_law_627 ?_
                      refine g_icmp_lt X 633 (by decide) dL_law_628 (fun c87 => ?_) (fun c87 => ?_)
                      · have jn88 : ∀ V89 : gMem, gLS V89 w a71 → gG Z B (nc, ns) V89 652 [(27, .int (nI (cSm w.1 (c + 1)))), (30, .int (nI (pl w.1 c))), (29, .int (nI 1)), (0, .ref b), (1, .ref (B.2.1 0 0 0)), (2, .int (nI N)), (3, .int (nI P)), (4, .int (nI Q)), (5, .ref (B.2.1 29 0 0)), (6, .int (nI al)), (7, .ref (B.2.1 29 1 0)), (8, .ref (B.2.1 29 2 0)), (9, .int (nI tk)), (10, .int (nI t)), (22, .int (nI (w.1.1 1))), (23, .ref (B.2.1 29 3 0)), (24, .int (nI (msk w.1 c))), (25, .int (nI (wSm w.1 c))), (26, .int (nI (bk w.1 c))), (28, .int (nI c))] [] := by
                          intro V89 hL90
                          refine g_aload_n X 4 rfl dL_law_652 ?_
                          refine g_iload X 19 rfl dL_law_653 ?_
                          refine g_iconst X (nI 3) (by decide) dL_law_655 ?_
                          refine g_callV X hR (rest := []) mX6_cart lL_40 (c_cart hI V89 w a71 c 3 hL90 hw (by first | assumption | decide | omega) (by first | assumption | decide | omega)) rfl rfl (Nat.le_of_ble_eq_true rfl) ⟨by decide, by decide⟩ rfl rfl rfl ⟨Nat.le_of_ble_eq_true rfl, Nat.le_of_ble_eq_true rfl, hnc, hns⟩ dL_law_656 (fun r91 V92 hz_93 => ?_)
                          refine gG_rv hz_93.1 ?_
                          have hL94 := hz_93.2
                          refine gG_n (nc, ns) rfl ?_
                          refine gG_st [.int (nI (w.1.2.2.2.1 c 5))] rfl ?_
                          refine g_aload X 8 rfl dL_law_659 ?_
                          refine g_iload X 19 rfl dL_law_661 ?_
                          refine g_oald X (c) (by rw [hown]; decide) rfl (by show c < 16; first | decide | omega) dL_law_663 ?_
                          refine gG_top (a71 0 c) (congrFun (hL94.2.2 0) _) ?_
                          refine gG_top (nI (c0 c)) (hA.1 c hc) ?_
                          refine g_icmp_gt X 698 (by decide) dL_law_664 (fun c95 => ?_) (fun c95 => ?_)
                          · first | exact absurd (nI_nlt (hI9.2.1 c (by omega)).1 (by have := hc0 c hc; omega)) c95 | exact absurd c95 (nI_nlt (hI9.2.1 c (by omega)).1 (by have := hc0 c hc; omega))
                          · refine g_aload_n X 4 rfl dL_law_667 ?_
                            refine g_iload X 19 rfl dL_law_668 ?_
                            refine g_iconst X (nI 3) (by decide) dL_law_670 ?_
                            refine g_callV X hR (rest := []) mX6_cart lL_40 (c_cart hI V92 w a71 c 3 hL94 hw (by first | assumption | decide | omega) (by first | assumption | decide | omega)) rfl rfl (Nat.le_of_ble_eq_true rfl) ⟨by decide, by decide⟩ rfl rfl rfl ⟨Nat.le_of_ble_eq_true rfl, Nat.le_of_ble_eq_true rfl, hnc, hns⟩ dL_law_671 (fun r96 V97 hz_98 => ?_)
                            refine gG_rv hz_98.1 ?_
                            have hL99 := hz_98.2
                            refine gG_n (nc, ns) rfl ?_
                            refine gG_st [.int (nI (w.1.2.2.2.1 c 5))] rfl ?_
                            refine g_if_lt X 698 (by decide) dL_law_674 (fun c100 => ?_) (fun c100 => ?_)
                            · first | exact absurd (nI_pos (by omega)) c100 | exact absurd c100 (nI_pos (by omega))
                            · refine g_iload X 2 rfl dL_law_677 ?_
                              refine g_iconst X (nI 3) (by decide) dL_law_679 ?_
                              refine g_icmp_ne X 700 (by decide) dL_law_680 (fun c101 => ?_) (fun c101 => ?_)
                              · refine g_iload X 2 rfl dL_law_700 ?_
                                refine g_iconst X (nI 1) (by decide) dL_law_702 ?_
                                refine g_icmp_ne X 762 (by decide) dL_law_703 (fun c102 => ?_) (fun c102 => ?_)
                                ·  exact absurd c102 (by decide)
                                · refine g_iload X 16 rfl dL_law_706 ?_
                                  refine g_iload X 1 rfl dL_law_708 ?_
                                  refine g_ishr X dL_law_710 ?_
                                  refine g_iconst X (nI 1) (by decide) dL_law_711 ?_
                                  refine g_iand X dL_law_712 ?_
                                  refine gG_top (nI (msk w.1 c / 2 ^ pl w.1 c % 2)) (set_shr (msk_lt hw.1 c (by omega)) (by omega)) ?_
                                  refine gG_top (nI 0) (by rw [msk_free hw.1 (by omega) h8]) ?_
                                  refine g_iconst X (nI 1) (by decide) dL_law_713 ?_
                                  refine g_icmp_ne X 719 (by decide) dL_law_714 (fun c103 => ?_) (fun c103 => ?_)
                                  · refine g_iload X 16 rfl dL_law_719 ?_
                                    refine g_iconst X (nI 1) (by decide) dL_law_721 ?_
                                    refine g_iload X 1 rfl dL_law_722 ?_
                                    refine g_ishl X dL_law_724 ?_
                                    refine g_ior X dL_law_725 ?_
                                    refine gG_top (nI (msk w.1 (c + 1))) (by rw [msk_s, if_pos h8]; exact set_or (by omega)) ?_
                                    refine g_istore X dL_law_726 [(24, .int (nI (msk w.1 (c + 1)))), (27, .int (nI (cSm w.1 (c + 1)))), (30, .int (nI (pl w.1 c))), (29, .int (nI 1)), (0, .ref b), (1, .ref (B.2.1 0 0 0)), (2, .int (nI N)), (3, .int (nI P)), (4, .int (nI Q)), (5, .ref (B.2.1 29 0 0)), (6, .int (nI al)), (7, .ref (B.2.1 29 1 0)), (8, .ref (B.2.1 29 2 0)), (9, .int (nI tk)), (10, .int (nI t)), (22, .int (nI (w.1.1 1))), (23, .ref (B.2.1 29 3 0)), (25, .int (nI (wSm w.1 c))), (26, .int (nI (bk w.1 c))), (28, .int (nI c))] rfl (gnl_lt hnL (by decide)) ?_
                                    refine g_iload X 17 rfl dL_law_728 ?_
                                    refine g_aload_n X 5 rfl dL_law_730 ?_
                                    refine g_iload X 19 rfl dL_law_731 ?_
                                    refine g_iconst X (nI 1) (by decide) dL_law_733 ?_
                                    refine g_callV X hR (rest := [.int (nI (wSm w.1 c))]) mX6_cart lL_40 (c_cart hI V97 w a71 c 1 hL99 hw (by first | assumption | decide | omega) (by first | assumption | decide | omega)) rfl rfl (Nat.le_of_ble_eq_true rfl) ⟨by decide, by decide⟩ rfl rfl rfl ⟨Nat.le_of_ble_eq_true rfl, Nat.le_of_ble_eq_true rfl, hnc, hns⟩ dL_law_734 (fun r104 V105 hz_106 => ?_)
                                    refine gG_rv hz_106.1 ?_
                                    have hL107 := hz_106.2
                                    refine gG_n (nc, ns) rfl ?_
                                    refine gG_st [.int (nI (w.1.2.2.2.1 c 3)), .int (nI (wSm w.1 c))] rfl ?_
                                    refine g_iadd X dL_law_737 ?_
                                    refine gG_top (nI ((wSm w.1 c) + (w.1.2.2.2.1 c 3))) (nI_add (wSm w.1 c) (w.1.2.2.2.1 c 3)) ?_
                                    refine gG_top (nI (wSm w.1 (c + 1))) (by rw [wSm_s, if_pos h8]) ?_
                                    refine g_istore X dL_law_738 [(25, .int (nI (wSm w.1 (c + 1)))), (24, .int (nI (msk w.1 (c + 1)))), (27, .int (nI (cSm w.1 (c + 1)))), (30, .int (nI (pl w.1 c))), (29, .int (nI 1)), (0, .ref b), (1, .ref (B.2.1 0 0 0)), (2, .int (nI N)), (3, .int (nI P)), (4, .int (nI Q)), (5, .ref (B.2.1 29 0 0)), (6, .int (nI al)), (7, .ref (B.2.1 29 1 0)), (8, .ref (B.2.1 29 2 0)), (9, .int (nI tk)), (10, .int (nI t)), (22, .int (nI (w.1.1 1))), (23, .ref (B.2.1 29 3 0)), (26, .int (nI (bk w.1 c))), (28, .int (nI c))] rfl (gnl_lt hnL (by decide)) ?_
                                    have jn108 : ∀ V109 : gMem, gLS V109 w a71 → gG Z B (nc, ns) V109 759 [(25, .int (nI (wSm w.1 (c + 1)))), (24, .int (nI (msk w.1 (c + 1)))), (27, .int (nI (cSm w.1 (c + 1)))), (30, .int (nI (pl w.1 c))), (29, .int (nI 1)), (0, .ref b), (1, .ref (B.2.1 0 0 0)), (2, .int (nI N)), (3, .int (nI P)), (4, .int (nI Q)), (5, .ref (B.2.1 29 0 0)), (6, .int (nI al)), (7, .ref (B.2.1 29 1 0)), (8, .ref (B.2.1 29 2 0)), (9, .int (nI tk)), (10, .int (nI t)), (22, .int (nI (w.1.1 1))), (23, .ref (B.2.1 29 3 0)), (26, .int (nI (bk w.1 c))), (28, .int (nI c))] [.int (nI (if w.1.2.2.2.1 c 1 = w.1.1 1 then 0 else 1)), .int (nI (bk w.1 c))] := by
                                      intro V109 hL110
                                      refine g_iadd X dL_law_759 ?_
                                      refine gG_top (nI ((bk w.1 c) + (if w.1.2.2.2.1 c 1 = w.1.1 1 then 0 else 1))) (nI_add (bk w.1 c) (if w.1.2.2.2.1 c 1 = w.1.1 1 then 0 else 1)) ?_
                                      refine gG_top (nI (bk w.1 (c + 1))) (by rw [bk_s, if_pos h8]) ?_
                                      refine g_istore X dL_law_760 [(26, .int (nI (bk w.1 (c + 1)))), (25, .int (nI (wSm w.1 (c + 1)))), (24, .int (nI (msk w.1 (c + 1)))), (27, .int (nI (cSm w.1 (c + 1)))), (30, .int (nI (pl w.1 c))), (29, .int (nI 1)), (0, .ref b), (1, .ref (B.2.1 0 0 0)), (2, .int (nI N)), (3, .int (nI P)), (4, .int (nI Q)), (5, .ref (B.2.1 29 0 0)), (6, .int (nI al)), (7, .ref (B.2.1 29 1 0)), (8, .ref (B.2.1 29 2 0)), (9, .int (nI tk)), (10, .int (nI t)), (22, .int (nI (w.1.1 1))), (23, .ref (B.2.1 29 3 0)), (28, .int (nI c))] rfl (gnl_lt hnL (by decide)) ?_
                                      refine gG_L [6, 7, 8, 9, 10, 11, 12, 13, 14, 15, 16, 17, 18, 2, 1, 0, 3, 19, 5] (L' := [(0, .ref b), (1, .ref (B.2.1 0 0 0)), (2, .int (nI N)), (3, .int (nI P)), (4, .int (nI Q)), (5, .ref (B.2.1 29 0 0)), (6, .int (nI al)), (7, .ref (B.2.1 29 1 0)), (8, .ref (B.2.1 29 2 0)), (9, .int (nI tk)), (10, .int (nI t)), (22, .int (nI (w.1.1 1))), (23, .ref (B.2.1 29 3 0)), (24, .int (nI (msk w.1 (c + 1)))), (25, .int (nI (wSm w.1 (c + 1)))), (26, .int (nI (bk w.1 (c + 1)))), (27, .int (nI (cSm w.1 (c + 1)))), (28, .int (nI c)), (29, .int (nI 1))]) rfl ?_
                                      have jn111 : ∀ V112 : gMem, gLS V112 w a71 → gG Z B (nc, ns) V112 792 [(0, .ref b), (1, .ref (B.2.1 0 0 0)), (2, .int (nI N)), (3, .int (nI P)), (4, .int (nI Q)), (5, .ref (B.2.1 29 0 0)), (6, .int (nI al)), (7, .ref (B.2.1 29 1 0)), (8, .ref (B.2.1 29 2 0)), (9, .int (nI tk)), (10, .int (nI t)), (22, .int (nI (w.1.1 1))), (23, .ref (B.2.1 29 3 0)), (24, .int (nI (msk w.1 (c + 1)))), (25, .int (nI (wSm w.1 (c + 1)))), (26, .int (nI (bk w.1 (c + 1)))), (27, .int (nI (cSm w.1 (c + 1)))), (28, .int (nI c)), (29, .int (nI 1))] [] := by
                                        intro V112 hL113
                                        refine g_aload X 8 rfl dL_law_792 ?_
                                        refine g_iload X 17 rfl dL_law_794 ?_
                                        refine g_aload_n X 1 rfl dL_law_796 ?_
                                        refine g_iload X 17 rfl dL_law_797 ?_
                                        refine g_iconst X (nI 3) (by decide) dL_law_799 ?_
                                        refine g_callV X hR (rest := [.int (nI c), .ref (B.2.1 29 2 0)]) mX6_cart lL_40 (c_cart hI V112 w a71 c 3 hL113 hw (by first | assumption | decide | omega) (by first | assumption | decide | omega)) rfl rfl (Nat.le_of_ble_eq_true rfl) ⟨by decide, by decide⟩ rfl rfl rfl ⟨Nat.le_of_ble_eq_true rfl, Nat.le_of_ble_eq_true rfl, hnc, hns⟩ dL_law_800 (fun r114 V115 hz_116 => ?_)
                                        refine gG_rv hz_116.1 ?_
                                        have hL117 := hz_116.2
                                        refine gG_n (nc, ns) rfl ?_
                                        refine gG_st [.int (nI (w.1.2.2.2.1 c 5)), .int (nI c), .ref (B.2.1 29 2 0)] rfl ?_
                                        refine g_oast X (c) (by rw [hown]; decide) rfl (by show c < 16; first | decide | omega) dL_law_803 ?_
                                        obtain ⟨a119, ea119⟩ : ∃ y, y = aup a71 2 c (nI (w.1.2.2.2.1 c 5)) := ⟨_, rfl⟩
                                        have hL120 : gLS (gup V115 29 2 0 c (nI (w.1.2.2.2.1 c 5))) w a119 := by rw [ea119]; exact hL117.own 2 c (nI (w.1.2.2.2.1 c 5))
                                        generalize gup V115 29 2 0 c (nI (w.1.2.2.2.1 c 5)) = V118 at hL120 ⊢
                                        refine g_aload X 7 rfl dL_law_804 ?_
                                        refine g_iload X 17 rfl dL_law_806 ?_
                                        refine g_iload X 18 rfl dL_law_808 ?_
                                        refine g_oast X (c) (by rw [hown]; decide) rfl (by show c < 16; first | decide | omega) dL_law_810 ?_
                                        obtain ⟨a122, ea122⟩ : ∃ y, y = aup a119 1 c (nI 1) := ⟨_, rfl⟩
                                        have hL123 : gLS (gup V118 29 1 0 c (nI 1)) w a122 := by rw [ea122]; exact hL120.own 1 c (nI 1)
                                        generalize gup V118 29 1 0 c (nI 1) = V121 at hL123 ⊢
                                        refine g_iinc X 17 rfl (nI (c + 1)) (iinc_1 _) dL_law_811 [(28, .int (nI (c + 1))), (0, .ref b), (1, .ref (B.2.1 0 0 0)), (2, .int (nI N)), (3, .int (nI P)), (4, .int (nI Q)), (5, .ref (B.2.1 29 0 0)), (6, .int (nI al)), (7, .ref (B.2.1 29 1 0)), (8, .ref (B.2.1 29 2 0)), (9, .int (nI tk)), (10, .int (nI t)), (22, .int (nI (w.1.1 1))), (23, .ref (B.2.1 29 3 0)), (24, .int (nI (msk w.1 (c + 1)))), (25, .int (nI (wSm w.1 (c + 1)))), (26, .int (nI (bk w.1 (c + 1)))), (27, .int (nI (cSm w.1 (c + 1)))), (29, .int (nI 1))] rfl (gnl_lt hnL (by decide)) ?_
                                        refine g_goto X 525 (by decide) dL_law_814 ?_
                                        refine gG_L [1, 2, 3, 4, 5, 6, 7, 8, 9, 10, 11, 12, 13, 14, 15, 16, 17, 0] (L' := [(0, .ref b), (1, .ref (B.2.1 0 0 0)), (2, .int (nI N)), (3, .int (nI P)), (4, .int (nI Q)), (5, .ref (B.2.1 29 0 0)), (6, .int (nI al)), (7, .ref (B.2.1 29 1 0)), (8, .ref (B.2.1 29 2 0)), (9, .int (nI tk)), (10, .int (nI t)), (22, .int (nI (w.1.1 1))), (23, .ref (B.2.1 29 3 0)), (24, .int (nI (msk w.1 (c + 1)))), (25, .int (nI (wSm w.1 (c + 1)))), (26, .int (nI (bk w.1 (c + 1)))), (27, .int (nI (cSm w.1 (c + 1)))), (28, .int (nI (c + 1)))]) rfl ?_
                                        refine ih (c + 1) V121 a122 (by omega) hL123 ?_
                                        have hst := hAR.step hc (by omega)
                                        rw [h8] at hst
                                        rw [ea122, ea119, ea71]
                                        exact hst
                                      refine g_aload_n X 1 rfl dL_law_762 ?_
                                      refine g_iload X 17 rfl dL_law_763 ?_
                                      refine g_iconst X (nI 3) (by decide) dL_law_765 ?_
                                      refine g_callV X hR (rest := []) mX6_cart lL_40 (c_cart hI V109 w a71 c 3 hL110 hw (by first | assumption | decide | omega) (by first | assumption | decide | omega)) rfl rfl (Nat.le_of_ble_eq_true rfl) ⟨by decide, by decide⟩ rfl rfl rfl ⟨Nat.le_of_ble_eq_true rfl, Nat.le_of_ble_eq_true rfl, hnc, hns⟩ dL_law_766 (fun r124 V125 hz_126 => ?_)
                                      refine gG_rv hz_126.1 ?_
                                      have hL127 := hz_126.2
                                      refine gG_n (nc, ns) rfl ?_
                                      refine gG_st [.int (nI (w.1.2.2.2.1 c 5))] rfl ?_
                                      refine g_aload X 8 rfl dL_law_769 ?_
                                      refine g_iload X 17 rfl dL_law_771 ?_
                                      refine g_oald X (c) (by rw [hown]; decide) rfl (by show c < 16; first | decide | omega) dL_law_773 ?_
                                      refine gG_top (a71 2 c) (congrFun (hL127.2.2 2) _) ?_
                                      refine gG_top (nI (S0.2.2.2.1 c 5)) (hA.2.2) ?_
                                      by_cases h5 : w.1.2.2.2.1 c 5 = S0.2.2.2.1 c 5
                                      · skip
                                        refine g_icmp_eq X 792 (by decide) dL_law_774 (fun c128 => ?_) (fun c128 => ?_)
                                        · exact jn111 _ hL127
                                        · first | exact absurd (congrArg nI h5) c128 | exact absurd c128 (congrArg nI h5)
                                      · skip
                                        refine g_icmp_eq X 792 (by decide) dL_law_774 (fun c129 => ?_) (fun c129 => ?_)
                                        · first | exact absurd (fun z => h5 ((nI_eq (by omega) (by omega)).mp z)) c129 | exact absurd c129 (fun z => h5 ((nI_eq (by omega) (by omega)).mp z))
                                        · refine g_aload X 8 rfl dL_law_777 ?_
                                          refine g_iload X 17 rfl dL_law_779 ?_
                                          refine g_oald X (c) (by rw [hown]; decide) rfl (by show c < 16; first | decide | omega) dL_law_781 ?_
                                          refine gG_top (a71 2 c) (congrFun (hL127.2.2 2) _) ?_
                                          refine gG_top (nI (S0.2.2.2.1 c 5)) (hA.2.2) ?_
                                          refine g_aload X 5 rfl dL_law_782 ?_
                                          refine g_iload X 17 rfl dL_law_784 ?_
                                          refine g_oald X (c) (by rw [hown]; decide) rfl (by show c < 16; first | decide | omega) dL_law_786 ?_
                                          refine gG_top (a71 0 c) (congrFun (hL127.2.2 0) _) ?_
                                          refine gG_top (nI (c0 c)) (hA.1 c hc) ?_
                                          refine g_icmp_eq X 792 (by decide) dL_law_787 (fun c130 => ?_) (fun c130 => ?_)
                                          · exact jn111 _ hL127
                                          · first | exact absurd (congrArg nI (Classical.byContradiction (fun q => h5 ((hR9 c hc).2 q)))) c130 | exact absurd c130 (congrArg nI (Classical.byContradiction (fun q => h5 ((hR9 c hc).2 q))))
                                    refine g_iload X 18 rfl dL_law_740 ?_
                                    refine g_aload_n X 6 rfl dL_law_742 ?_
                                    refine g_iload X 19 rfl dL_law_743 ?_
                                    refine g_iconst X (nI 4) (by decide) dL_law_745 ?_
                                    refine g_callV X hR (rest := [.int (nI (bk w.1 c))]) mX6_cart lL_40 (c_cart hI V105 w a71 c 4 hL107 hw (by first | assumption | decide | omega) (by first | assumption | decide | omega)) rfl rfl (Nat.le_of_ble_eq_true rfl) ⟨by decide, by decide⟩ rfl rfl rfl ⟨Nat.le_of_ble_eq_true rfl, Nat.le_of_ble_eq_true rfl, hnc, hns⟩ dL_law_746 (fun r131 V132 hz_133 => ?_)
                                    refine gG_rv hz_133.1 ?_
                                    have hL134 := hz_133.2
                                    refine gG_n (nc, ns) rfl ?_
                                    refine gG_st [.int (nI (w.1.2.2.2.1 c 1)), .int (nI (bk w.1 c))] rfl ?_
                                    refine g_iload X 16 rfl dL_law_749 ?_
                                    by_cases he1 : w.1.2.2.2.1 c 1 = w.1.1 1
                                    · skip
                                      refine g_icmp_ne X 758 (by decide) dL_law_751 (fun c135 => ?_) (fun c135 => ?_)
                                      · first | exact absurd (congrArg nI he1) c135 | exact absurd c135 (congrArg nI he1)
                                      · refine g_iconst X (nI 0) (by decide) dL_law_754 ?_
                                        refine g_goto X 759 (by decide) dL_law_755 ?_
                                        refine gG_top (nI (if w.1.2.2.2.1 c 1 = w.1.1 1 then 0 else 1)) (by rw [if_pos he1]) ?_
                                        exact jn108 _ hL134
                                    · skip
                                      refine g_icmp_ne X 758 (by decide) dL_law_751 (fun c136 => ?_) (fun c136 => ?_)
                                      · refine g_iconst X (nI 1) (by decide) dL_law_758 ?_
                                        refine gG_top (nI (if w.1.2.2.2.1 c 1 = w.1.1 1 then 0 else 1)) (by rw [if_neg he1]) ?_
                                        exact jn108 _ hL134
                                      · first | exact absurd (fun z => he1 ((nI_eq (by omega) (by omega)).mp z)) c136 | exact absurd c136 (fun z => he1 ((nI_eq (by omega) (by omega)).mp z))
                                  ·  exact absurd c103 (by decide)
                              ·  exact absurd c101 (by decide)
                        refine g_aload X 10 rfl dL_law_633 ?_
                        refine g_iload X 19 rfl dL_law_635 ?_
                        refine g_oald X (c) (by rw [hown]; decide) rfl (by show c < 16; first | decide | omega) dL_law_637 ?_
                        refine gG_top (a71 1 c) (congrFun (hL83.2.2 1) _) ?_
                        refine gG_top (nI (S0.2.2.2.1 c 8)) (hA.2.1) ?_
                        refine g_iconst X (nI 1) (by decide) dL_law_638 ?_
                        by_cases hb1 : S0.2.2.2.1 c 8 ≤ 1
                        · skip
                          refine g_icmp_le X 652 (by decide) dL_law_639 (fun c137 => ?_) (fun c137 => ?_)
                          · exact jn88 _ hL83
                          · first | exact absurd (nI_le hb1 (by decide)) c137 | exact absurd c137 (nI_le hb1 (by decide))
                        · skip
                          refine g_icmp_le X 652 (by decide) dL_law_639 (fun c138 => ?_) (fun c138 => ?_)
                          · first | exact absurd (nI_ge (by omega) (by omega)) c138 | exact absurd c138 (nI_ge (by omega) (by omega))
                          · refine g_iload X 2 rfl dL_law_642 ?_
                            refine g_aload X 10 rfl dL_law_644 ?_
                            refine g_iload X 19 rfl dL_law_646 ?_
                            refine g_oald X (c) (by rw [hown]; decide) rfl (by show c < 16; first | decide | omega) dL_law_648 ?_
                            refine gG_top (a71 1 c) (congrFun (hL83.2.2 1) _) ?_
                            refine gG_top (nI (S0.2.2.2.1 c 8)) (hA.2.1) ?_
                            refine g_icmp_ne X 698 (by decide) dL_law_649 (fun c139 => ?_) (fun c139 => ?_)
                            · first | exact absurd (congrArg nI (by have := (hR9 c hc).1 (by omega); omega)) c139 | exact absurd c139 (congrArg nI (by have := (hR9 c hc).1 (by omega); omega))
                            · exact jn88 _ hL83
                      · first | exact absurd (nI_lt (by omega) (by omega)) c87 | exact absurd c87 (nI_lt (by omega) (by omega))
                  ·  exact absurd c85 (by decide)
                ·  exact absurd c84 (by decide)
        · refine gG_Le [(29, .int (nI 2)), (0, .ref b), (1, .ref (B.2.1 0 0 0)), (2, .int (nI N)), (3, .int (nI P)), (4, .int (nI Q)), (5, .ref (B.2.1 29 0 0)), (6, .int (nI al)), (7, .ref (B.2.1 29 1 0)), (8, .ref (B.2.1 29 2 0)), (9, .int (nI tk)), (10, .int (nI t)), (22, .int (nI (w.1.1 1))), (23, .ref (B.2.1 29 3 0)), (24, .int (nI (msk w.1 c))), (25, .int (nI (wSm w.1 c))), (26, .int (nI (bk w.1 c))), (27, .int (nI (cSm w.1 c))), (28, .int (nI c))] (by rw [h8]) ?_
          refine g_aload_n X 2 rfl dL_law_540 ?_
          refine g_iload X 18 rfl dL_law_541 ?_
          refine g_bipush X (nI 6) (by decide) dL_law_543 ?_
          refine g_callV X hR (rest := []) mX6_cart lL_40 (c_cart hI V3 w a c 6 hL5 hw (by first | assumption | decide | omega) (by first | assumption | decide | omega)) rfl rfl (Nat.le_of_ble_eq_true rfl) ⟨by decide, by decide⟩ rfl rfl rfl ⟨Nat.le_of_ble_eq_true rfl, Nat.le_of_ble_eq_true rfl, hnc, hns⟩ dL_law_545 (fun r140 V141 hz_142 => ?_)
          refine gG_rv hz_142.1 ?_
          have hL143 := hz_142.2
          refine gG_n (nc, ns) rfl ?_
          refine gG_st [.int (sPlc w.1 c)] rfl ?_
          refine gG_top ((-1)) (plc_off (by omega)) ?_
          refine g_istore X dL_law_548 [(30, .int ((-1))), (29, .int (nI 2)), (0, .ref b), (1, .ref (B.2.1 0 0 0)), (2, .int (nI N)), (3, .int (nI P)), (4, .int (nI Q)), (5, .ref (B.2.1 29 0 0)), (6, .int (nI al)), (7, .ref (B.2.1 29 1 0)), (8, .ref (B.2.1 29 2 0)), (9, .int (nI tk)), (10, .int (nI t)), (22, .int (nI (w.1.1 1))), (23, .ref (B.2.1 29 3 0)), (24, .int (nI (msk w.1 c))), (25, .int (nI (wSm w.1 c))), (26, .int (nI (bk w.1 c))), (27, .int (nI (cSm w.1 c))), (28, .int (nI c))] rfl (gnl_lt hnL (by decide)) ?_
          refine g_aload X 14 rfl dL_law_550 ?_
          refine g_iload X 1 rfl dL_law_552 ?_
          refine g_dup2 X rfl rfl dL_law_554 ?_
          refine g_oald X (2) (by rw [hown]; decide) rfl (by show 2 < 4; first | decide | omega) dL_law_555 ?_
          refine gG_top (a 3 2) (congrFun (hL143.2.2 3) _) ?_
          refine gG_top (nI (stc w.1 2 c)) (hAR.2.2 _ (by decide)) ?_
          refine g_iconst X (nI 1) (by decide) dL_law_556 ?_
          refine g_iadd X dL_law_557 ?_
          refine gG_top (nI ((stc w.1 2 c) + 1)) (nI_add (stc w.1 2 c) 1) ?_
          refine g_oast X (2) (by rw [hown]; decide) rfl (by show 2 < 4; first | decide | omega) dL_law_558 ?_
          obtain ⟨a145, ea145⟩ : ∃ y, y = aup a 3 2 (nI ((stc w.1 2 c) + 1)) := ⟨_, rfl⟩
          have hL146 : gLS (gup V141 29 3 0 2 (nI ((stc w.1 2 c) + 1))) w a145 := by rw [ea145]; exact hL143.own 3 2 (nI ((stc w.1 2 c) + 1))
          generalize gup V141 29 3 0 2 (nI ((stc w.1 2 c) + 1)) = V144 at hL146 ⊢
          have hA : (∀ i, i < N → a145 0 i = nI (c0 i)) ∧ a145 1 c = nI (S0.2.2.2.1 c 8) ∧ a145 2 c = nI (S0.2.2.2.1 c 5) := by rw [ea145]; exact hAR.pre hc _ _
          refine g_iload X 18 rfl dL_law_559 ?_
          refine g_aload_n X 3 rfl dL_law_561 ?_
          refine g_iload X 19 rfl dL_law_562 ?_
          refine g_iconst X (nI 3) (by decide) dL_law_564 ?_
          refine g_callV X hR (rest := [.int (nI (cSm w.1 c))]) mX6_cart lL_40 (c_cart hI V144 w a145 c 3 hL146 hw (by first | assumption | decide | omega) (by first | assumption | decide | omega)) rfl rfl (Nat.le_of_ble_eq_true rfl) ⟨by decide, by decide⟩ rfl rfl rfl ⟨Nat.le_of_ble_eq_true rfl, Nat.le_of_ble_eq_true rfl, hnc, hns⟩ dL_law_565 (fun r147 V148 hz_149 => ?_)
          refine gG_rv hz_149.1 ?_
          have hL150 := hz_149.2
          refine gG_n (nc, ns) rfl ?_
          refine gG_st [.int (nI (w.1.2.2.2.1 c 5)), .int (nI (cSm w.1 c))] rfl ?_
          refine g_iadd X dL_law_568 ?_
          refine gG_top (nI ((cSm w.1 c) + (w.1.2.2.2.1 c 5))) (nI_add (cSm w.1 c) (w.1.2.2.2.1 c 5)) ?_
          refine gG_top (nI (cSm w.1 (c + 1))) (by rw [cSm_s]) ?_
          refine g_istore X dL_law_569 [(27, .int (nI (cSm w.1 (c + 1)))), (30, .int ((-1))), (29, .int (nI 2)), (0, .ref b), (1, .ref (B.2.1 0 0 0)), (2, .int (nI N)), (3, .int (nI P)), (4, .int (nI Q)), (5, .ref (B.2.1 29 0 0)), (6, .int (nI al)), (7, .ref (B.2.1 29 1 0)), (8, .ref (B.2.1 29 2 0)), (9, .int (nI tk)), (10, .int (nI t)), (22, .int (nI (w.1.1 1))), (23, .ref (B.2.1 29 3 0)), (24, .int (nI (msk w.1 c))), (25, .int (nI (wSm w.1 c))), (26, .int (nI (bk w.1 c))), (28, .int (nI c))] rfl (gnl_lt hnL (by decide)) ?_
          refine g_iload X 2 rfl dL_law_571 ?_
          refine g_iconst X (nI 1) (by decide) dL_law_573 ?_
          refine g_icmp_ne X 581 (by decide) dL_law_574 (fun c151 => ?_) (fun c151 => ?_)
          · refine g_iconst X (nI 0) (by decide) dL_law_581 ?_
            refine g_iload X 1 rfl dL_law_582 ?_
            refine g_if_lt X 591 (by decide) dL_law_584 (fun c152 => ?_) (fun c152 => ?_)
            · refine g_iconst X (nI 0) (by decide) dL_law_591 ?_
              refine g_icmp_ne X 631 (by decide) dL_law_592 (fun c153 => ?_) (fun c153 => ?_)
              ·  exact absurd c153 (by decide)
              · refine g_aload_n X 4 rfl dL_law_595 ?_
                refine g_iload X 19 rfl dL_law_596 ?_
                refine g_bipush X (nI 8) (by decide) dL_law_598 ?_
                refine g_callV X hR (rest := []) mX6_cart lL_40 (c_cart hI V148 w a145 c 8 hL150 hw (by first | assumption | decide | omega) (by first | assumption | decide | omega)) rfl rfl (Nat.le_of_ble_eq_true rfl) ⟨by decide, by decide⟩ rfl rfl rfl ⟨Nat.le_of_ble_eq_true rfl, Nat.le_of_ble_eq_true rfl, hnc, hns⟩ dL_law_600 (fun r154 V155 hz_156 => ?_)
                refine gG_rv hz_156.1 ?_
                have hL157 := hz_156.2
                refine gG_n (nc, ns) rfl ?_
                refine gG_st [.int (w.1.2.2.2.2 c)] rfl ?_
                obtain ⟨tt, htt, hot⟩ := hw.1.2.2.2.2.2.2.2 c (by omega) h8
                refine gG_top (nI tt) (hot) ?_
                refine g_if_lt X 610 (by decide) dL_law_603 (fun c158 => ?_) (fun c158 => ?_)
                · first | exact absurd (nI_pos (by omega)) c158 | exact absurd c158 (nI_pos (by omega))
                · refine g_iconst X (nI 1) (by decide) dL_law_606 ?_
                  refine g_goto X 611 (by decide) dL_law_607 ?_
                  refine g_iload X 2 rfl dL_law_611 ?_
                  refine g_iconst X (nI 2) (by decide) dL_law_613 ?_
                  refine g_icmp_ne X 621 (by decide) dL_law_614 (fun c159 => ?_) (fun c159 => ?_)
                  ·  exact absurd c159 (by decide)
                  · refine g_iconst X (nI 1) (by decide) dL_law_617 ?_
                    refine g_goto X 622 (by decide) dL_law_618 ?_
                    refine g_icmp_ne X 631 (by decide) dL_law_622 (fun c160 => ?_) (fun c160 => ?_)
                    ·  exact absurd c160 (by decide)
                    · refine g_iload X 1 rfl dL_law_625 ?_
                      refine g_iload_n X 6 rfl dL_law_627 ?_
                      refine g_icmp_lt X 633 (by decide) dL_law_628 (fun c161 => ?_) (fun c161 => ?_)
                      · have jn162 : ∀ V163 : gMem, gLS V163 w a145 → gG Z B (nc, ns) V163 652 [(27, .int (nI (cSm w.1 (c + 1)))), (30, .int ((-1))), (29, .int (nI 2)), (0, .ref b), (1, .ref (B.2.1 0 0 0)), (2, .int (nI N)), (3, .int (nI P)), (4, .int (nI Q)), (5, .ref (B.2.1 29 0 0)), (6, .int (nI al)), (7, .ref (B.2.1 29 1 0)), (8, .ref (B.2.1 29 2 0)), (9, .int (nI tk)), (10, .int (nI t)), (22, .int (nI (w.1.1 1))), (23, .ref (B.2.1 29 3 0)), (24, .int (nI (msk w.1 c))), (25, .int (nI (wSm w.1 c))), (26, .int (nI (bk w.1 c))), (28, .int (nI c))] [] := by
                          intro V163 hL164
                          refine g_aload_n X 4 rfl dL_law_652 ?_
                          refine g_iload X 19 rfl dL_law_653 ?_
                          refine g_iconst X (nI 3) (by decide) dL_law_655 ?_
                          refine g_callV X hR (rest := []) mX6_cart lL_40 (c_cart hI V163 w a145 c 3 hL164 hw (by first | assumption | decide | omega) (by first | assumption | decide | omega)) rfl rfl (Nat.le_of_ble_eq_true rfl) ⟨by decide, by decide⟩ rfl rfl rfl ⟨Nat.le_of_ble_eq_true rfl, Nat.le_of_ble_eq_true rfl, hnc, hns⟩ dL_law_656 (fun r165 V166 hz_167 => ?_)
                          refine gG_rv hz_167.1 ?_
                          have hL168 := hz_167.2
                          refine gG_n (nc, ns) rfl ?_
                          refine gG_st [.int (nI (w.1.2.2.2.1 c 5))] rfl ?_
                          refine g_aload X 8 rfl dL_law_659 ?_
                          refine g_iload X 19 rfl dL_law_661 ?_
                          refine g_oald X (c) (by rw [hown]; decide) rfl (by show c < 16; first | decide | omega) dL_law_663 ?_
                          refine gG_top (a145 0 c) (congrFun (hL168.2.2 0) _) ?_
                          refine gG_top (nI (c0 c)) (hA.1 c hc) ?_
                          refine g_icmp_gt X 698 (by decide) dL_law_664 (fun c169 => ?_) (fun c169 => ?_)
                          · first | exact absurd (nI_nlt (hI9.2.1 c (by omega)).1 (by have := hc0 c hc; omega)) c169 | exact absurd c169 (nI_nlt (hI9.2.1 c (by omega)).1 (by have := hc0 c hc; omega))
                          · refine g_aload_n X 4 rfl dL_law_667 ?_
                            refine g_iload X 19 rfl dL_law_668 ?_
                            refine g_iconst X (nI 3) (by decide) dL_law_670 ?_
                            refine g_callV X hR (rest := []) mX6_cart lL_40 (c_cart hI V166 w a145 c 3 hL168 hw (by first | assumption | decide | omega) (by first | assumption | decide | omega)) rfl rfl (Nat.le_of_ble_eq_true rfl) ⟨by decide, by decide⟩ rfl rfl rfl ⟨Nat.le_of_ble_eq_true rfl, Nat.le_of_ble_eq_true rfl, hnc, hns⟩ dL_law_671 (fun r170 V171 hz_172 => ?_)
                            refine gG_rv hz_172.1 ?_
                            have hL173 := hz_172.2
                            refine gG_n (nc, ns) rfl ?_
                            refine gG_st [.int (nI (w.1.2.2.2.1 c 5))] rfl ?_
                            refine g_if_lt X 698 (by decide) dL_law_674 (fun c174 => ?_) (fun c174 => ?_)
                            · first | exact absurd (nI_pos (by omega)) c174 | exact absurd c174 (nI_pos (by omega))
                            · refine g_iload X 2 rfl dL_law_677 ?_
                              refine g_iconst X (nI 3) (by decide) dL_law_679 ?_
                              refine g_icmp_ne X 700 (by decide) dL_law_680 (fun c175 => ?_) (fun c175 => ?_)
                              · refine g_iload X 2 rfl dL_law_700 ?_
                                refine g_iconst X (nI 1) (by decide) dL_law_702 ?_
                                refine g_icmp_ne X 762 (by decide) dL_law_703 (fun c176 => ?_) (fun c176 => ?_)
                                · refine gG_Le [(27, .int (nI (cSm w.1 (c + 1)))), (30, .int ((-1))), (29, .int (nI 2)), (0, .ref b), (1, .ref (B.2.1 0 0 0)), (2, .int (nI N)), (3, .int (nI P)), (4, .int (nI Q)), (5, .ref (B.2.1 29 0 0)), (6, .int (nI al)), (7, .ref (B.2.1 29 1 0)), (8, .ref (B.2.1 29 2 0)), (9, .int (nI tk)), (10, .int (nI t)), (22, .int (nI (w.1.1 1))), (23, .ref (B.2.1 29 3 0)), (24, .int (nI (msk w.1 (c + 1)))), (25, .int (nI (wSm w.1 (c + 1)))), (26, .int (nI (bk w.1 (c + 1)))), (28, .int (nI c))] (by rw [msk_s, wSm_s, bk_s, if_neg (by omega), if_neg (by omega), if_neg (by omega)]; exact rfl) ?_
                                  refine gG_L [3, 4, 5, 6, 7, 8, 9, 10, 11, 12, 13, 14, 15, 16, 17, 18, 0, 19, 2] (L' := [(0, .ref b), (1, .ref (B.2.1 0 0 0)), (2, .int (nI N)), (3, .int (nI P)), (4, .int (nI Q)), (5, .ref (B.2.1 29 0 0)), (6, .int (nI al)), (7, .ref (B.2.1 29 1 0)), (8, .ref (B.2.1 29 2 0)), (9, .int (nI tk)), (10, .int (nI t)), (22, .int (nI (w.1.1 1))), (23, .ref (B.2.1 29 3 0)), (24, .int (nI (msk w.1 (c + 1)))), (25, .int (nI (wSm w.1 (c + 1)))), (26, .int (nI (bk w.1 (c + 1)))), (27, .int (nI (cSm w.1 (c + 1)))), (28, .int (nI c)), (29, .int (nI 2))]) rfl ?_
                                  have jn177 : ∀ V178 : gMem, gLS V178 w a145 → gG Z B (nc, ns) V178 792 [(0, .ref b), (1, .ref (B.2.1 0 0 0)), (2, .int (nI N)), (3, .int (nI P)), (4, .int (nI Q)), (5, .ref (B.2.1 29 0 0)), (6, .int (nI al)), (7, .ref (B.2.1 29 1 0)), (8, .ref (B.2.1 29 2 0)), (9, .int (nI tk)), (10, .int (nI t)), (22, .int (nI (w.1.1 1))), (23, .ref (B.2.1 29 3 0)), (24, .int (nI (msk w.1 (c + 1)))), (25, .int (nI (wSm w.1 (c + 1)))), (26, .int (nI (bk w.1 (c + 1)))), (27, .int (nI (cSm w.1 (c + 1)))), (28, .int (nI c)), (29, .int (nI 2))] [] := by
                                    intro V178 hL179
                                    refine g_aload X 8 rfl dL_law_792 ?_
                                    refine g_iload X 17 rfl dL_law_794 ?_
                                    refine g_aload_n X 1 rfl dL_law_796 ?_
                                    refine g_iload X 17 rfl dL_law_797 ?_
                                    refine g_iconst X (nI 3) (by decide) dL_law_799 ?_
                                    refine g_callV X hR (rest := [.int (nI c), .ref (B.2.1 29 2 0)]) mX6_cart lL_40 (c_cart hI V178 w a145 c 3 hL179 hw (by first | assumption | decide | omega) (by first | assumption | decide | omega)) rfl rfl (Nat.le_of_ble_eq_true rfl) ⟨by decide, by decide⟩ rfl rfl rfl ⟨Nat.le_of_ble_eq_true rfl, Nat.le_of_ble_eq_true rfl, hnc, hns⟩ dL_law_800 (fun r180 V181 hz_182 => ?_)
                                    refine gG_rv hz_182.1 ?_
                                    have hL183 := hz_182.2
                                    refine gG_n (nc, ns) rfl ?_
                                    refine gG_st [.int (nI (w.1.2.2.2.1 c 5)), .int (nI c), .ref (B.2.1 29 2 0)] rfl ?_
                                    refine g_oast X (c) (by rw [hown]; decide) rfl (by show c < 16; first | decide | omega) dL_law_803 ?_
                                    obtain ⟨a185, ea185⟩ : ∃ y, y = aup a145 2 c (nI (w.1.2.2.2.1 c 5)) := ⟨_, rfl⟩
                                    have hL186 : gLS (gup V181 29 2 0 c (nI (w.1.2.2.2.1 c 5))) w a185 := by rw [ea185]; exact hL183.own 2 c (nI (w.1.2.2.2.1 c 5))
                                    generalize gup V181 29 2 0 c (nI (w.1.2.2.2.1 c 5)) = V184 at hL186 ⊢
                                    refine g_aload X 7 rfl dL_law_804 ?_
                                    refine g_iload X 17 rfl dL_law_806 ?_
                                    refine g_iload X 18 rfl dL_law_808 ?_
                                    refine g_oast X (c) (by rw [hown]; decide) rfl (by show c < 16; first | decide | omega) dL_law_810 ?_
                                    obtain ⟨a188, ea188⟩ : ∃ y, y = aup a185 1 c (nI 2) := ⟨_, rfl⟩
                                    have hL189 : gLS (gup V184 29 1 0 c (nI 2)) w a188 := by rw [ea188]; exact hL186.own 1 c (nI 2)
                                    generalize gup V184 29 1 0 c (nI 2) = V187 at hL189 ⊢
                                    refine g_iinc X 17 rfl (nI (c + 1)) (iinc_1 _) dL_law_811 [(28, .int (nI (c + 1))), (0, .ref b), (1, .ref (B.2.1 0 0 0)), (2, .int (nI N)), (3, .int (nI P)), (4, .int (nI Q)), (5, .ref (B.2.1 29 0 0)), (6, .int (nI al)), (7, .ref (B.2.1 29 1 0)), (8, .ref (B.2.1 29 2 0)), (9, .int (nI tk)), (10, .int (nI t)), (22, .int (nI (w.1.1 1))), (23, .ref (B.2.1 29 3 0)), (24, .int (nI (msk w.1 (c + 1)))), (25, .int (nI (wSm w.1 (c + 1)))), (26, .int (nI (bk w.1 (c + 1)))), (27, .int (nI (cSm w.1 (c + 1)))), (29, .int (nI 2))] rfl (gnl_lt hnL (by decide)) ?_
                                    refine g_goto X 525 (by decide) dL_law_814 ?_
                                    refine gG_L [1, 2, 3, 4, 5, 6, 7, 8, 9, 10, 11, 12, 13, 14, 15, 16, 17, 0] (L' := [(0, .ref b), (1, .ref (B.2.1 0 0 0)), (2, .int (nI N)), (3, .int (nI P)), (4, .int (nI Q)), (5, .ref (B.2.1 29 0 0)), (6, .int (nI al)), (7, .ref (B.2.1 29 1 0)), (8, .ref (B.2.1 29 2 0)), (9, .int (nI tk)), (10, .int (nI t)), (22, .int (nI (w.1.1 1))), (23, .ref (B.2.1 29 3 0)), (24, .int (nI (msk w.1 (c + 1)))), (25, .int (nI (wSm w.1 (c + 1)))), (26, .int (nI (bk w.1 (c + 1)))), (27, .int (nI (cSm w.1 (c + 1)))), (28, .int (nI (c + 1)))]) rfl ?_
                                    refine ih (c + 1) V187 a188 (by omega) hL189 ?_
                                    have hst := hAR.step hc (by omega)
                                    rw [h8] at hst
                                    rw [ea188, ea185, ea145]
                                    exact hst
                                  refine g_aload_n X 1 rfl dL_law_762 ?_
                                  refine g_iload X 17 rfl dL_law_763 ?_
                                  refine g_iconst X (nI 3) (by decide) dL_law_765 ?_
                                  refine g_callV X hR (rest := []) mX6_cart lL_40 (c_cart hI V171 w a145 c 3 hL173 hw (by first | assumption | decide | omega) (by first | assumption | decide | omega)) rfl rfl (Nat.le_of_ble_eq_true rfl) ⟨by decide, by decide⟩ rfl rfl rfl ⟨Nat.le_of_ble_eq_true rfl, Nat.le_of_ble_eq_true rfl, hnc, hns⟩ dL_law_766 (fun r190 V191 hz_192 => ?_)
                                  refine gG_rv hz_192.1 ?_
                                  have hL193 := hz_192.2
                                  refine gG_n (nc, ns) rfl ?_
                                  refine gG_st [.int (nI (w.1.2.2.2.1 c 5))] rfl ?_
                                  refine g_aload X 8 rfl dL_law_769 ?_
                                  refine g_iload X 17 rfl dL_law_771 ?_
                                  refine g_oald X (c) (by rw [hown]; decide) rfl (by show c < 16; first | decide | omega) dL_law_773 ?_
                                  refine gG_top (a145 2 c) (congrFun (hL193.2.2 2) _) ?_
                                  refine gG_top (nI (S0.2.2.2.1 c 5)) (hA.2.2) ?_
                                  by_cases h5 : w.1.2.2.2.1 c 5 = S0.2.2.2.1 c 5
                                  · skip
                                    refine g_icmp_eq X 792 (by decide) dL_law_774 (fun c194 => ?_) (fun c194 => ?_)
                                    · exact jn177 _ hL193
                                    · first | exact absurd (congrArg nI h5) c194 | exact absurd c194 (congrArg nI h5)
                                  · skip
                                    refine g_icmp_eq X 792 (by decide) dL_law_774 (fun c195 => ?_) (fun c195 => ?_)
                                    · first | exact absurd (fun z => h5 ((nI_eq (by omega) (by omega)).mp z)) c195 | exact absurd c195 (fun z => h5 ((nI_eq (by omega) (by omega)).mp z))
                                    · refine g_aload X 8 rfl dL_law_777 ?_
                                      refine g_iload X 17 rfl dL_law_779 ?_
                                      refine g_oald X (c) (by rw [hown]; decide) rfl (by show c < 16; first | decide | omega) dL_law_781 ?_
                                      refine gG_top (a145 2 c) (congrFun (hL193.2.2 2) _) ?_
                                      refine gG_top (nI (S0.2.2.2.1 c 5)) (hA.2.2) ?_
                                      refine g_aload X 5 rfl dL_law_782 ?_
                                      refine g_iload X 17 rfl dL_law_784 ?_
                                      refine g_oald X (c) (by rw [hown]; decide) rfl (by show c < 16; first | decide | omega) dL_law_786 ?_
                                      refine gG_top (a145 0 c) (congrFun (hL193.2.2 0) _) ?_
                                      refine gG_top (nI (c0 c)) (hA.1 c hc) ?_
                                      refine g_icmp_eq X 792 (by decide) dL_law_787 (fun c196 => ?_) (fun c196 => ?_)
                                      · exact jn177 _ hL193
                                      · first | exact absurd (congrArg nI (Classical.byContradiction (fun q => h5 ((hR9 c hc).2 q)))) c196 | exact absurd c196 (congrArg nI (Classical.byContradiction (fun q => h5 ((hR9 c hc).2 q))))
                                ·  exact absurd c176 (by decide)
                              ·  exact absurd c175 (by decide)
                        refine g_aload X 10 rfl dL_law_633 ?_
                        refine g_iload X 19 rfl dL_law_635 ?_
                        refine g_oald X (c) (by rw [hown]; decide) rfl (by show c < 16; first | decide | omega) dL_law_637 ?_
                        refine gG_top (a145 1 c) (congrFun (hL157.2.2 1) _) ?_
                        refine gG_top (nI (S0.2.2.2.1 c 8)) (hA.2.1) ?_
                        refine g_iconst X (nI 1) (by decide) dL_law_638 ?_
                        by_cases hb1 : S0.2.2.2.1 c 8 ≤ 1
                        · skip
                          refine g_icmp_le X 652 (by decide) dL_law_639 (fun c197 => ?_) (fun c197 => ?_)
                          · exact jn162 _ hL157
                          · first | exact absurd (nI_le hb1 (by decide)) c197 | exact absurd c197 (nI_le hb1 (by decide))
                        · skip
                          refine g_icmp_le X 652 (by decide) dL_law_639 (fun c198 => ?_) (fun c198 => ?_)
                          · first | exact absurd (nI_ge (by omega) (by omega)) c198 | exact absurd c198 (nI_ge (by omega) (by omega))
                          · refine g_iload X 2 rfl dL_law_642 ?_
                            refine g_aload X 10 rfl dL_law_644 ?_
                            refine g_iload X 19 rfl dL_law_646 ?_
                            refine g_oald X (c) (by rw [hown]; decide) rfl (by show c < 16; first | decide | omega) dL_law_648 ?_
                            refine gG_top (a145 1 c) (congrFun (hL157.2.2 1) _) ?_
                            refine gG_top (nI (S0.2.2.2.1 c 8)) (hA.2.1) ?_
                            refine g_icmp_ne X 698 (by decide) dL_law_649 (fun c199 => ?_) (fun c199 => ?_)
                            · first | exact absurd (congrArg nI (by have := (hR9 c hc).1 (by omega); omega)) c199 | exact absurd c199 (congrArg nI (by have := (hR9 c hc).1 (by omega); omega))
                            · exact jn162 _ hL157
                      · first | exact absurd (m1_lt (by omega)) c161 | exact absurd c161 (m1_lt (by omega))
            · first | exact absurd (by decide) c152 | exact absurd c152 (by decide)
          ·  exact absurd c151 (by decide)
        · refine gG_Le [(29, .int (nI 3)), (0, .ref b), (1, .ref (B.2.1 0 0 0)), (2, .int (nI N)), (3, .int (nI P)), (4, .int (nI Q)), (5, .ref (B.2.1 29 0 0)), (6, .int (nI al)), (7, .ref (B.2.1 29 1 0)), (8, .ref (B.2.1 29 2 0)), (9, .int (nI tk)), (10, .int (nI t)), (22, .int (nI (w.1.1 1))), (23, .ref (B.2.1 29 3 0)), (24, .int (nI (msk w.1 c))), (25, .int (nI (wSm w.1 c))), (26, .int (nI (bk w.1 c))), (27, .int (nI (cSm w.1 c))), (28, .int (nI c))] (by rw [h8]) ?_
          refine g_aload_n X 2 rfl dL_law_540 ?_
          refine g_iload X 18 rfl dL_law_541 ?_
          refine g_bipush X (nI 6) (by decide) dL_law_543 ?_
          refine g_callV X hR (rest := []) mX6_cart lL_40 (c_cart hI V3 w a c 6 hL5 hw (by first | assumption | decide | omega) (by first | assumption | decide | omega)) rfl rfl (Nat.le_of_ble_eq_true rfl) ⟨by decide, by decide⟩ rfl rfl rfl ⟨Nat.le_of_ble_eq_true rfl, Nat.le_of_ble_eq_true rfl, hnc, hns⟩ dL_law_545 (fun r200 V201 hz_202 => ?_)
          refine gG_rv hz_202.1 ?_
          have hL203 := hz_202.2
          refine gG_n (nc, ns) rfl ?_
          refine gG_st [.int (sPlc w.1 c)] rfl ?_
          refine gG_top ((-1)) (plc_off (by omega)) ?_
          refine g_istore X dL_law_548 [(30, .int ((-1))), (29, .int (nI 3)), (0, .ref b), (1, .ref (B.2.1 0 0 0)), (2, .int (nI N)), (3, .int (nI P)), (4, .int (nI Q)), (5, .ref (B.2.1 29 0 0)), (6, .int (nI al)), (7, .ref (B.2.1 29 1 0)), (8, .ref (B.2.1 29 2 0)), (9, .int (nI tk)), (10, .int (nI t)), (22, .int (nI (w.1.1 1))), (23, .ref (B.2.1 29 3 0)), (24, .int (nI (msk w.1 c))), (25, .int (nI (wSm w.1 c))), (26, .int (nI (bk w.1 c))), (27, .int (nI (cSm w.1 c))), (28, .int (nI c))] rfl (gnl_lt hnL (by decide)) ?_
          refine g_aload X 14 rfl dL_law_550 ?_
          refine g_iload X 1 rfl dL_law_552 ?_
          refine g_dup2 X rfl rfl dL_law_554 ?_
          refine g_oald X (3) (by rw [hown]; decide) rfl (by show 3 < 4; first | decide | omega) dL_law_555 ?_
          refine gG_top (a 3 3) (congrFun (hL203.2.2 3) _) ?_
          refine gG_top (nI (stc w.1 3 c)) (hAR.2.2 _ (by decide)) ?_
          refine g_iconst X (nI 1) (by decide) dL_law_556 ?_
          refine g_iadd X dL_law_557 ?_
          refine gG_top (nI ((stc w.1 3 c) + 1)) (nI_add (stc w.1 3 c) 1) ?_
          refine g_oast X (3) (by rw [hown]; decide) rfl (by show 3 < 4; first | decide | omega) dL_law_558 ?_
          obtain ⟨a205, ea205⟩ : ∃ y, y = aup a 3 3 (nI ((stc w.1 3 c) + 1)) := ⟨_, rfl⟩
          have hL206 : gLS (gup V201 29 3 0 3 (nI ((stc w.1 3 c) + 1))) w a205 := by rw [ea205]; exact hL203.own 3 3 (nI ((stc w.1 3 c) + 1))
          generalize gup V201 29 3 0 3 (nI ((stc w.1 3 c) + 1)) = V204 at hL206 ⊢
          have hA : (∀ i, i < N → a205 0 i = nI (c0 i)) ∧ a205 1 c = nI (S0.2.2.2.1 c 8) ∧ a205 2 c = nI (S0.2.2.2.1 c 5) := by rw [ea205]; exact hAR.pre hc _ _
          refine g_iload X 18 rfl dL_law_559 ?_
          refine g_aload_n X 3 rfl dL_law_561 ?_
          refine g_iload X 19 rfl dL_law_562 ?_
          refine g_iconst X (nI 3) (by decide) dL_law_564 ?_
          refine g_callV X hR (rest := [.int (nI (cSm w.1 c))]) mX6_cart lL_40 (c_cart hI V204 w a205 c 3 hL206 hw (by first | assumption | decide | omega) (by first | assumption | decide | omega)) rfl rfl (Nat.le_of_ble_eq_true rfl) ⟨by decide, by decide⟩ rfl rfl rfl ⟨Nat.le_of_ble_eq_true rfl, Nat.le_of_ble_eq_true rfl, hnc, hns⟩ dL_law_565 (fun r207 V208 hz_209 => ?_)
          refine gG_rv hz_209.1 ?_
          have hL210 := hz_209.2
          refine gG_n (nc, ns) rfl ?_
          refine gG_st [.int (nI (w.1.2.2.2.1 c 5)), .int (nI (cSm w.1 c))] rfl ?_
          refine g_iadd X dL_law_568 ?_
          refine gG_top (nI ((cSm w.1 c) + (w.1.2.2.2.1 c 5))) (nI_add (cSm w.1 c) (w.1.2.2.2.1 c 5)) ?_
          refine gG_top (nI (cSm w.1 (c + 1))) (by rw [cSm_s]) ?_
          refine g_istore X dL_law_569 [(27, .int (nI (cSm w.1 (c + 1)))), (30, .int ((-1))), (29, .int (nI 3)), (0, .ref b), (1, .ref (B.2.1 0 0 0)), (2, .int (nI N)), (3, .int (nI P)), (4, .int (nI Q)), (5, .ref (B.2.1 29 0 0)), (6, .int (nI al)), (7, .ref (B.2.1 29 1 0)), (8, .ref (B.2.1 29 2 0)), (9, .int (nI tk)), (10, .int (nI t)), (22, .int (nI (w.1.1 1))), (23, .ref (B.2.1 29 3 0)), (24, .int (nI (msk w.1 c))), (25, .int (nI (wSm w.1 c))), (26, .int (nI (bk w.1 c))), (28, .int (nI c))] rfl (gnl_lt hnL (by decide)) ?_
          refine g_iload X 2 rfl dL_law_571 ?_
          refine g_iconst X (nI 1) (by decide) dL_law_573 ?_
          refine g_icmp_ne X 581 (by decide) dL_law_574 (fun c211 => ?_) (fun c211 => ?_)
          · refine g_iconst X (nI 0) (by decide) dL_law_581 ?_
            refine g_iload X 1 rfl dL_law_582 ?_
            refine g_if_lt X 591 (by decide) dL_law_584 (fun c212 => ?_) (fun c212 => ?_)
            · refine g_iconst X (nI 0) (by decide) dL_law_591 ?_
              refine g_icmp_ne X 631 (by decide) dL_law_592 (fun c213 => ?_) (fun c213 => ?_)
              ·  exact absurd c213 (by decide)
              · refine g_aload_n X 4 rfl dL_law_595 ?_
                refine g_iload X 19 rfl dL_law_596 ?_
                refine g_bipush X (nI 8) (by decide) dL_law_598 ?_
                refine g_callV X hR (rest := []) mX6_cart lL_40 (c_cart hI V208 w a205 c 8 hL210 hw (by first | assumption | decide | omega) (by first | assumption | decide | omega)) rfl rfl (Nat.le_of_ble_eq_true rfl) ⟨by decide, by decide⟩ rfl rfl rfl ⟨Nat.le_of_ble_eq_true rfl, Nat.le_of_ble_eq_true rfl, hnc, hns⟩ dL_law_600 (fun r214 V215 hz_216 => ?_)
                refine gG_rv hz_216.1 ?_
                have hL217 := hz_216.2
                refine gG_n (nc, ns) rfl ?_
                refine gG_st [.int (w.1.2.2.2.2 c)] rfl ?_
                refine gG_top ((-1)) (hI9.1 c (by omega) (by omega)) ?_
                refine g_if_lt X 610 (by decide) dL_law_603 (fun c218 => ?_) (fun c218 => ?_)
                · refine g_iconst X (nI 0) (by decide) dL_law_610 ?_
                  refine g_iload X 2 rfl dL_law_611 ?_
                  refine g_iconst X (nI 2) (by decide) dL_law_613 ?_
                  refine g_icmp_ne X 621 (by decide) dL_law_614 (fun c219 => ?_) (fun c219 => ?_)
                  · refine g_iconst X (nI 0) (by decide) dL_law_621 ?_
                    refine g_icmp_ne X 631 (by decide) dL_law_622 (fun c220 => ?_) (fun c220 => ?_)
                    ·  exact absurd c220 (by decide)
                    · refine g_iload X 1 rfl dL_law_625 ?_
                      refine g_iload_n X 6 rfl dL_law_627 ?_
                      refine g_icmp_lt X 633 (by decide) dL_law_628 (fun c221 => ?_) (fun c221 => ?_)
                      · have jn222 : ∀ V223 : gMem, gLS V223 w a205 → gG Z B (nc, ns) V223 652 [(27, .int (nI (cSm w.1 (c + 1)))), (30, .int ((-1))), (29, .int (nI 3)), (0, .ref b), (1, .ref (B.2.1 0 0 0)), (2, .int (nI N)), (3, .int (nI P)), (4, .int (nI Q)), (5, .ref (B.2.1 29 0 0)), (6, .int (nI al)), (7, .ref (B.2.1 29 1 0)), (8, .ref (B.2.1 29 2 0)), (9, .int (nI tk)), (10, .int (nI t)), (22, .int (nI (w.1.1 1))), (23, .ref (B.2.1 29 3 0)), (24, .int (nI (msk w.1 c))), (25, .int (nI (wSm w.1 c))), (26, .int (nI (bk w.1 c))), (28, .int (nI c))] [] := by
                          intro V223 hL224
                          refine g_aload_n X 4 rfl dL_law_652 ?_
                          refine g_iload X 19 rfl dL_law_653 ?_
                          refine g_iconst X (nI 3) (by decide) dL_law_655 ?_
                          refine g_callV X hR (rest := []) mX6_cart lL_40 (c_cart hI V223 w a205 c 3 hL224 hw (by first | assumption | decide | omega) (by first | assumption | decide | omega)) rfl rfl (Nat.le_of_ble_eq_true rfl) ⟨by decide, by decide⟩ rfl rfl rfl ⟨Nat.le_of_ble_eq_true rfl, Nat.le_of_ble_eq_true rfl, hnc, hns⟩ dL_law_656 (fun r225 V226 hz_227 => ?_)
                          refine gG_rv hz_227.1 ?_
                          have hL228 := hz_227.2
                          refine gG_n (nc, ns) rfl ?_
                          refine gG_st [.int (nI (w.1.2.2.2.1 c 5))] rfl ?_
                          refine g_aload X 8 rfl dL_law_659 ?_
                          refine g_iload X 19 rfl dL_law_661 ?_
                          refine g_oald X (c) (by rw [hown]; decide) rfl (by show c < 16; first | decide | omega) dL_law_663 ?_
                          refine gG_top (a205 0 c) (congrFun (hL228.2.2 0) _) ?_
                          refine gG_top (nI (c0 c)) (hA.1 c hc) ?_
                          refine g_icmp_gt X 698 (by decide) dL_law_664 (fun c229 => ?_) (fun c229 => ?_)
                          · first | exact absurd (nI_nlt (hI9.2.1 c (by omega)).1 (by have := hc0 c hc; omega)) c229 | exact absurd c229 (nI_nlt (hI9.2.1 c (by omega)).1 (by have := hc0 c hc; omega))
                          · refine g_aload_n X 4 rfl dL_law_667 ?_
                            refine g_iload X 19 rfl dL_law_668 ?_
                            refine g_iconst X (nI 3) (by decide) dL_law_670 ?_
                            refine g_callV X hR (rest := []) mX6_cart lL_40 (c_cart hI V226 w a205 c 3 hL228 hw (by first | assumption | decide | omega) (by first | assumption | decide | omega)) rfl rfl (Nat.le_of_ble_eq_true rfl) ⟨by decide, by decide⟩ rfl rfl rfl ⟨Nat.le_of_ble_eq_true rfl, Nat.le_of_ble_eq_true rfl, hnc, hns⟩ dL_law_671 (fun r230 V231 hz_232 => ?_)
                            refine gG_rv hz_232.1 ?_
                            have hL233 := hz_232.2
                            refine gG_n (nc, ns) rfl ?_
                            refine gG_st [.int (nI (w.1.2.2.2.1 c 5))] rfl ?_
                            refine g_if_lt X 698 (by decide) dL_law_674 (fun c234 => ?_) (fun c234 => ?_)
                            · first | exact absurd (nI_pos (by omega)) c234 | exact absurd c234 (nI_pos (by omega))
                            · refine g_iload X 2 rfl dL_law_677 ?_
                              refine g_iconst X (nI 3) (by decide) dL_law_679 ?_
                              refine g_icmp_ne X 700 (by decide) dL_law_680 (fun c235 => ?_) (fun c235 => ?_)
                              ·  exact absurd c235 (by decide)
                              · refine g_aload_n X 4 rfl dL_law_683 ?_
                                refine g_iload X 19 rfl dL_law_684 ?_
                                refine g_iconst X (nI 3) (by decide) dL_law_686 ?_
                                refine g_callV X hR (rest := []) mX6_cart lL_40 (c_cart hI V231 w a205 c 3 hL233 hw (by first | assumption | decide | omega) (by first | assumption | decide | omega)) rfl rfl (Nat.le_of_ble_eq_true rfl) ⟨by decide, by decide⟩ rfl rfl rfl ⟨Nat.le_of_ble_eq_true rfl, Nat.le_of_ble_eq_true rfl, hnc, hns⟩ dL_law_687 (fun r236 V237 hz_238 => ?_)
                                refine gG_rv hz_238.1 ?_
                                have hL239 := hz_238.2
                                refine gG_n (nc, ns) rfl ?_
                                refine gG_st [.int (nI (w.1.2.2.2.1 c 5))] rfl ?_
                                refine g_aload X 8 rfl dL_law_690 ?_
                                refine g_iload X 19 rfl dL_law_692 ?_
                                refine g_oald X (c) (by rw [hown]; decide) rfl (by show c < 16; first | decide | omega) dL_law_694 ?_
                                refine gG_top (a205 0 c) (congrFun (hL239.2.2 0) _) ?_
                                refine gG_top (nI (c0 c)) (hA.1 c hc) ?_
                                refine g_icmp_eq X 700 (by decide) dL_law_695 (fun c240 => ?_) (fun c240 => ?_)
                                · refine g_iload X 2 rfl dL_law_700 ?_
                                  refine g_iconst X (nI 1) (by decide) dL_law_702 ?_
                                  refine g_icmp_ne X 762 (by decide) dL_law_703 (fun c241 => ?_) (fun c241 => ?_)
                                  · refine gG_Le [(27, .int (nI (cSm w.1 (c + 1)))), (30, .int ((-1))), (29, .int (nI 3)), (0, .ref b), (1, .ref (B.2.1 0 0 0)), (2, .int (nI N)), (3, .int (nI P)), (4, .int (nI Q)), (5, .ref (B.2.1 29 0 0)), (6, .int (nI al)), (7, .ref (B.2.1 29 1 0)), (8, .ref (B.2.1 29 2 0)), (9, .int (nI tk)), (10, .int (nI t)), (22, .int (nI (w.1.1 1))), (23, .ref (B.2.1 29 3 0)), (24, .int (nI (msk w.1 (c + 1)))), (25, .int (nI (wSm w.1 (c + 1)))), (26, .int (nI (bk w.1 (c + 1)))), (28, .int (nI c))] (by rw [msk_s, wSm_s, bk_s, if_neg (by omega), if_neg (by omega), if_neg (by omega)]; exact rfl) ?_
                                    refine gG_L [3, 4, 5, 6, 7, 8, 9, 10, 11, 12, 13, 14, 15, 16, 17, 18, 0, 19, 2] (L' := [(0, .ref b), (1, .ref (B.2.1 0 0 0)), (2, .int (nI N)), (3, .int (nI P)), (4, .int (nI Q)), (5, .ref (B.2.1 29 0 0)), (6, .int (nI al)), (7, .ref (B.2.1 29 1 0)), (8, .ref (B.2.1 29 2 0)), (9, .int (nI tk)), (10, .int (nI t)), (22, .int (nI (w.1.1 1))), (23, .ref (B.2.1 29 3 0)), (24, .int (nI (msk w.1 (c + 1)))), (25, .int (nI (wSm w.1 (c + 1)))), (26, .int (nI (bk w.1 (c + 1)))), (27, .int (nI (cSm w.1 (c + 1)))), (28, .int (nI c)), (29, .int (nI 3))]) rfl ?_
                                    have jn242 : ∀ V243 : gMem, gLS V243 w a205 → gG Z B (nc, ns) V243 792 [(0, .ref b), (1, .ref (B.2.1 0 0 0)), (2, .int (nI N)), (3, .int (nI P)), (4, .int (nI Q)), (5, .ref (B.2.1 29 0 0)), (6, .int (nI al)), (7, .ref (B.2.1 29 1 0)), (8, .ref (B.2.1 29 2 0)), (9, .int (nI tk)), (10, .int (nI t)), (22, .int (nI (w.1.1 1))), (23, .ref (B.2.1 29 3 0)), (24, .int (nI (msk w.1 (c + 1)))), (25, .int (nI (wSm w.1 (c + 1)))), (26, .int (nI (bk w.1 (c + 1)))), (27, .int (nI (cSm w.1 (c + 1)))), (28, .int (nI c)), (29, .int (nI 3))] [] := by
                                      intro V243 hL244
                                      refine g_aload X 8 rfl dL_law_792 ?_
                                      refine g_iload X 17 rfl dL_law_794 ?_
                                      refine g_aload_n X 1 rfl dL_law_796 ?_
                                      refine g_iload X 17 rfl dL_law_797 ?_
                                      refine g_iconst X (nI 3) (by decide) dL_law_799 ?_
                                      refine g_callV X hR (rest := [.int (nI c), .ref (B.2.1 29 2 0)]) mX6_cart lL_40 (c_cart hI V243 w a205 c 3 hL244 hw (by first | assumption | decide | omega) (by first | assumption | decide | omega)) rfl rfl (Nat.le_of_ble_eq_true rfl) ⟨by decide, by decide⟩ rfl rfl rfl ⟨Nat.le_of_ble_eq_true rfl, Nat.le_of_ble_eq_true rfl, hnc, hns⟩ dL_law_800 (fun r245 V246 hz_247 => ?_)
                                      refine gG_rv hz_247.1 ?_
                                      have hL248 := hz_247.2
                                      refine gG_n (nc, ns) rfl ?_
                                      refine gG_st [.int (nI (w.1.2.2.2.1 c 5)), .int (nI c), .ref (B.2.1 29 2 0)] rfl ?_
                                      refine g_oast X (c) (by rw [hown]; decide) rfl (by show c < 16; first | decide | omega) dL_law_803 ?_
                                      obtain ⟨a250, ea250⟩ : ∃ y, y = aup a205 2 c (nI (w.1.2.2.2.1 c 5)) := ⟨_, rfl⟩
                                      have hL251 : gLS (gup V246 29 2 0 c (nI (w.1.2.2.2.1 c 5))) w a250 := by rw [ea250]; exact hL248.own 2 c (nI (w.1.2.2.2.1 c 5))
                                      generalize gup V246 29 2 0 c (nI (w.1.2.2.2.1 c 5)) = V249 at hL251 ⊢
                                      refine g_aload X 7 rfl dL_law_804 ?_
                                      refine g_iload X 17 rfl dL_law_806 ?_
                                      refine g_iload X 18 rfl dL_law_808 ?_
                                      refine g_oast X (c) (by rw [hown]; decide) rfl (by show c < 16; first | decide | omega) dL_law_810 ?_
                                      obtain ⟨a253, ea253⟩ : ∃ y, y = aup a250 1 c (nI 3) := ⟨_, rfl⟩
                                      have hL254 : gLS (gup V249 29 1 0 c (nI 3)) w a253 := by rw [ea253]; exact hL251.own 1 c (nI 3)
                                      generalize gup V249 29 1 0 c (nI 3) = V252 at hL254 ⊢
                                      refine g_iinc X 17 rfl (nI (c + 1)) (iinc_1 _) dL_law_811 [(28, .int (nI (c + 1))), (0, .ref b), (1, .ref (B.2.1 0 0 0)), (2, .int (nI N)), (3, .int (nI P)), (4, .int (nI Q)), (5, .ref (B.2.1 29 0 0)), (6, .int (nI al)), (7, .ref (B.2.1 29 1 0)), (8, .ref (B.2.1 29 2 0)), (9, .int (nI tk)), (10, .int (nI t)), (22, .int (nI (w.1.1 1))), (23, .ref (B.2.1 29 3 0)), (24, .int (nI (msk w.1 (c + 1)))), (25, .int (nI (wSm w.1 (c + 1)))), (26, .int (nI (bk w.1 (c + 1)))), (27, .int (nI (cSm w.1 (c + 1)))), (29, .int (nI 3))] rfl (gnl_lt hnL (by decide)) ?_
                                      refine g_goto X 525 (by decide) dL_law_814 ?_
                                      refine gG_L [1, 2, 3, 4, 5, 6, 7, 8, 9, 10, 11, 12, 13, 14, 15, 16, 17, 0] (L' := [(0, .ref b), (1, .ref (B.2.1 0 0 0)), (2, .int (nI N)), (3, .int (nI P)), (4, .int (nI Q)), (5, .ref (B.2.1 29 0 0)), (6, .int (nI al)), (7, .ref (B.2.1 29 1 0)), (8, .ref (B.2.1 29 2 0)), (9, .int (nI tk)), (10, .int (nI t)), (22, .int (nI (w.1.1 1))), (23, .ref (B.2.1 29 3 0)), (24, .int (nI (msk w.1 (c + 1)))), (25, .int (nI (wSm w.1 (c + 1)))), (26, .int (nI (bk w.1 (c + 1)))), (27, .int (nI (cSm w.1 (c + 1)))), (28, .int (nI (c + 1)))]) rfl ?_
                                      refine ih (c + 1) V252 a253 (by omega) hL254 ?_
                                      have hst := hAR.step hc (by omega)
                                      rw [h8] at hst
                                      rw [ea253, ea250, ea205]
                                      exact hst
                                    refine g_aload_n X 1 rfl dL_law_762 ?_
                                    refine g_iload X 17 rfl dL_law_763 ?_
                                    refine g_iconst X (nI 3) (by decide) dL_law_765 ?_
                                    refine g_callV X hR (rest := []) mX6_cart lL_40 (c_cart hI V237 w a205 c 3 hL239 hw (by first | assumption | decide | omega) (by first | assumption | decide | omega)) rfl rfl (Nat.le_of_ble_eq_true rfl) ⟨by decide, by decide⟩ rfl rfl rfl ⟨Nat.le_of_ble_eq_true rfl, Nat.le_of_ble_eq_true rfl, hnc, hns⟩ dL_law_766 (fun r255 V256 hz_257 => ?_)
                                    refine gG_rv hz_257.1 ?_
                                    have hL258 := hz_257.2
                                    refine gG_n (nc, ns) rfl ?_
                                    refine gG_st [.int (nI (w.1.2.2.2.1 c 5))] rfl ?_
                                    refine g_aload X 8 rfl dL_law_769 ?_
                                    refine g_iload X 17 rfl dL_law_771 ?_
                                    refine g_oald X (c) (by rw [hown]; decide) rfl (by show c < 16; first | decide | omega) dL_law_773 ?_
                                    refine gG_top (a205 2 c) (congrFun (hL258.2.2 2) _) ?_
                                    refine gG_top (nI (S0.2.2.2.1 c 5)) (hA.2.2) ?_
                                    by_cases h5 : w.1.2.2.2.1 c 5 = S0.2.2.2.1 c 5
                                    · skip
                                      refine g_icmp_eq X 792 (by decide) dL_law_774 (fun c259 => ?_) (fun c259 => ?_)
                                      · exact jn242 _ hL258
                                      · first | exact absurd (congrArg nI h5) c259 | exact absurd c259 (congrArg nI h5)
                                    · skip
                                      refine g_icmp_eq X 792 (by decide) dL_law_774 (fun c260 => ?_) (fun c260 => ?_)
                                      · first | exact absurd (fun z => h5 ((nI_eq (by omega) (by omega)).mp z)) c260 | exact absurd c260 (fun z => h5 ((nI_eq (by omega) (by omega)).mp z))
                                      · refine g_aload X 8 rfl dL_law_777 ?_
                                        refine g_iload X 17 rfl dL_law_779 ?_
                                        refine g_oald X (c) (by rw [hown]; decide) rfl (by show c < 16; first | decide | omega) dL_law_781 ?_
                                        refine gG_top (a205 2 c) (congrFun (hL258.2.2 2) _) ?_
                                        refine gG_top (nI (S0.2.2.2.1 c 5)) (hA.2.2) ?_
                                        refine g_aload X 5 rfl dL_law_782 ?_
                                        refine g_iload X 17 rfl dL_law_784 ?_
                                        refine g_oald X (c) (by rw [hown]; decide) rfl (by show c < 16; first | decide | omega) dL_law_786 ?_
                                        refine gG_top (a205 0 c) (congrFun (hL258.2.2 0) _) ?_
                                        refine gG_top (nI (c0 c)) (hA.1 c hc) ?_
                                        refine g_icmp_eq X 792 (by decide) dL_law_787 (fun c261 => ?_) (fun c261 => ?_)
                                        · exact jn242 _ hL258
                                        · first | exact absurd (congrArg nI (Classical.byContradiction (fun q => h5 ((hR9 c hc).2 q)))) c261 | exact absurd c261 (congrArg nI (Classical.byContradiction (fun q => h5 ((hR9 c hc).2 q))))
                                  ·  exact absurd c241 (by decide)
                                · first | exact absurd (congrArg nI ((hI9.2.1 c (by omega)).2.1 ((hI9.2.1 c (by omega)).2.2 h8))) c240 | exact absurd c240 (congrArg nI ((hI9.2.1 c (by omega)).2.1 ((hI9.2.1 c (by omega)).2.2 h8)))
                        refine g_aload X 10 rfl dL_law_633 ?_
                        refine g_iload X 19 rfl dL_law_635 ?_
                        refine g_oald X (c) (by rw [hown]; decide) rfl (by show c < 16; first | decide | omega) dL_law_637 ?_
                        refine gG_top (a205 1 c) (congrFun (hL217.2.2 1) _) ?_
                        refine gG_top (nI (S0.2.2.2.1 c 8)) (hA.2.1) ?_
                        refine g_iconst X (nI 1) (by decide) dL_law_638 ?_
                        by_cases hb1 : S0.2.2.2.1 c 8 ≤ 1
                        · skip
                          refine g_icmp_le X 652 (by decide) dL_law_639 (fun c262 => ?_) (fun c262 => ?_)
                          · exact jn222 _ hL217
                          · first | exact absurd (nI_le hb1 (by decide)) c262 | exact absurd c262 (nI_le hb1 (by decide))
                        · skip
                          refine g_icmp_le X 652 (by decide) dL_law_639 (fun c263 => ?_) (fun c263 => ?_)
                          · first | exact absurd (nI_ge (by omega) (by omega)) c263 | exact absurd c263 (nI_ge (by omega) (by omega))
                          · refine g_iload X 2 rfl dL_law_642 ?_
                            refine g_aload X 10 rfl dL_law_644 ?_
                            refine g_iload X 19 rfl dL_law_646 ?_
                            refine g_oald X (c) (by rw [hown]; decide) rfl (by show c < 16; first | decide | omega) dL_law_648 ?_
                            refine gG_top (a205 1 c) (congrFun (hL217.2.2 1) _) ?_
                            refine gG_top (nI (S0.2.2.2.1 c 8)) (hA.2.1) ?_
                            refine g_icmp_ne X 698 (by decide) dL_law_649 (fun c264 => ?_) (fun c264 => ?_)
                            · first | exact absurd (congrArg nI (by have := (hR9 c hc).1 (by omega); omega)) c264 | exact absurd c264 (congrArg nI (by have := (hR9 c hc).1 (by omega); omega))
                            · exact jn222 _ hL217
                      · first | exact absurd (m1_lt (by omega)) c221 | exact absurd c221 (m1_lt (by omega))
                  ·  exact absurd c219 (by decide)
                ·  exact absurd c218 (by decide)
            · first | exact absurd (by decide) c212 | exact absurd c212 (by decide)
          ·  exact absurd c211 (by decide)
