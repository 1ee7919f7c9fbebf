/-! the class's constructor -/
/-- a bridge, as it is made -/
def pBW (B : gB) (a : Nat) (W : va_W) : Prop := ∃ qa g0 r0 a0 g1 r1 a1 r2 a2 c, W = [(a, .inr (0, [.int 0, .int 0, .int 10, .int 200, .int 1, .int 1, .int 0, .ref qa, .ref g0, .ref g1, .ref r2])), (qa, .inl (B.2.2.1.2.1, 16, .inr (.inr (.inr (.inr (qf c 16)))))), (g0, .inr (3, [.ref r0, .int 0, .int 0, .int 0, .int 0])), (r0, .inr (4, [.ref a0, .int 0])), (a0, .inl (B.2.2.1.1, 16, .inl (fun _ => 0))), (g1, .inr (3, [.ref r1, .int 0, .int 0, .int 0, .int 0])), (r1, .inr (4, [.ref a1, .int 0])), (a1, .inl (B.2.2.1.1, 16, .inl (fun _ => 0))), (r2, .inr (4, [.ref a2, .int 0])), (a2, .inl (B.2.2.1.1, 16, .inl (fun _ => 0)))] ++ cCarts c 16

abbrev rmX6_init : Room := { frames := 4, cells := 82, slots := 853, locals := 81 }
set_option maxRecDepth 20000 in
theorem cn_class {l : Launch} {B : gB} (a : Nat)  : cM l B yX6_init cX6_init 1 rmX6_init [.ref a] a (.inr (5, [.null, .null, .null, .null, .null])) (fun e1 new => ∃ cd s1 s2 fg b0 b1 b2 W0 W1 W2, (a, e1) :: new = ((([(a, .inr (5, [.ref cd, .ref fg, .ref b0, .ref b1, .ref b2])), (cd, .inr (2, [.ref s1, .ref s2, .int 0])), (s1, .inl (B.2.2.1.1, 8, .inl (fun _ => 0))), (s2, .inl (B.2.2.1.1, 21, .inl (fun _ => 0))), (fg, .inl (B.2.2.1.1, 20, .inl (fun _ => 0)))] ++ W0) ++ W1) ++ W2) ∧ pBW B b0 W0 ∧ pBW B b1 W1 ∧ pBW B b2 W2) := by
  refine cM_of (own := RX6) (L := [(0, .ref a)]) (by decide +kernel) rfl rfl (Nat.le_of_ble_eq_true rfl) rfl ?_
  intro Z hnL hR X hN F
  refine c_aload_n X 0 rfl dX6_init_0 ?_
  refine c_objInit X hR qL_X6_1 ⟨Nat.le_of_ble_eq_true rfl, Nat.le_of_ble_eq_true rfl⟩ (Nat.le_of_ble_eq_true rfl) dX6_init_1 ?_
  refine c_aload_n X 0 rfl dX6_init_4 ?_
  refine c_new X hR (ci := 2) (N := 3) rfl gU_X2 tyX2 tyX2_ok qCL_X6_7 qIn_X2 qN_X2 (fs := [.null, .null, .int 0]) (fun j hj => by rcases (show j = 0 ∨ j = 1 ∨ j = 2 by omega) with rfl | rfl | rfl <;> rfl) ⟨Nat.le_of_ble_eq_true rfl, Nat.le_of_ble_eq_true rfl⟩ dX6_init_5 (fun q1 => ?_)
  refine cG_n (1, 3) rfl ?_
  refine cG_ws [(a, .inr (5, [.null, .null, .null, .null, .null])), (q1, .inr (2, [.null, .null, .int 0]))] rfl ?_
  refine c_dup X rfl dX6_init_8 ?_
  refine c_callI X hR (As := []) (rest := [.ref q1, .ref a]) qI_yX2_init qC_yX2_init qN_X2 (by decide +kernel) (k := 0) (by decide +kernel) rfl lX6_9 (cn_code q1 ) rfl rfl (Nat.le_of_ble_eq_true rfl) 1 rfl ⟨Nat.le_of_ble_eq_true rfl, Nat.le_of_ble_eq_true rfl, Nat.le_of_ble_eq_true rfl, Nat.le_of_ble_eq_true rfl⟩ dX6_init_9 (fun e9 new9 h9 => ?_)
  obtain ⟨q2, q3, rfl, rfl⟩ := h9
  refine cG_n (3, 32) rfl ?_
  refine cG_ws [(a, .inr (5, [.null, .null, .null, .null, .null])), (q1, .inr (2, [.ref q2, .ref q3, .int 0])), (q2, .inl (B.2.2.1.1, 8, .inl (fun _ => 0))), (q3, .inl (B.2.2.1.1, 21, .inl (fun _ => 0)))] rfl ?_
  refine c_putF X hN rfl gU_X6 tyX6 tyX6_ok nmX6 0 rfl 0 (by decide) rfl rfl (tyX6_ok 0 (by decide)) rfl rfl (Nat.le_of_ble_eq_true rfl) qF_X6_10 dX6_init_12 ?_
  refine cG_ws [(a, .inr (5, [.ref q1, .null, .null, .null, .null])), (q1, .inr (2, [.ref q2, .ref q3, .int 0])), (q2, .inl (B.2.2.1.1, 8, .inl (fun _ => 0))), (q3, .inl (B.2.2.1.1, 21, .inl (fun _ => 0)))] rfl ?_
  refine c_aload_n X 0 rfl dX6_init_15 ?_
  refine c_bipush X 20 (by decide) dX6_init_16 ?_
  refine c_newI X hR 20 rfl (by decide) ⟨Nat.le_of_ble_eq_true rfl, Nat.le_of_ble_eq_true rfl⟩ dX6_init_18 (fun q4 => ?_)
  refine cG_n (4, 52) rfl ?_
  refine cG_ws [(a, .inr (5, [.ref q1, .null, .null, .null, .null])), (q1, .inr (2, [.ref q2, .ref q3, .int 0])), (q2, .inl (B.2.2.1.1, 8, .inl (fun _ => 0))), (q3, .inl (B.2.2.1.1, 21, .inl (fun _ => 0))), (q4, .inl (B.2.2.1.1, 20, .inl (fun _ => 0)))] rfl ?_
  refine c_putF X hN rfl gU_X6 tyX6 tyX6_ok nmX6 0 rfl 1 (by decide) rfl rfl (tyX6_ok 1 (by decide)) rfl rfl (Nat.le_of_ble_eq_true rfl) qF_X6_16 dX6_init_20 ?_
  refine cG_ws [(a, .inr (5, [.ref q1, .ref q4, .null, .null, .null])), (q1, .inr (2, [.ref q2, .ref q3, .int 0])), (q2, .inl (B.2.2.1.1, 8, .inl (fun _ => 0))), (q3, .inl (B.2.2.1.1, 21, .inl (fun _ => 0))), (q4, .inl (B.2.2.1.1, 20, .inl (fun _ => 0)))] rfl ?_
  refine c_aload_n X 0 rfl dX6_init_23 ?_
  refine c_new X hR (ci := 0) (N := 11) rfl gU_X0 tyX0 tyX0_ok qCL_X6_20 qIn_X0 qN_X0 (fs := [.int 0, .int 0, .int 0, .int 0, .int 0, .int 0, .int 0, .null, .null, .null, .null]) (fun j hj => by rcases (show j = 0 ∨ j = 1 ∨ j = 2 ∨ j = 3 ∨ j = 4 ∨ j = 5 ∨ j = 6 ∨ j = 7 ∨ j = 8 ∨ j = 9 ∨ j = 10 by omega) with rfl | rfl | rfl | rfl | rfl | rfl | rfl | rfl | rfl | rfl | rfl <;> rfl) ⟨Nat.le_of_ble_eq_true rfl, Nat.le_of_ble_eq_true rfl⟩ dX6_init_24 (fun b0 => ?_)
  refine cG_n (5, 63) rfl ?_
  refine c_dup X rfl dX6_init_27 ?_
  refine c_callI X hR (As := []) (rest := [.ref b0, .ref a]) qI_yX0_init qC_yX0_init qN_X0 (by decide +kernel) (k := 0) (by decide +kernel) rfl lX6_22 (cn_bridge b0) rfl rfl (Nat.le_of_ble_eq_true rfl) _ (app_get _ _) ⟨Nat.le_of_ble_eq_true rfl, Nat.le_of_ble_eq_true rfl, Nat.le_of_ble_eq_true rfl, Nat.le_of_ble_eq_true rfl⟩ dX6_init_28 (fun e9 new9 h9 => ?_)
  obtain ⟨W0, hW0⟩ : ∃ W : va_W, W = (b0, e9) :: new9 := ⟨_, rfl⟩
  have hB0 : pBW B b0 W0 := by rw [hW0]; exact h9
  refine cG_n (30, 319) rfl ?_
  refine cG_ws ([(a, .inr (5, [.ref q1, .ref q4, .null, .null, .null])), (q1, .inr (2, [.ref q2, .ref q3, .int 0])), (q2, .inl (B.2.2.1.1, 8, .inl (fun _ => 0))), (q3, .inl (B.2.2.1.1, 21, .inl (fun _ => 0))), (q4, .inl (B.2.2.1.1, 20, .inl (fun _ => 0)))] ++ W0) ((app_set _ _ _ _).trans (by rw [hW0])) ?_
  refine c_putF X hN rfl gU_X6 tyX6 tyX6_ok nmX6 0 rfl 2 (by decide) rfl rfl (tyX6_ok 2 (by decide)) rfl rfl (Nat.le_of_ble_eq_true rfl) qF_X6_23 dX6_init_31 ?_
  refine cG_ws ([(a, .inr (5, [.ref q1, .ref q4, .ref b0, .null, .null])), (q1, .inr (2, [.ref q2, .ref q3, .int 0])), (q2, .inl (B.2.2.1.1, 8, .inl (fun _ => 0))), (q3, .inl (B.2.2.1.1, 21, .inl (fun _ => 0))), (q4, .inl (B.2.2.1.1, 20, .inl (fun _ => 0)))] ++ W0) rfl ?_
  refine c_aload_n X 0 rfl dX6_init_34 ?_
  refine c_new X hR (ci := 0) (N := 11) rfl gU_X0 tyX0 tyX0_ok qCL_X6_20 qIn_X0 qN_X0 (fs := [.int 0, .int 0, .int 0, .int 0, .int 0, .int 0, .int 0, .null, .null, .null, .null]) (fun j hj => by rcases (show j = 0 ∨ j = 1 ∨ j = 2 ∨ j = 3 ∨ j = 4 ∨ j = 5 ∨ j = 6 ∨ j = 7 ∨ j = 8 ∨ j = 9 ∨ j = 10 by omega) with rfl | rfl | rfl | rfl | rfl | rfl | rfl | rfl | rfl | rfl | rfl <;> rfl) ⟨Nat.le_of_ble_eq_true rfl, Nat.le_of_ble_eq_true rfl⟩ dX6_init_35 (fun b1 => ?_)
  refine cG_n (31, 330) rfl ?_
  refine c_dup X rfl dX6_init_38 ?_
  refine c_callI X hR (As := []) (rest := [.ref b1, .ref a]) qI_yX0_init qC_yX0_init qN_X0 (by decide +kernel) (k := 0) (by decide +kernel) rfl lX6_22 (cn_bridge b1) rfl rfl (Nat.le_of_ble_eq_true rfl) _ (app_get _ _) ⟨Nat.le_of_ble_eq_true rfl, Nat.le_of_ble_eq_true rfl, Nat.le_of_ble_eq_true rfl, Nat.le_of_ble_eq_true rfl⟩ dX6_init_39 (fun e9 new9 h9 => ?_)
  obtain ⟨W1, hW1⟩ : ∃ W : va_W, W = (b1, e9) :: new9 := ⟨_, rfl⟩
  have hB1 : pBW B b1 W1 := by rw [hW1]; exact h9
  refine cG_n (56, 586) rfl ?_
  refine cG_ws (([(a, .inr (5, [.ref q1, .ref q4, .ref b0, .null, .null])), (q1, .inr (2, [.ref q2, .ref q3, .int 0])), (q2, .inl (B.2.2.1.1, 8, .inl (fun _ => 0))), (q3, .inl (B.2.2.1.1, 21, .inl (fun _ => 0))), (q4, .inl (B.2.2.1.1, 20, .inl (fun _ => 0)))] ++ W0) ++ W1) ((app_set _ _ _ _).trans (by rw [hW1])) ?_
  refine c_putF X hN rfl gU_X6 tyX6 tyX6_ok nmX6 0 rfl 3 (by decide) rfl rfl (tyX6_ok 3 (by decide)) rfl rfl (Nat.le_of_ble_eq_true rfl) qF_X6_27 dX6_init_42 ?_
  refine cG_ws (([(a, .inr (5, [.ref q1, .ref q4, .ref b0, .ref b1, .null])), (q1, .inr (2, [.ref q2, .ref q3, .int 0])), (q2, .inl (B.2.2.1.1, 8, .inl (fun _ => 0))), (q3, .inl (B.2.2.1.1, 21, .inl (fun _ => 0))), (q4, .inl (B.2.2.1.1, 20, .inl (fun _ => 0)))] ++ W0) ++ W1) rfl ?_
  refine c_aload_n X 0 rfl dX6_init_45 ?_
  refine c_new X hR (ci := 0) (N := 11) rfl gU_X0 tyX0 tyX0_ok qCL_X6_20 qIn_X0 qN_X0 (fs := [.int 0, .int 0, .int 0, .int 0, .int 0, .int 0, .int 0, .null, .null, .null, .null]) (fun j hj => by rcases (show j = 0 ∨ j = 1 ∨ j = 2 ∨ j = 3 ∨ j = 4 ∨ j = 5 ∨ j = 6 ∨ j = 7 ∨ j = 8 ∨ j = 9 ∨ j = 10 by omega) with rfl | rfl | rfl | rfl | rfl | rfl | rfl | rfl | rfl | rfl | rfl <;> rfl) ⟨Nat.le_of_ble_eq_true rfl, Nat.le_of_ble_eq_true rfl⟩ dX6_init_46 (fun b2 => ?_)
  refine cG_n (57, 597) rfl ?_
  refine c_dup X rfl dX6_init_49 ?_
  refine c_callI X hR (As := []) (rest := [.ref b2, .ref a]) qI_yX0_init qC_yX0_init qN_X0 (by decide +kernel) (k := 0) (by decide +kernel) rfl lX6_22 (cn_bridge b2) rfl rfl (Nat.le_of_ble_eq_true rfl) _ (app_get _ _) ⟨Nat.le_of_ble_eq_true rfl, Nat.le_of_ble_eq_true rfl, Nat.le_of_ble_eq_true rfl, Nat.le_of_ble_eq_true rfl⟩ dX6_init_50 (fun e9 new9 h9 => ?_)
  obtain ⟨W2, hW2⟩ : ∃ W : va_W, W = (b2, e9) :: new9 := ⟨_, rfl⟩
  have hB2 : pBW B b2 W2 := by rw [hW2]; exact h9
  refine cG_n (82, 853) rfl ?_
  refine cG_ws ((([(a, .inr (5, [.ref q1, .ref q4, .ref b0, .ref b1, .null])), (q1, .inr (2, [.ref q2, .ref q3, .int 0])), (q2, .inl (B.2.2.1.1, 8, .inl (fun _ => 0))), (q3, .inl (B.2.2.1.1, 21, .inl (fun _ => 0))), (q4, .inl (B.2.2.1.1, 20, .inl (fun _ => 0)))] ++ W0) ++ W1) ++ W2) ((app_set _ _ _ _).trans (by rw [hW2])) ?_
  refine c_putF X hN rfl gU_X6 tyX6 tyX6_ok nmX6 0 rfl 4 (by decide) rfl rfl (tyX6_ok 4 (by decide)) rfl rfl (Nat.le_of_ble_eq_true rfl) qF_X6_30 dX6_init_53 ?_
  refine cG_ws ((([(a, .inr (5, [.ref q1, .ref q4, .ref b0, .ref b1, .ref b2])), (q1, .inr (2, [.ref q2, .ref q3, .int 0])), (q2, .inl (B.2.2.1.1, 8, .inl (fun _ => 0))), (q3, .inl (B.2.2.1.1, 21, .inl (fun _ => 0))), (q4, .inl (B.2.2.1.1, 20, .inl (fun _ => 0)))] ++ W0) ++ W1) ++ W2) rfl ?_
  exact c_ret (e1 := .inr (5, [.ref q1, .ref q4, .ref b0, .ref b1, .ref b2])) (new := ((([(q1, .inr (2, [.ref q2, .ref q3, .int 0])), (q2, .inl (B.2.2.1.1, 8, .inl (fun _ => 0))), (q3, .inl (B.2.2.1.1, 21, .inl (fun _ => 0))), (q4, .inl (B.2.2.1.1, 20, .inl (fun _ => 0)))] ++ W0) ++ W1) ++ W2)) X F rfl ⟨q1, q2, q3, q4, b0, b1, b2, W0, W1, W2, rfl, hB0, hB1, hB2⟩ rfl dX6_init_56

