abbrev rmX5_init : Room := { frames := 1, cells := 1, slots := 16, locals := 20 }
set_option maxRecDepth 20000 in
theorem cn_row {l : Launch} {B : gB} (a : Nat)  : cM l B yX5_init cX5_init 1 rmX5_init [.ref a] a (.inr (4, [.null, .int 0])) (fun e1 new => ∃ q, e1 = .inr (4, [.ref q, .int 0]) ∧ new = [(q, .inl (B.2.2.1.1, 16, .inl (fun _ => 0)))]) := by
  refine cM_of (own := RX5) (L := [(0, .ref a)]) (by decide +kernel) rfl rfl (Nat.le_of_ble_eq_true rfl) rfl ?_
  intro Z hnL hR X hN F
  refine c_aload_n X 0 rfl dX5_init_0 ?_
  refine c_objInit X hR qL_X5_3 ⟨Nat.le_of_ble_eq_true rfl, Nat.le_of_ble_eq_true rfl⟩ (Nat.le_of_ble_eq_true rfl) dX5_init_1 ?_
  refine c_aload_n X 0 rfl dX5_init_4 ?_
  refine c_bipush X 16 (by decide) dX5_init_5 ?_
  refine c_newI X hR 16 rfl (by decide) ⟨Nat.le_of_ble_eq_true rfl, Nat.le_of_ble_eq_true rfl⟩ dX5_init_7 (fun q1 => ?_)
  refine cG_n (1, 16) rfl ?_
  refine cG_ws ([(a, .inr (4, [.null, .int 0])), (q1, .inl (B.2.2.1.1, 16, .inl (fun _ => 0)))]) rfl ?_
  refine c_putF X hN rfl gU_X5 tyX5 tyX5_ok nmX5 0 rfl 0 (by decide) rfl rfl (tyX5_ok 0 (by decide)) rfl rfl (Nat.le_of_ble_eq_true rfl) qF_X5_9 dX5_init_9 ?_
  refine cG_ws ([(a, .inr (4, [.ref q1, .int 0])), (q1, .inl (B.2.2.1.1, 16, .inl (fun _ => 0)))]) rfl ?_
  exact c_ret X F rfl ⟨q1, rfl, rfl⟩ rfl dX5_init_12

abbrev rmX3_init : Room := { frames := 2, cells := 2, slots := 18, locals := 40 }
set_option maxRecDepth 20000 in
theorem cn_gate {l : Launch} {B : gB} (a : Nat)  : cM l B yX3_init cX3_init 1 rmX3_init [.ref a] a (.inr (3, [.null, .int 0, .int 0, .int 0, .int 0])) (fun e1 new => ∃ r q, e1 = .inr (3, [.ref r, .int 0, .int 0, .int 0, .int 0]) ∧ new = [(r, .inr (4, [.ref q, .int 0])), (q, .inl (B.2.2.1.1, 16, .inl (fun _ => 0)))]) := by
  refine cM_of (own := RX3) (L := [(0, .ref a)]) (by decide +kernel) rfl rfl (Nat.le_of_ble_eq_true rfl) rfl ?_
  intro Z hnL hR X hN F
  refine c_aload_n X 0 rfl dX3_init_0 ?_
  refine c_objInit X hR qL_X3_3 ⟨Nat.le_of_ble_eq_true rfl, Nat.le_of_ble_eq_true rfl⟩ (Nat.le_of_ble_eq_true rfl) dX3_init_1 ?_
  refine c_aload_n X 0 rfl dX3_init_4 ?_
  refine c_new X hR (ci := 4) (N := 2) rfl gU_X5 tyX5 tyX5_ok qCL_X3_9 qIn_X5 qN_X5 (fs := [.null, .int 0]) (fun j hj => by rcases (show j = 0 ∨ j = 1 by omega) with rfl | rfl <;> rfl) ⟨Nat.le_of_ble_eq_true rfl, Nat.le_of_ble_eq_true rfl⟩ dX3_init_5 (fun q1 => ?_)
  refine cG_n (1, 2) rfl ?_
  refine cG_ws ([(a, .inr (3, [.null, .int 0, .int 0, .int 0, .int 0])), (q1, .inr (4, [.null, .int 0]))]) rfl ?_
  refine c_dup X rfl dX3_init_8 ?_
  refine c_callI X hR (As := []) (rest := [.ref q1, .ref a]) qI_yX5_init qC_yX5_init qN_X5 (by decide +kernel) (k := 0) (by decide +kernel) rfl lX3_11 (cn_row q1 ) rfl rfl (Nat.le_of_ble_eq_true rfl) 1 rfl ⟨Nat.le_of_ble_eq_true rfl, Nat.le_of_ble_eq_true rfl, Nat.le_of_ble_eq_true rfl, Nat.le_of_ble_eq_true rfl⟩ dX3_init_9 (fun e9 new9 h9 => ?_)
  obtain ⟨q2, rfl, rfl⟩ := h9
  refine cG_n (2, 18) rfl ?_
  refine cG_ws ([(a, .inr (3, [.null, .int 0, .int 0, .int 0, .int 0])), (q1, .inr (4, [.ref q2, .int 0])), (q2, .inl (B.2.2.1.1, 16, .inl (fun _ => 0)))]) rfl ?_
  refine c_putF X hN rfl gU_X3 tyX3 tyX3_ok nmX3 0 rfl 0 (by decide) rfl rfl (tyX3_ok 0 (by decide)) rfl rfl (Nat.le_of_ble_eq_true rfl) qF_X3_12 dX3_init_12 ?_
  refine cG_ws ([(a, .inr (3, [.ref q1, .int 0, .int 0, .int 0, .int 0])), (q1, .inr (4, [.ref q2, .int 0])), (q2, .inl (B.2.2.1.1, 16, .inl (fun _ => 0)))]) rfl ?_
  exact c_ret X F rfl ⟨q1, q2, rfl, rfl⟩ rfl dX3_init_15

abbrev rmX1_init : Room := { frames := 1, cells := 0, slots := 0, locals := 20 }
set_option maxRecDepth 20000 in
theorem cn_cart {l : Launch} {B : gB} (a : Nat) (x : Int32) : cM l B yX1_init cX1_init 2 rmX1_init [.ref a, .int x] a (.inr (1, [.int 0, .int 0, .int 0, .int 0, .int 0, .int 0, .int 0, .int 0, .int 0, .int 0, .int 0])) (fun e1 new => e1 = .inr (1, [.int x, .int 0, .int 0, .int 0, .int 0, .int 0, .int 0, .int 0, .int 0, .int 0, .int (-1)]) ∧ new = []) := by
  refine cM_of (own := RX1) (L := [(0, .ref a), (1, .int x)]) (by decide +kernel) rfl rfl (Nat.le_of_ble_eq_true rfl) rfl ?_
  intro Z hnL hR X hN F
  refine c_aload_n X 0 rfl dX1_init_0 ?_
  refine c_objInit X hR qL_X1_3 ⟨Nat.le_of_ble_eq_true rfl, Nat.le_of_ble_eq_true rfl⟩ (Nat.le_of_ble_eq_true rfl) dX1_init_1 ?_
  refine c_aload_n X 0 rfl dX1_init_4 ?_
  refine c_iconst X 0 (by decide) dX1_init_5 ?_
  refine c_put X rfl gU_X1 tyX1 tyX1_ok nmX1 0 rfl 8 (by decide) rfl rfl (tyX1_ok 8 (by decide)) rfl rfl (Nat.le_of_ble_eq_true rfl) qF_X1_9 dX1_init_6 ?_
  refine cG_ws ([(a, .inr (1, [.int 0, .int 0, .int 0, .int 0, .int 0, .int 0, .int 0, .int 0, .int 0, .int 0, .int 0]))]) rfl ?_
  refine c_aload_n X 0 rfl dX1_init_9 ?_
  refine c_iconst X (-1) (by decide) dX1_init_10 ?_
  refine c_put X rfl gU_X1 tyX1 tyX1_ok nmX1 0 rfl 10 (by decide) rfl rfl (tyX1_ok 10 (by decide)) rfl rfl (Nat.le_of_ble_eq_true rfl) qF_X1_15 dX1_init_11 ?_
  refine cG_ws ([(a, .inr (1, [.int 0, .int 0, .int 0, .int 0, .int 0, .int 0, .int 0, .int 0, .int 0, .int 0, .int (-1)]))]) rfl ?_
  refine c_aload_n X 0 rfl dX1_init_14 ?_
  refine c_iload_n X 1 rfl dX1_init_15 ?_
  refine c_putF X hN rfl gU_X1 tyX1 tyX1_ok nmX1 0 rfl 0 (by decide) rfl rfl (tyX1_ok 0 (by decide)) rfl rfl (Nat.le_of_ble_eq_true rfl) qF_X1_18 dX1_init_16 ?_
  refine cG_ws ([(a, .inr (1, [.int x, .int 0, .int 0, .int 0, .int 0, .int 0, .int 0, .int 0, .int 0, .int 0, .int (-1)]))]) rfl ?_
  exact c_ret X F rfl ⟨rfl, rfl⟩ rfl dX1_init_19

abbrev rmX2_init : Room := { frames := 1, cells := 2, slots := 29, locals := 20 }
set_option maxRecDepth 20000 in
theorem cn_code {l : Launch} {B : gB} (a : Nat)  : cM l B yX2_init cX2_init 1 rmX2_init [.ref a] a (.inr (2, [.null, .null, .int 0])) (fun e1 new => ∃ q1 q2, e1 = .inr (2, [.ref q1, .ref q2, .int 0]) ∧ new = [(q1, .inl (B.2.2.1.1, 8, .inl (fun _ => 0))), (q2, .inl (B.2.2.1.1, 21, .inl (fun _ => 0)))]) := by
  refine cM_of (own := RX2) (L := [(0, .ref a)]) (by decide +kernel) rfl rfl (Nat.le_of_ble_eq_true rfl) rfl ?_
  intro Z hnL hR X hN F
  refine c_aload_n X 0 rfl dX2_init_0 ?_
  refine c_objInit X hR qL_X2_3 ⟨Nat.le_of_ble_eq_true rfl, Nat.le_of_ble_eq_true rfl⟩ (Nat.le_of_ble_eq_true rfl) dX2_init_1 ?_
  refine c_aload_n X 0 rfl dX2_init_4 ?_
  refine c_bipush X 8 (by decide) dX2_init_5 ?_
  refine c_newI X hR 8 rfl (by decide) ⟨Nat.le_of_ble_eq_true rfl, Nat.le_of_ble_eq_true rfl⟩ dX2_init_7 (fun q1 => ?_)
  refine cG_n (1, 8) rfl ?_
  refine cG_ws ([(a, .inr (2, [.null, .null, .int 0])), (q1, .inl (B.2.2.1.1, 8, .inl (fun _ => 0)))]) rfl ?_
  refine c_putF X hN rfl gU_X2 tyX2 tyX2_ok nmX2 0 rfl 0 (by decide) rfl rfl (tyX2_ok 0 (by decide)) rfl rfl (Nat.le_of_ble_eq_true rfl) qF_X2_9 dX2_init_9 ?_
  refine cG_ws ([(a, .inr (2, [.ref q1, .null, .int 0])), (q1, .inl (B.2.2.1.1, 8, .inl (fun _ => 0)))]) rfl ?_
  refine c_aload_n X 0 rfl dX2_init_12 ?_
  refine c_bipush X 21 (by decide) dX2_init_13 ?_
  refine c_newI X hR 21 rfl (by decide) ⟨Nat.le_of_ble_eq_true rfl, Nat.le_of_ble_eq_true rfl⟩ dX2_init_15 (fun q2 => ?_)
  refine cG_n (2, 29) rfl ?_
  refine cG_ws ([(a, .inr (2, [.ref q1, .null, .int 0])), (q1, .inl (B.2.2.1.1, 8, .inl (fun _ => 0))), (q2, .inl (B.2.2.1.1, 21, .inl (fun _ => 0)))]) rfl ?_
  refine c_putF X hN rfl gU_X2 tyX2 tyX2_ok nmX2 0 rfl 1 (by decide) rfl rfl (tyX2_ok 1 (by decide)) rfl rfl (Nat.le_of_ble_eq_true rfl) qF_X2_15 dX2_init_17 ?_
  refine cG_ws ([(a, .inr (2, [.ref q1, .ref q2, .int 0])), (q1, .inl (B.2.2.1.1, 8, .inl (fun _ => 0))), (q2, .inl (B.2.2.1.1, 21, .inl (fun _ => 0)))]) rfl ?_
  exact c_ret X F rfl ⟨q1, q2, rfl, rfl⟩ rfl dX2_init_20

