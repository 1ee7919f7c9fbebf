/-! constructors with loops -/
def fil (i : Nat) : Nat → Int32 := fun j => if j < i then -1 else 0
theorem fil_0 : (fun _ : Nat => (0 : Int32)) = fil 0 := funext fun j => (if_neg (Nat.not_lt_zero j)).symm
theorem fil_s (i : Nat) : upd (fil i) i (-1) = fil (i + 1) := by
  funext j
  by_cases h : j = i
  · subst h
    rw [pk_us]
    exact (if_pos (Nat.lt_succ_self j)).symm
  · rw [pk_un h]
    unfold fil
    by_cases hj : j < i
    · rw [if_pos hj, if_pos (by omega)]
    · rw [if_neg hj, if_neg (by omega)]
theorem app_get (u : va_W) (x : Nat × va_E) : (u ++ [x])[u.length]? = some x := by simp
theorem app_set (u new : va_W) (x y : Nat × va_E) : (u ++ [x]).set u.length y ++ new = u ++ (y :: new) := by simp
def qf (c : Nat → Nat) (k : Nat) : Nat → Option Nat := fun j => if j < k then some (c j) else none
theorem qf_0 (c : Nat → Nat) : (fun _ : Nat => (none : Option Nat)) = qf c 0 := funext fun j => (if_neg (Nat.not_lt_zero j)).symm
def cE (j : Nat) : va_E := .inr (1, [.int (nI j), .int 0, .int 0, .int 0, .int 0, .int 0, .int 0, .int 0, .int 0, .int 0, .int (-1)])
def cCarts (c : Nat → Nat) (k : Nat) : va_W := (List.range k).map (fun j => (c j, cE j))
def cSet (c : Nat → Nat) (k q : Nat) : Nat → Nat := fun j => if j = k then q else c j
theorem cCarts_s (c : Nat → Nat) (k q : Nat) : cCarts c k ++ [(q, cE k)] = cCarts (cSet c k q) (k + 1) := by
  unfold cCarts
  rw [List.range_succ, List.map_append]
  congr 1
  · refine List.map_congr_left (fun j hj => ?_)
    have : j < k := List.mem_range.mp hj
    show (c j, cE j) = (cSet c k q j, cE j)
    rw [show cSet c k q j = c j from if_neg (by omega)]
  · show [(q, cE k)] = [(cSet c k q k, cE k)]
    rw [show cSet c k q k = q from if_pos rfl]
theorem qf_s (c : Nat → Nat) (k q : Nat) : va_up (qf c k) k (some q) = qf (cSet c k q) (k + 1) := by
  funext j
  unfold va_up qf cSet
  by_cases h : j = k
  · subst h
    rw [if_pos rfl, if_pos (Nat.lt_succ_self j), if_pos rfl]
  · rw [if_neg h, if_neg h]
    by_cases hj : j < k
    · rw [if_pos hj, if_pos (by omega)]
    · rw [if_neg hj, if_neg (by omega)]

abbrev rmX0_init : Room := { frames := 3, cells := 25, slots := 256, locals := 60 }
set_option maxRecDepth 20000 in
theorem cn_bridge {l : Launch} {B : gB} (a : Nat)  : cM l B yX0_init cX0_init 2 rmX0_init [.ref a] a (.inr (0, [.int 0, .int 0, .int 0, .int 0, .int 0, .int 0, .int 0, .null, .null, .null, .null])) (fun e1 new => ∃ qa g0 r0 a0 g1 r1 a1 r2 a2 c, (a, e1) :: new = [(a, .inr (0, [.int 0, .int 0, .int 10, .int 200, .int 1, .int 1, .int 0, .ref qa, .ref g0, .ref g1, .ref r2])), (qa, .inl (B.2.2.1.2.1, 16, .inr (.inr (.inr (.inr (qf c 16)))))), (g0, .inr (3, [.ref r0, .int 0, .int 0, .int 0, .int 0])), (r0, .inr (4, [.ref a0, .int 0])), (a0, .inl (B.2.2.1.1, 16, .inl (fun _ => 0))), (g1, .inr (3, [.ref r1, .int 0, .int 0, .int 0, .int 0])), (r1, .inr (4, [.ref a1, .int 0])), (a1, .inl (B.2.2.1.1, 16, .inl (fun _ => 0))), (r2, .inr (4, [.ref a2, .int 0])), (a2, .inl (B.2.2.1.1, 16, .inl (fun _ => 0)))] ++ cCarts c 16) := by
  refine cM_of (own := RX0) (L := [(0, .ref a)]) (by decide +kernel) rfl rfl (Nat.le_of_ble_eq_true rfl) rfl ?_
  intro Z hnL hR X hN F
  refine c_aload_n X 0 rfl dX0_init_0 ?_
  refine c_objInit X hR qL_X0_3 ⟨Nat.le_of_ble_eq_true rfl, Nat.le_of_ble_eq_true rfl⟩ (Nat.le_of_ble_eq_true rfl) dX0_init_1 ?_
  refine c_aload_n X 0 rfl dX0_init_4 ?_
  refine c_bipush X 10 (by decide) dX0_init_5 ?_
  refine c_put X rfl gU_X0 tyX0 tyX0_ok nmX0 0 rfl 2 (by decide) rfl rfl (tyX0_ok 2 (by decide)) rfl rfl (Nat.le_of_ble_eq_true rfl) qF_X0_9 dX0_init_7 ?_
  refine cG_ws ([(a, .inr (0, [.int 0, .int 0, .int 10, .int 0, .int 0, .int 0, .int 0, .null, .null, .null, .null]))]) rfl ?_
  refine c_aload_n X 0 rfl dX0_init_10 ?_
  refine c_sipush X 200 (by decide) dX0_init_11 ?_
  refine c_put X rfl gU_X0 tyX0 tyX0_ok nmX0 0 rfl 3 (by decide) rfl rfl (tyX0_ok 3 (by decide)) rfl rfl (Nat.le_of_ble_eq_true rfl) qF_X0_15 dX0_init_14 ?_
  refine cG_ws ([(a, .inr (0, [.int 0, .int 0, .int 10, .int 200, .int 0, .int 0, .int 0, .null, .null, .null, .null]))]) rfl ?_
  refine c_aload_n X 0 rfl dX0_init_17 ?_
  refine c_iconst X 1 (by decide) dX0_init_18 ?_
  refine c_put X rfl gU_X0 tyX0 tyX0_ok nmX0 0 rfl 4 (by decide) rfl rfl (tyX0_ok 4 (by decide)) rfl rfl (Nat.le_of_ble_eq_true rfl) qF_X0_18 dX0_init_19 ?_
  refine cG_ws ([(a, .inr (0, [.int 0, .int 0, .int 10, .int 200, .int 1, .int 0, .int 0, .null, .null, .null, .null]))]) rfl ?_
  refine c_aload_n X 0 rfl dX0_init_22 ?_
  refine c_iconst X 1 (by decide) dX0_init_23 ?_
  refine c_put X rfl gU_X0 tyX0 tyX0_ok nmX0 0 rfl 5 (by decide) rfl rfl (tyX0_ok 5 (by decide)) rfl rfl (Nat.le_of_ble_eq_true rfl) qF_X0_21 dX0_init_24 ?_
  refine cG_ws ([(a, .inr (0, [.int 0, .int 0, .int 10, .int 200, .int 1, .int 1, .int 0, .null, .null, .null, .null]))]) rfl ?_
  refine c_aload_n X 0 rfl dX0_init_27 ?_
  refine c_bipush X 16 (by decide) dX0_init_28 ?_
  refine c_newq X hR 16 rfl (by decide) qCL_X0_24 ⟨Nat.le_of_ble_eq_true rfl, Nat.le_of_ble_eq_true rfl⟩ dX0_init_30 (fun q1 => ?_)
  refine cG_n (1, 16) rfl ?_
  refine cG_ws ([(a, .inr (0, [.int 0, .int 0, .int 10, .int 200, .int 1, .int 1, .int 0, .null, .null, .null, .null])), (q1, .inl (B.2.2.1.2.1, 16, .inr (.inr (.inr (.inr (fun _ => none))))))]) rfl ?_
  refine c_putF X hN rfl gU_X0 tyX0 tyX0_ok nmX0 0 rfl 7 (by decide) rfl rfl (tyX0_ok 7 (by decide)) rfl rfl (Nat.le_of_ble_eq_true rfl) qF_X0_26 dX0_init_33 ?_
  refine cG_ws ([(a, .inr (0, [.int 0, .int 0, .int 10, .int 200, .int 1, .int 1, .int 0, .ref q1, .null, .null, .null])), (q1, .inl (B.2.2.1.2.1, 16, .inr (.inr (.inr (.inr (fun _ => none))))))]) rfl ?_
  refine c_aload_n X 0 rfl dX0_init_36 ?_
  refine c_new X hR (ci := 3) (N := 5) rfl gU_X3 tyX3 tyX3_ok qCL_X0_30 qIn_X3 qN_X3 (fs := [.null, .int 0, .int 0, .int 0, .int 0]) (fun j hj => by rcases (show j = 0 ∨ j = 1 ∨ j = 2 ∨ j = 3 ∨ j = 4 by omega) with rfl | rfl | rfl | rfl | rfl <;> rfl) ⟨Nat.le_of_ble_eq_true rfl, Nat.le_of_ble_eq_true rfl⟩ dX0_init_37 (fun q2 => ?_)
  refine cG_n (2, 21) rfl ?_
  refine cG_ws ([(a, .inr (0, [.int 0, .int 0, .int 10, .int 200, .int 1, .int 1, .int 0, .ref q1, .null, .null, .null])), (q1, .inl (B.2.2.1.2.1, 16, .inr (.inr (.inr (.inr (fun _ => none)))))), (q2, .inr (3, [.null, .int 0, .int 0, .int 0, .int 0]))]) rfl ?_
  refine c_dup X rfl dX0_init_40 ?_
  refine c_callI X hR (As := []) (rest := [.ref q2, .ref a]) qI_yX3_init qC_yX3_init qN_X3 (by decide +kernel) (k := 0) (by decide +kernel) rfl lX0_32 (cn_gate q2 ) rfl rfl (Nat.le_of_ble_eq_true rfl) 2 rfl ⟨Nat.le_of_ble_eq_true rfl, Nat.le_of_ble_eq_true rfl, Nat.le_of_ble_eq_true rfl, Nat.le_of_ble_eq_true rfl⟩ dX0_init_41 (fun e9 new9 h9 => ?_)
  obtain ⟨q3, q4, rfl, rfl⟩ := h9
  refine cG_n (4, 39) rfl ?_
  refine cG_ws ([(a, .inr (0, [.int 0, .int 0, .int 10, .int 200, .int 1, .int 1, .int 0, .ref q1, .null, .null, .null])), (q1, .inl (B.2.2.1.2.1, 16, .inr (.inr (.inr (.inr (fun _ => none)))))), (q2, .inr (3, [.ref q3, .int 0, .int 0, .int 0, .int 0])), (q3, .inr (4, [.ref q4, .int 0])), (q4, .inl (B.2.2.1.1, 16, .inl (fun _ => 0)))]) rfl ?_
  refine c_putF X hN rfl gU_X0 tyX0 tyX0_ok nmX0 0 rfl 8 (by decide) rfl rfl (tyX0_ok 8 (by decide)) rfl rfl (Nat.le_of_ble_eq_true rfl) qF_X0_33 dX0_init_44 ?_
  refine cG_ws ([(a, .inr (0, [.int 0, .int 0, .int 10, .int 200, .int 1, .int 1, .int 0, .ref q1, .ref q2, .null, .null])), (q1, .inl (B.2.2.1.2.1, 16, .inr (.inr (.inr (.inr (fun _ => none)))))), (q2, .inr (3, [.ref q3, .int 0, .int 0, .int 0, .int 0])), (q3, .inr (4, [.ref q4, .int 0])), (q4, .inl (B.2.2.1.1, 16, .inl (fun _ => 0)))]) rfl ?_
  refine c_aload_n X 0 rfl dX0_init_47 ?_
  refine c_new X hR (ci := 3) (N := 5) rfl gU_X3 tyX3 tyX3_ok qCL_X0_30 qIn_X3 qN_X3 (fs := [.null, .int 0, .int 0, .int 0, .int 0]) (fun j hj => by rcases (show j = 0 ∨ j = 1 ∨ j = 2 ∨ j = 3 ∨ j = 4 by omega) with rfl | rfl | rfl | rfl | rfl <;> rfl) ⟨Nat.le_of_ble_eq_true rfl, Nat.le_of_ble_eq_true rfl⟩ dX0_init_48 (fun q5 => ?_)
  refine cG_n (5, 44) rfl ?_
  refine cG_ws ([(a, .inr (0, [.int 0, .int 0, .int 10, .int 200, .int 1, .int 1, .int 0, .ref q1, .ref q2, .null, .null])), (q1, .inl (B.2.2.1.2.1, 16, .inr (.inr (.inr (.inr (fun _ => none)))))), (q2, .inr (3, [.ref q3, .int 0, .int 0, .int 0, .int 0])), (q3, .inr (4, [.ref q4, .int 0])), (q4, .inl (B.2.2.1.1, 16, .inl (fun _ => 0))), (q5, .inr (3, [.null, .int 0, .int 0, .int 0, .int 0]))]) rfl ?_
  refine c_dup X rfl dX0_init_51 ?_
  refine c_callI X hR (As := []) (rest := [.ref q5, .ref a]) qI_yX3_init qC_yX3_init qN_X3 (by decide +kernel) (k := 0) (by decide +kernel) rfl lX0_32 (cn_gate q5 ) rfl rfl (Nat.le_of_ble_eq_true rfl) 5 rfl ⟨Nat.le_of_ble_eq_true rfl, Nat.le_of_ble_eq_true rfl, Nat.le_of_ble_eq_true rfl, Nat.le_of_ble_eq_true rfl⟩ dX0_init_52 (fun e9 new9 h9 => ?_)
  obtain ⟨q6, q7, rfl, rfl⟩ := h9
  refine cG_n (7, 62) rfl ?_
  refine cG_ws ([(a, .inr (0, [.int 0, .int 0, .int 10, .int 200, .int 1, .int 1, .int 0, .ref q1, .ref q2, .null, .null])), (q1, .inl (B.2.2.1.2.1, 16, .inr (.inr (.inr (.inr (fun _ => none)))))), (q2, .inr (3, [.ref q3, .int 0, .int 0, .int 0, .int 0])), (q3, .inr (4, [.ref q4, .int 0])), (q4, .inl (B.2.2.1.1, 16, .inl (fun _ => 0))), (q5, .inr (3, [.ref q6, .int 0, .int 0, .int 0, .int 0])), (q6, .inr (4, [.ref q7, .int 0])), (q7, .inl (B.2.2.1.1, 16, .inl (fun _ => 0)))]) rfl ?_
  refine c_putF X hN rfl gU_X0 tyX0 tyX0_ok nmX0 0 rfl 9 (by decide) rfl rfl (tyX0_ok 9 (by decide)) rfl rfl (Nat.le_of_ble_eq_true rfl) qF_X0_37 dX0_init_55 ?_
  refine cG_ws ([(a, .inr (0, [.int 0, .int 0, .int 10, .int 200, .int 1, .int 1, .int 0, .ref q1, .ref q2, .ref q5, .null])), (q1, .inl (B.2.2.1.2.1, 16, .inr (.inr (.inr (.inr (fun _ => none)))))), (q2, .inr (3, [.ref q3, .int 0, .int 0, .int 0, .int 0])), (q3, .inr (4, [.ref q4, .int 0])), (q4, .inl (B.2.2.1.1, 16, .inl (fun _ => 0))), (q5, .inr (3, [.ref q6, .int 0, .int 0, .int 0, .int 0])), (q6, .inr (4, [.ref q7, .int 0])), (q7, .inl (B.2.2.1.1, 16, .inl (fun _ => 0)))]) rfl ?_
  refine c_aload_n X 0 rfl dX0_init_58 ?_
  refine c_new X hR (ci := 4) (N := 2) rfl gU_X5 tyX5 tyX5_ok qCL_X0_40 qIn_X5 qN_X5 (fs := [.null, .int 0]) (fun j hj => by rcases (show j = 0 ∨ j = 1 by omega) with rfl | rfl <;> rfl) ⟨Nat.le_of_ble_eq_true rfl, Nat.le_of_ble_eq_true rfl⟩ dX0_init_59 (fun q8 => ?_)
  refine cG_n (8, 64) rfl ?_
  refine cG_ws ([(a, .inr (0, [.int 0, .int 0, .int 10, .int 200, .int 1, .int 1, .int 0, .ref q1, .ref q2, .ref q5, .null])), (q1, .inl (B.2.2.1.2.1, 16, .inr (.inr (.inr (.inr (fun _ => none)))))), (q2, .inr (3, [.ref q3, .int 0, .int 0, .int 0, .int 0])), (q3, .inr (4, [.ref q4, .int 0])), (q4, .inl (B.2.2.1.1, 16, .inl (fun _ => 0))), (q5, .inr (3, [.ref q6, .int 0, .int 0, .int 0, .int 0])), (q6, .inr (4, [.ref q7, .int 0])), (q7, .inl (B.2.2.1.1, 16, .inl (fun _ => 0))), (q8, .inr (4, [.null, .int 0]))]) rfl ?_
  refine c_dup X rfl dX0_init_62 ?_
  refine c_callI X hR (As := []) (rest := [.ref q8, .ref a]) qI_yX5_init qC_yX5_init qN_X5 (by decide +kernel) (k := 0) (by decide +kernel) rfl lX0_42 (cn_row q8 ) rfl rfl (Nat.le_of_ble_eq_true rfl) 8 rfl ⟨Nat.le_of_ble_eq_true rfl, Nat.le_of_ble_eq_true rfl, Nat.le_of_ble_eq_true rfl, Nat.le_of_ble_eq_true rfl⟩ dX0_init_63 (fun e9 new9 h9 => ?_)
  obtain ⟨q9, rfl, rfl⟩ := h9
  refine cG_n (9, 80) rfl ?_
  refine cG_ws ([(a, .inr (0, [.int 0, .int 0, .int 10, .int 200, .int 1, .int 1, .int 0, .ref q1, .ref q2, .ref q5, .null])), (q1, .inl (B.2.2.1.2.1, 16, .inr (.inr (.inr (.inr (fun _ => none)))))), (q2, .inr (3, [.ref q3, .int 0, .int 0, .int 0, .int 0])), (q3, .inr (4, [.ref q4, .int 0])), (q4, .inl (B.2.2.1.1, 16, .inl (fun _ => 0))), (q5, .inr (3, [.ref q6, .int 0, .int 0, .int 0, .int 0])), (q6, .inr (4, [.ref q7, .int 0])), (q7, .inl (B.2.2.1.1, 16, .inl (fun _ => 0))), (q8, .inr (4, [.ref q9, .int 0])), (q9, .inl (B.2.2.1.1, 16, .inl (fun _ => 0)))]) rfl ?_
  refine c_putF X hN rfl gU_X0 tyX0 tyX0_ok nmX0 0 rfl 10 (by decide) rfl rfl (tyX0_ok 10 (by decide)) rfl rfl (Nat.le_of_ble_eq_true rfl) qF_X0_43 dX0_init_66 ?_
  refine cG_ws ([(a, .inr (0, [.int 0, .int 0, .int 10, .int 200, .int 1, .int 1, .int 0, .ref q1, .ref q2, .ref q5, .ref q8])), (q1, .inl (B.2.2.1.2.1, 16, .inr (.inr (.inr (.inr (fun _ => none)))))), (q2, .inr (3, [.ref q3, .int 0, .int 0, .int 0, .int 0])), (q3, .inr (4, [.ref q4, .int 0])), (q4, .inl (B.2.2.1.1, 16, .inl (fun _ => 0))), (q5, .inr (3, [.ref q6, .int 0, .int 0, .int 0, .int 0])), (q6, .inr (4, [.ref q7, .int 0])), (q7, .inl (B.2.2.1.1, 16, .inl (fun _ => 0))), (q8, .inr (4, [.ref q9, .int 0])), (q9, .inl (B.2.2.1.1, 16, .inl (fun _ => 0)))]) rfl ?_
  refine c_iconst X 0 (by decide) dX0_init_69 ?_
  refine c_istore_n X rfl dX0_init_70 [(1, .int 0), (0, .ref a)] rfl (gnl_lt hnL (by decide)) ?_
  refine cG_L (ks := [1, 0]) (L' := [(0, .ref a), (1, .int (nI 0))]) rfl ?_
  refine cG_ws ([(a, .inr (0, [.int 0, .int 0, .int 10, .int 200, .int 1, .int 1, .int 0, .ref q1, .ref q2, .ref q5, .ref q8])), (q1, .inl (B.2.2.1.2.1, 16, .inr (.inr (.inr (.inr (qf (fun _ => 0) 0)))))), (q2, .inr (3, [.ref q3, .int 0, .int 0, .int 0, .int 0])), (q3, .inr (4, [.ref q4, .int 0])), (q4, .inl (B.2.2.1.1, 16, .inl (fun _ => 0))), (q5, .inr (3, [.ref q6, .int 0, .int 0, .int 0, .int 0])), (q6, .inr (4, [.ref q7, .int 0])), (q7, .inl (B.2.2.1.1, 16, .inl (fun _ => 0))), (q8, .inr (4, [.ref q9, .int 0])), (q9, .inl (B.2.2.1.1, 16, .inl (fun _ => 0)))] ++ cCarts (fun _ => 0) 0) (by rw [← qf_0]; rfl) ?_
  have loop : ∀ (f i : Nat) (c : Nat → Nat), i + f = 16 → cG Z B a ([(a, .inr (0, [.int 0, .int 0, .int 10, .int 200, .int 1, .int 1, .int 0, .ref q1, .ref q2, .ref q5, .ref q8])), (q1, .inl (B.2.2.1.2.1, 16, .inr (.inr (.inr (.inr (qf c i)))))), (q2, .inr (3, [.ref q3, .int 0, .int 0, .int 0, .int 0])), (q3, .inr (4, [.ref q4, .int 0])), (q4, .inl (B.2.2.1.1, 16, .inl (fun _ => 0))), (q5, .inr (3, [.ref q6, .int 0, .int 0, .int 0, .int 0])), (q6, .inr (4, [.ref q7, .int 0])), (q7, .inl (B.2.2.1.1, 16, .inl (fun _ => 0))), (q8, .inr (4, [.ref q9, .int 0])), (q9, .inl (B.2.2.1.1, 16, .inl (fun _ => 0)))] ++ cCarts c i) (9 + i, 80 + 11 * i) 71 [(0, .ref a), (1, .int (nI i))] [] := by
    intro f
    induction f with
    | zero =>
      intro i c hf
      refine c_iload_n X 1 rfl dX0_init_71 ?_
      refine c_aload_n X 0 rfl dX0_init_72 ?_
      refine c_get X rfl gU_X0 0 rfl 7 (by decide) rfl rfl qF_X0_26 dX0_init_73 ?_
      refine c_alenQ X 1 rfl dX0_init_76 ?_
      refine c_icmp_ge X 100 (by decide) dX0_init_77 (fun _ => ?_) (fun h => absurd (nI_le (a := 16) (by omega) (by omega)) h)
      have hi16 : i = 16 := by omega
      subst hi16
      exact c_ret X F rfl ⟨q1, q2, q3, q4, q5, q6, q7, q8, q9, c, rfl⟩ rfl dX0_init_100
    | succ f ih =>
      intro i c hf
      refine c_iload_n X 1 rfl dX0_init_71 ?_
      refine c_aload_n X 0 rfl dX0_init_72 ?_
      refine c_get X rfl gU_X0 0 rfl 7 (by decide) rfl rfl qF_X0_26 dX0_init_73 ?_
      refine c_alenQ X 1 rfl dX0_init_76 ?_
      refine c_icmp_ge X 100 (by decide) dX0_init_77 (fun h => absurd h (nI_ge (b := 16) (by omega) (by decide))) (fun _ => ?_)
      refine c_aload_n X 0 rfl dX0_init_80 ?_
      refine c_get X rfl gU_X0 0 rfl 7 (by decide) rfl rfl qF_X0_26 dX0_init_81 ?_
      refine c_iload_n X 1 rfl dX0_init_84 ?_
      refine c_new X hR (ci := 1) (N := 11) rfl gU_X1 tyX1 tyX1_ok qCL_X0_24 qIn_X1 qN_X1 (fs := [.int 0, .int 0, .int 0, .int 0, .int 0, .int 0, .int 0, .int 0, .int 0, .int 0, .int 0]) (fun j hj => by rcases (show j = 0 ∨ j = 1 ∨ j = 2 ∨ j = 3 ∨ j = 4 ∨ j = 5 ∨ j = 6 ∨ j = 7 ∨ j = 8 ∨ j = 9 ∨ j = 10 by omega) with rfl | rfl | rfl | rfl | rfl | rfl | rfl | rfl | rfl | rfl | rfl <;> rfl) ⟨by show 9 + i + 1 ≤ 25; omega, by show 80 + 11 * i + 11 ≤ 256; omega⟩ dX0_init_85 (fun q => ?_)
      refine c_dup X rfl dX0_init_88 ?_
      refine c_iload_n X 1 rfl dX0_init_89 ?_
      refine c_callI X hR (As := [.int (nI i)]) (rest := [.ref q, .int (nI i), .ref q1]) qI_yX1_init qC_yX1_init qN_X1 (by decide +kernel) (k := 1) (by decide +kernel) rfl lX0_47 (cn_cart q (nI i)) rfl rfl (Nat.le_of_ble_eq_true rfl) _ (app_get _ _) ⟨Nat.le_of_ble_eq_true rfl, Nat.le_of_ble_eq_true rfl, by show 9 + i + 1 + 0 ≤ 25; omega, by show 80 + 11 * i + 11 + 0 ≤ 256; omega⟩ dX0_init_90 (fun e9 new9 h9 => ?_)
      obtain ⟨rfl, rfl⟩ := h9
      refine cG_ws (([(a, .inr (0, [.int 0, .int 0, .int 10, .int 200, .int 1, .int 1, .int 0, .ref q1, .ref q2, .ref q5, .ref q8])), (q1, .inl (B.2.2.1.2.1, 16, .inr (.inr (.inr (.inr (qf c i)))))), (q2, .inr (3, [.ref q3, .int 0, .int 0, .int 0, .int 0])), (q3, .inr (4, [.ref q4, .int 0])), (q4, .inl (B.2.2.1.1, 16, .inl (fun _ => 0))), (q5, .inr (3, [.ref q6, .int 0, .int 0, .int 0, .int 0])), (q6, .inr (4, [.ref q7, .int 0])), (q7, .inl (B.2.2.1.1, 16, .inl (fun _ => 0))), (q8, .inr (4, [.ref q9, .int 0])), (q9, .inl (B.2.2.1.1, 16, .inl (fun _ => 0)))] ++ cCarts c i) ++ [(q, cE i)]) (app_set _ _ _ _) ?_
      refine c_astq X 1 _ rfl (app_get _ _) i rfl (by omega) (by decide) dX0_init_93 ?_
      refine c_iinc X 1 rfl (nI (i + 1)) (iinc_1 _) dX0_init_94 [(1, .int (nI (i + 1))), (0, .ref a)] rfl (gnl_lt hnL (by decide)) ?_
      refine c_goto X 71 (by decide) dX0_init_97 ?_
      refine cG_L (ks := [1, 0]) (L' := [(0, .ref a), (1, .int (nI (i + 1)))]) rfl ?_
      refine cG_ws ([(a, .inr (0, [.int 0, .int 0, .int 10, .int 200, .int 1, .int 1, .int 0, .ref q1, .ref q2, .ref q5, .ref q8])), (q1, .inl (B.2.2.1.2.1, 16, .inr (.inr (.inr (.inr (qf (cSet c i q) (i + 1))))))), (q2, .inr (3, [.ref q3, .int 0, .int 0, .int 0, .int 0])), (q3, .inr (4, [.ref q4, .int 0])), (q4, .inl (B.2.2.1.1, 16, .inl (fun _ => 0))), (q5, .inr (3, [.ref q6, .int 0, .int 0, .int 0, .int 0])), (q6, .inr (4, [.ref q7, .int 0])), (q7, .inl (B.2.2.1.1, 16, .inl (fun _ => 0))), (q8, .inr (4, [.ref q9, .int 0])), (q9, .inl (B.2.2.1.1, 16, .inl (fun _ => 0)))] ++ cCarts (cSet c i q) (i + 1)) (by rw [← qf_s, ← cCarts_s, ← List.append_assoc]; rfl) ?_
      refine cG_n (9 + (i + 1), 80 + 11 * (i + 1)) (by rw [Nat.mul_succ]; rfl) ?_
      exact ih (i + 1) _ (by omega)
  exact loop 16 0 (fun _ => 0) (by omega)

