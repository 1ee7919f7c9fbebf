/-! the class: what its public methods stand on -/

abbrev rmX6_fogIn : Room := { frames := 1, cells := 0, slots := 0, locals := 21 }
set_option maxRecDepth 20000 in
theorem k_fogIn {l : Launch} {B : gB} (hI : gI B) (V : gMem) (w : gWd) (t : Nat) (hQ : COk V w) (hw : wOk w) (ht : t < 2 ^ 31) : gM l B yX6_fogIn cX6_fogIn 3 (some .int) rmX6_fogIn [.ref (B.2.1 0 0 0), .int (nI t)] V (fun v V' => v = some (.int (nI (w.2.2 (t % 20)))) ∧ V' = V) := by
  refine gM_of (own := RX6) (L := [(0, .ref (B.2.1 0 0 0)), (1, .int (nI t))]) (by decide +kernel) rfl hI (Nat.le_of_ble_eq_true rfl) rfl ?_
  intro Z hnL hR X F
  have hm := Nat.mod_lt t (y := 20) (by decide)
  refine g_iload_n X 1 rfl dX6_fogIn_0 ?_
  refine g_bipush X 20 (by decide) dX6_fogIn_1 ?_
  refine g_irem X (by decide) dX6_fogIn_3 ?_
  refine gG_top (nI (t % 20)) (pk_rem (d := 20) ht (by decide) (by decide)) ?_
  refine g_istore_n X rfl dX6_fogIn_4 [(2, .int (nI (t % 20))), (0, .ref (B.2.1 0 0 0)), (1, .int (nI t))] rfl (gnl_lt hnL (by decide)) ?_
  refine g_iload_n X 0 rfl dX6_fogIn_5 ?_
  refine g_aload_n X 1 rfl dX6_fogIn_6 ?_
  refine gg_X6_fog X ⟨by decide, by decide⟩ fX6_16 dX6_fogIn_7 ?_
  refine g_alen X (v := 20) ⟨by decide, by decide⟩ rfl (by decide) dX6_fogIn_10 ?_
  refine g_callS X hR (As := [.int (nI (t % 20)), .int 20]) (rest := []) mX6_isIndex lX6_68 (k_isIndex1 hI V (nI (t % 20)) 20 (nI_pos' (by omega)) (nI_lt (b := 20) (by omega) (by decide))) rfl rfl (Nat.le_of_ble_eq_true rfl) ⟨Nat.le_of_ble_eq_true rfl, Nat.le_of_ble_eq_true rfl, Nat.le_of_ble_eq_true rfl, Nat.le_of_ble_eq_true rfl⟩ dX6_fogIn_11 (fun r1 V2 hz_3 => ?_)
  refine gG_ret hz_3.1 hz_3.2 ?_
  refine gG_st [.int 1] rfl ?_
  refine g_if_eq X 26 (by decide) dX6_fogIn_14 (fun c4 => ?_) (fun c4 => ?_)
  ·  exact absurd c4 (by decide)
  · refine g_aload_n X 1 rfl dX6_fogIn_17 ?_
    refine gg_X6_fog X ⟨by decide, by decide⟩ fX6_16 dX6_fogIn_18 ?_
    refine g_iload_n X 0 rfl dX6_fogIn_21 ?_
    refine g_ialdN X (t % 20) rfl hm (by decide) ⟨by decide, by decide⟩ rfl dX6_fogIn_22 ?_
    refine gG_top (nI (w.2.2 (t % 20))) (hQ.2.2 _ hm) ?_
    refine g_goto X 27 (by decide) dX6_fogIn_23 ?_
    refine g_iret X F ?_ rfl dX6_fogIn_27
    exact ⟨rfl, rfl⟩

abbrev rmX6_ringsHeard : Room := { frames := 2, cells := 0, slots := 0, locals := 44 }
set_option maxRecDepth 20000 in
theorem k_ringsHeard {l : Launch} {B : gB} (hI : gI B) (V : gMem) (w : gWd) (r : Nat) (t : Nat) (hQ : COk V w) (hw : wOk w) (hr : r < 2 ^ 31) (ho : nOk r = true) (h6 : nLen r ≤ 6) (ht : t < 2 ^ 30) : gM l B yX6_ringsHeard cX6_ringsHeard 8 (some .int) rmX6_ringsHeard [.ref (B.2.1 0 0 0), .int (nI r), .int (nI t)] V (fun v V' => v = some (.int (nI (hTold r (nLen r) w.2.2 t (nLen r)))) ∧ V' = V) := by
  refine gM_of (own := RX6) (L := [(0, .ref (B.2.1 0 0 0)), (1, .int (nI r)), (2, .int (nI t))]) (by decide +kernel) rfl hI (Nat.le_of_ble_eq_true rfl) rfl ?_
  intro Z hnL hR X F
  refine g_iload_n X 1 rfl dX6_ringsHeard_0 ?_
  refine g_callS X hR (As := [.int (nI r)]) (rest := []) mX4_lengthOf lX6_33 (k_lenR hI V r hr ho) rfl rfl (Nat.le_of_ble_eq_true rfl) ⟨Nat.le_of_ble_eq_true rfl, Nat.le_of_ble_eq_true rfl, Nat.le_of_ble_eq_true rfl, Nat.le_of_ble_eq_true rfl⟩ dX6_ringsHeard_1 (fun r1 V2 hz_3 => ?_)
  refine gG_ret hz_3.1 hz_3.2 ?_
  refine gG_st [.int (nI (nLen r))] rfl ?_
  refine g_istore_n X rfl dX6_ringsHeard_4 [(3, .int (nI (nLen r))), (0, .ref (B.2.1 0 0 0)), (1, .int (nI r)), (2, .int (nI t))] rfl (gnl_lt hnL (by decide)) ?_
  refine g_iconst X 0 (by decide) dX6_ringsHeard_5 ?_
  refine g_istore X dX6_ringsHeard_6 [(4, .int 0), (3, .int (nI (nLen r))), (0, .ref (B.2.1 0 0 0)), (1, .int (nI r)), (2, .int (nI t))] rfl (gnl_lt hnL (by decide)) ?_
  refine g_iconst X 0 (by decide) dX6_ringsHeard_8 ?_
  refine g_istore X dX6_ringsHeard_9 [(5, .int 0), (4, .int 0), (3, .int (nI (nLen r))), (0, .ref (B.2.1 0 0 0)), (1, .int (nI r)), (2, .int (nI t))] rfl (gnl_lt hnL (by decide)) ?_
  refine gG_L [3, 4, 5, 2, 1, 0] (L' := [(0, .ref (B.2.1 0 0 0)), (1, .int (nI r)), (2, .int (nI t)), (3, .int (nI (nLen r))), (4, .int 0), (5, .int 0)]) rfl ?_
  have loop : ∀ (f : Nat) (k : Nat) , k + f = nLen r →  gG Z B (0, 0) V 11 [(0, .ref (B.2.1 0 0 0)), (1, .int (nI r)), (2, .int (nI t)), (3, .int (nI (nLen r))), (4, .int (nI (hTold r (nLen r) w.2.2 t k))), (5, .int (nI k))] [] := by
    intro f
    induction f with
    | zero =>
      intro k  hf 
      refine g_iload X 5 rfl dX6_ringsHeard_11 ?_
      refine g_iload_n X 3 rfl dX6_ringsHeard_13 ?_
      refine g_icmp_ge X 72 (by decide) dX6_ringsHeard_14 (fun c4 => ?_) (fun c4 => ?_)
      · refine g_iload X 4 rfl dX6_ringsHeard_72 ?_
        refine g_iret X F ?_ rfl dX6_ringsHeard_74
        exact ⟨by rw [show k = nLen r by omega], rfl⟩
      · first | exact absurd (nI_le (by omega) (by omega)) c4 | exact absurd c4 (nI_le (by omega) (by omega))
    | succ f ih =>
      intro k  hf 
      refine g_iload X 5 rfl dX6_ringsHeard_11 ?_
      refine g_iload_n X 3 rfl dX6_ringsHeard_13 ?_
      refine g_icmp_ge X 72 (by decide) dX6_ringsHeard_14 (fun c5 => ?_) (fun c5 => ?_)
      · first | exact absurd (nI_ge (by omega) (by omega)) c5 | exact absurd c5 (nI_ge (by omega) (by omega))
      · refine g_iload_n X 1 rfl dX6_ringsHeard_17 ?_
        refine g_iload_n X 3 rfl dX6_ringsHeard_18 ?_
        refine g_iconst X 1 (by decide) dX6_ringsHeard_19 ?_
        refine g_isub X dX6_ringsHeard_20 ?_
        refine gG_top (nI (nLen r - 1)) (nI_dec (by omega)) ?_
        refine g_iload X 5 rfl dX6_ringsHeard_21 ?_
        refine g_isub X dX6_ringsHeard_23 ?_
        refine gG_top (nI (nLen r - 1 - k)) (pk_sub (by omega)) ?_
        refine g_callS X hR (As := [.int (nI r), .int (nI (nLen r - 1 - k))]) (rest := []) mX4_ringAt lX6_252 (k_ringAt hI V r (nLen r - 1 - k) hr (by omega)) rfl rfl (Nat.le_of_ble_eq_true rfl) ⟨Nat.le_of_ble_eq_true rfl, Nat.le_of_ble_eq_true rfl, Nat.le_of_ble_eq_true rfl, Nat.le_of_ble_eq_true rfl⟩ dX6_ringsHeard_24 (fun r6 V7 hz_8 => ?_)
        refine gG_ret hz_8.1 hz_8.2 ?_
        refine gG_st [.int (nI (r / 10 ^ (nLen r - 1 - k) % 10))] rfl ?_
        refine g_istore X dX6_ringsHeard_27 [(6, .int (nI (r / 10 ^ (nLen r - 1 - k) % 10))), (0, .ref (B.2.1 0 0 0)), (1, .int (nI r)), (2, .int (nI t)), (3, .int (nI (nLen r))), (4, .int (nI (hTold r (nLen r) w.2.2 t k))), (5, .int (nI k))] rfl (gnl_lt hnL (by decide)) ?_
        refine g_iload X 0 rfl dX6_ringsHeard_29 ?_
        refine g_iconst X 1 (by decide) dX6_ringsHeard_31 ?_
        have hr10 : r / 10 ^ (nLen r - 1 - k) % 10 < 10 := Nat.mod_lt _ (by decide)
        by_cases hr1 : r / 10 ^ (nLen r - 1 - k) % 10 = 1
        · skip
          refine g_icmp_ne X 39 (by decide) dX6_ringsHeard_32 (fun c9 => ?_) (fun c9 => ?_)
          · first | exact absurd (fun z => z (by rw [hr1]; rfl)) c9 | exact absurd c9 (fun z => z (by rw [hr1]; rfl))
          · refine g_iconst X 4 (by decide) dX6_ringsHeard_35 ?_
            refine g_goto X 41 (by decide) dX6_ringsHeard_36 ?_
            refine g_istore X dX6_ringsHeard_41 [(7, .int 4), (6, .int (nI (r / 10 ^ (nLen r - 1 - k) % 10))), (0, .ref (B.2.1 0 0 0)), (1, .int (nI r)), (2, .int (nI t)), (3, .int (nI (nLen r))), (4, .int (nI (hTold r (nLen r) w.2.2 t k))), (5, .int (nI k))] rfl (gnl_lt hnL (by decide)) ?_
            refine g_aload_n X 2 rfl dX6_ringsHeard_43 ?_
            refine g_iload_n X 4 rfl dX6_ringsHeard_44 ?_
            refine g_iload X 7 rfl dX6_ringsHeard_45 ?_
            refine g_iadd X dX6_ringsHeard_47 ?_
            refine gG_top (nI (t + k)) (nI_add t k) ?_
            refine g_callV X hR (rest := []) mX6_fogIn lX6_255 (k_fogIn hI V w (t + k) hQ hw (by omega)) rfl rfl (Nat.le_of_ble_eq_true rfl) ⟨by decide, by decide⟩ rfl rfl rfl ⟨Nat.le_of_ble_eq_true rfl, Nat.le_of_ble_eq_true rfl, Nat.le_of_ble_eq_true rfl, Nat.le_of_ble_eq_true rfl⟩ dX6_ringsHeard_48 (fun r10 V11 hz_12 => ?_)
            refine gG_ret hz_12.1 hz_12.2 ?_
            refine gG_st [.int (nI (w.2.2 ((t + k) % 20)))] rfl ?_
            refine g_iload X 0 rfl dX6_ringsHeard_51 ?_
            by_cases hfg : w.2.2 ((t + k) % 20) < 4
            · skip
              refine g_icmp_ge X 66 (by decide) dX6_ringsHeard_53 (fun c13 => ?_) (fun c13 => ?_)
              · first | exact absurd (nI_ge (b := 4) hfg (by decide)) c13 | exact absurd c13 (nI_ge (b := 4) hfg (by decide))
              · refine g_iload X 6 rfl dX6_ringsHeard_56 ?_
                refine g_bipush X 10 (by decide) dX6_ringsHeard_58 ?_
                refine g_imul X dX6_ringsHeard_60 ?_
                refine gG_top (nI ((hTold r (nLen r) w.2.2 t k) * 10)) (pk_mul (hTold r (nLen r) w.2.2 t k) 10) ?_
                refine g_iload X 1 rfl dX6_ringsHeard_61 ?_
                refine g_iadd X dX6_ringsHeard_63 ?_
                refine gG_top (nI (((hTold r (nLen r) w.2.2 t k) * 10) + (r / 10 ^ (nLen r - 1 - k) % 10))) (nI_add ((hTold r (nLen r) w.2.2 t k) * 10) (r / 10 ^ (nLen r - 1 - k) % 10)) ?_
                refine g_istore X dX6_ringsHeard_64 [(4, .int (nI (((hTold r (nLen r) w.2.2 t k) * 10) + (r / 10 ^ (nLen r - 1 - k) % 10)))), (7, .int 4), (6, .int (nI (r / 10 ^ (nLen r - 1 - k) % 10))), (0, .ref (B.2.1 0 0 0)), (1, .int (nI r)), (2, .int (nI t)), (3, .int (nI (nLen r))), (5, .int (nI k))] rfl (gnl_lt hnL (by decide)) ?_
                refine gG_L [3, 4, 5, 6, 0, 7] (L' := [(0, .ref (B.2.1 0 0 0)), (1, .int (nI r)), (2, .int (nI t)), (3, .int (nI (nLen r))), (4, .int (nI (((hTold r (nLen r) w.2.2 t k) * 10) + (r / 10 ^ (nLen r - 1 - k) % 10)))), (5, .int (nI k))]) rfl ?_
                have hst : hTold r (nLen r) w.2.2 t (k + 1) = hTold r (nLen r) w.2.2 t k * 10 + r / 10 ^ (nLen r - 1 - k) % 10 := by
                  show (if _ < (if _ = 1 then 4 else 7) then _ else _) = _
                  rw [if_pos hr1, if_pos hfg, Nat.mul_comm]
                refine gG_Le [(0, .ref (B.2.1 0 0 0)), (1, .int (nI r)), (2, .int (nI t)), (3, .int (nI (nLen r))), (4, .int (nI (hTold r (nLen r) w.2.2 t (k + 1)))), (5, .int (nI k))] (by rw [hst]) ?_
                refine g_iinc X 5 rfl (nI (k + 1)) (iinc_1 _) dX6_ringsHeard_66 [(5, .int (nI (k + 1))), (0, .ref (B.2.1 0 0 0)), (1, .int (nI r)), (2, .int (nI t)), (3, .int (nI (nLen r))), (4, .int (nI (hTold r (nLen r) w.2.2 t (k + 1))))] rfl (gnl_lt hnL (by decide)) ?_
                refine g_goto X 11 (by decide) dX6_ringsHeard_69 ?_
                refine gG_L [1, 2, 3, 4, 5, 0] (L' := [(0, .ref (B.2.1 0 0 0)), (1, .int (nI r)), (2, .int (nI t)), (3, .int (nI (nLen r))), (4, .int (nI (hTold r (nLen r) w.2.2 t (k + 1)))), (5, .int (nI (k + 1)))]) rfl ?_
                refine ih (k + 1) (by omega)
            · skip
              refine g_icmp_ge X 66 (by decide) dX6_ringsHeard_53 (fun c14 => ?_) (fun c14 => ?_)
              · refine gG_L [2, 3, 4, 5, 6, 7] (L' := [(0, .ref (B.2.1 0 0 0)), (1, .int (nI r)), (2, .int (nI t)), (3, .int (nI (nLen r))), (4, .int (nI (hTold r (nLen r) w.2.2 t k))), (5, .int (nI k))]) rfl ?_
                have hst : hTold r (nLen r) w.2.2 t (k + 1) = hTold r (nLen r) w.2.2 t k := by
                  show (if _ < (if _ = 1 then 4 else 7) then _ else _) = _
                  rw [if_pos hr1, if_neg hfg]
                refine gG_Le [(0, .ref (B.2.1 0 0 0)), (1, .int (nI r)), (2, .int (nI t)), (3, .int (nI (nLen r))), (4, .int (nI (hTold r (nLen r) w.2.2 t (k + 1)))), (5, .int (nI k))] (by rw [hst]) ?_
                refine g_iinc X 5 rfl (nI (k + 1)) (iinc_1 _) dX6_ringsHeard_66 [(5, .int (nI (k + 1))), (0, .ref (B.2.1 0 0 0)), (1, .int (nI r)), (2, .int (nI t)), (3, .int (nI (nLen r))), (4, .int (nI (hTold r (nLen r) w.2.2 t (k + 1))))] rfl (gnl_lt hnL (by decide)) ?_
                refine g_goto X 11 (by decide) dX6_ringsHeard_69 ?_
                refine gG_L [1, 2, 3, 4, 5, 0] (L' := [(0, .ref (B.2.1 0 0 0)), (1, .int (nI r)), (2, .int (nI t)), (3, .int (nI (nLen r))), (4, .int (nI (hTold r (nLen r) w.2.2 t (k + 1)))), (5, .int (nI (k + 1)))]) rfl ?_
                refine ih (k + 1) (by omega)
              · first | exact absurd (nI_le (a := 4) (by omega) (by have := hw.2.2 ((t + k) % 20) (Nat.mod_lt _ (by decide)); omega)) c14 | exact absurd c14 (nI_le (a := 4) (by omega) (by have := hw.2.2 ((t + k) % 20) (Nat.mod_lt _ (by decide)); omega))
        · skip
          refine g_icmp_ne X 39 (by decide) dX6_ringsHeard_32 (fun c15 => ?_) (fun c15 => ?_)
          · refine g_bipush X 7 (by decide) dX6_ringsHeard_39 ?_
            refine g_istore X dX6_ringsHeard_41 [(7, .int 7), (6, .int (nI (r / 10 ^ (nLen r - 1 - k) % 10))), (0, .ref (B.2.1 0 0 0)), (1, .int (nI r)), (2, .int (nI t)), (3, .int (nI (nLen r))), (4, .int (nI (hTold r (nLen r) w.2.2 t k))), (5, .int (nI k))] rfl (gnl_lt hnL (by decide)) ?_
            refine g_aload_n X 2 rfl dX6_ringsHeard_43 ?_
            refine g_iload_n X 4 rfl dX6_ringsHeard_44 ?_
            refine g_iload X 7 rfl dX6_ringsHeard_45 ?_
            refine g_iadd X dX6_ringsHeard_47 ?_
            refine gG_top (nI (t + k)) (nI_add t k) ?_
            refine g_callV X hR (rest := []) mX6_fogIn lX6_255 (k_fogIn hI V w (t + k) hQ hw (by omega)) rfl rfl (Nat.le_of_ble_eq_true rfl) ⟨by decide, by decide⟩ rfl rfl rfl ⟨Nat.le_of_ble_eq_true rfl, Nat.le_of_ble_eq_true rfl, Nat.le_of_ble_eq_true rfl, Nat.le_of_ble_eq_true rfl⟩ dX6_ringsHeard_48 (fun r16 V17 hz_18 => ?_)
            refine gG_ret hz_18.1 hz_18.2 ?_
            refine gG_st [.int (nI (w.2.2 ((t + k) % 20)))] rfl ?_
            refine g_iload X 0 rfl dX6_ringsHeard_51 ?_
            by_cases hfg : w.2.2 ((t + k) % 20) < 7
            · skip
              refine g_icmp_ge X 66 (by decide) dX6_ringsHeard_53 (fun c19 => ?_) (fun c19 => ?_)
              · first | exact absurd (nI_ge (b := 7) hfg (by decide)) c19 | exact absurd c19 (nI_ge (b := 7) hfg (by decide))
              · refine g_iload X 6 rfl dX6_ringsHeard_56 ?_
                refine g_bipush X 10 (by decide) dX6_ringsHeard_58 ?_
                refine g_imul X dX6_ringsHeard_60 ?_
                refine gG_top (nI ((hTold r (nLen r) w.2.2 t k) * 10)) (pk_mul (hTold r (nLen r) w.2.2 t k) 10) ?_
                refine g_iload X 1 rfl dX6_ringsHeard_61 ?_
                refine g_iadd X dX6_ringsHeard_63 ?_
                refine gG_top (nI (((hTold r (nLen r) w.2.2 t k) * 10) + (r / 10 ^ (nLen r - 1 - k) % 10))) (nI_add ((hTold r (nLen r) w.2.2 t k) * 10) (r / 10 ^ (nLen r - 1 - k) % 10)) ?_
                refine g_istore X dX6_ringsHeard_64 [(4, .int (nI (((hTold r (nLen r) w.2.2 t k) * 10) + (r / 10 ^ (nLen r - 1 - k) % 10)))), (7, .int 7), (6, .int (nI (r / 10 ^ (nLen r - 1 - k) % 10))), (0, .ref (B.2.1 0 0 0)), (1, .int (nI r)), (2, .int (nI t)), (3, .int (nI (nLen r))), (5, .int (nI k))] rfl (gnl_lt hnL (by decide)) ?_
                refine gG_L [3, 4, 5, 6, 0, 7] (L' := [(0, .ref (B.2.1 0 0 0)), (1, .int (nI r)), (2, .int (nI t)), (3, .int (nI (nLen r))), (4, .int (nI (((hTold r (nLen r) w.2.2 t k) * 10) + (r / 10 ^ (nLen r - 1 - k) % 10)))), (5, .int (nI k))]) rfl ?_
                have hst : hTold r (nLen r) w.2.2 t (k + 1) = hTold r (nLen r) w.2.2 t k * 10 + r / 10 ^ (nLen r - 1 - k) % 10 := by
                  show (if _ < (if _ = 1 then 4 else 7) then _ else _) = _
                  rw [if_neg hr1, if_pos hfg, Nat.mul_comm]
                refine gG_Le [(0, .ref (B.2.1 0 0 0)), (1, .int (nI r)), (2, .int (nI t)), (3, .int (nI (nLen r))), (4, .int (nI (hTold r (nLen r) w.2.2 t (k + 1)))), (5, .int (nI k))] (by rw [hst]) ?_
                refine g_iinc X 5 rfl (nI (k + 1)) (iinc_1 _) dX6_ringsHeard_66 [(5, .int (nI (k + 1))), (0, .ref (B.2.1 0 0 0)), (1, .int (nI r)), (2, .int (nI t)), (3, .int (nI (nLen r))), (4, .int (nI (hTold r (nLen r) w.2.2 t (k + 1))))] rfl (gnl_lt hnL (by decide)) ?_
                refine g_goto X 11 (by decide) dX6_ringsHeard_69 ?_
                refine gG_L [1, 2, 3, 4, 5, 0] (L' := [(0, .ref (B.2.1 0 0 0)), (1, .int (nI r)), (2, .int (nI t)), (3, .int (nI (nLen r))), (4, .int (nI (hTold r (nLen r) w.2.2 t (k + 1)))), (5, .int (nI (k + 1)))]) rfl ?_
                refine ih (k + 1) (by omega)
            · skip
              refine g_icmp_ge X 66 (by decide) dX6_ringsHeard_53 (fun c20 => ?_) (fun c20 => ?_)
              · refine gG_L [2, 3, 4, 5, 6, 7] (L' := [(0, .ref (B.2.1 0 0 0)), (1, .int (nI r)), (2, .int (nI t)), (3, .int (nI (nLen r))), (4, .int (nI (hTold r (nLen r) w.2.2 t k))), (5, .int (nI k))]) rfl ?_
                have hst : hTold r (nLen r) w.2.2 t (k + 1) = hTold r (nLen r) w.2.2 t k := by
                  show (if _ < (if _ = 1 then 4 else 7) then _ else _) = _
                  rw [if_neg hr1, if_neg hfg]
                refine gG_Le [(0, .ref (B.2.1 0 0 0)), (1, .int (nI r)), (2, .int (nI t)), (3, .int (nI (nLen r))), (4, .int (nI (hTold r (nLen r) w.2.2 t (k + 1)))), (5, .int (nI k))] (by rw [hst]) ?_
                refine g_iinc X 5 rfl (nI (k + 1)) (iinc_1 _) dX6_ringsHeard_66 [(5, .int (nI (k + 1))), (0, .ref (B.2.1 0 0 0)), (1, .int (nI r)), (2, .int (nI t)), (3, .int (nI (nLen r))), (4, .int (nI (hTold r (nLen r) w.2.2 t (k + 1))))] rfl (gnl_lt hnL (by decide)) ?_
                refine g_goto X 11 (by decide) dX6_ringsHeard_69 ?_
                refine gG_L [1, 2, 3, 4, 5, 0] (L' := [(0, .ref (B.2.1 0 0 0)), (1, .int (nI r)), (2, .int (nI t)), (3, .int (nI (nLen r))), (4, .int (nI (hTold r (nLen r) w.2.2 t (k + 1)))), (5, .int (nI (k + 1)))]) rfl ?_
                refine ih (k + 1) (by omega)
              · first | exact absurd (nI_le (a := 7) (by omega) (by have := hw.2.2 ((t + k) % 20) (Nat.mod_lt _ (by decide)); omega)) c20 | exact absurd c20 (nI_le (a := 7) (by omega) (by have := hw.2.2 ((t + k) % 20) (Nat.mod_lt _ (by decide)); omega))
          · first | exact absurd (fun z => hr1 ((nI_eq (a := r / 10 ^ (nLen r - 1 - k) % 10) (b := 1) (by omega) (by decide)).mp z)) c15 | exact absurd c15 (fun z => hr1 ((nI_eq (a := r / 10 ^ (nLen r - 1 - k) % 10) (b := 1) (by omega) (by decide)).mp z))
  exact loop (nLen r) 0 (by omega)

/-- what is counted -/
def cntV (w : gWd) (k : Nat) : Int32 := match k with
  | 0 => nI (w.1.1 0)
  | 1 => nI w.2.1.1
  | 2 => nI (w.1.1 6)
  | 3 => nI (sCnt w.1 0)
  | 4 => nI (sCnt w.1 1)
  | 5 => nI (sCnt w.1 2)
  | 6 => nI (sCnt w.1 3)
  | 7 => nI (w.1.1 1)
  | 8 => nI (sW w.1)
  | 9 => nI (w.1.1 2)
  | _ => nI (w.1.1 3)
/-- nothing but the class's objects is another one -/
def cmod (V V' : gMem) : Prop := ∀ K b i, ¬ K < 20 → V' K b i = V K b i
theorem cmod.rf {V : gMem} : cmod V V := fun _ _ _ _ => rfl
theorem cmod.trans {V V1 V2 : gMem} (h : cmod V V1) (h2 : cmod V1 V2) : cmod V V2 := fun K b i hn => (h2 K b i hn).trans (h K b i hn)
theorem cmod.up {V V1 : gMem} {K k i j : Nat} {x : Int32} (h : cmod V V1) (hK : K < 20) : cmod V (gup V1 K k i j x) := fun K' b' i' hn => (gup_off V1 x (fun q => hn (by omega))).trans (h K' b' i' hn)
theorem brmod.cm {V V' : gMem} {b : Nat} (h : brmod V V' b) : cmod V V' := fun K b i hn => h K b i (fun q => hn (by omega))
theorem COk.br {V V' : gMem} {w : gWd} {S : gSt} (h : COk V w) (hm : brmod V V' 0) (hA : AbsC V' 0 S) : COk V' (S, w.2) :=
  ⟨hA, ⟨by rw [hm 1 0 0 (by simp)]; exact h.2.1.1, fun k hk => by rw [hm 2 0 0 (by simp)]; exact h.2.1.2 k hk⟩, fun j hj => by rw [hm 4 0 0 (by simp)]; exact h.2.2 j hj⟩
theorem COk.brO {V V' : gMem} {w : gWd} {b : Nat} (h : COk V w) (hm : brmod V V' b) (hb : b ≠ 0) : COk V' w :=
  ⟨h.1.other hm (Ne.symm hb), ⟨by rw [hm 1 0 0 (by simp)]; exact h.2.1.1, fun k hk => by rw [hm 2 0 0 (by simp)]; exact h.2.1.2 k hk⟩, fun j hj => by rw [hm 4 0 0 (by simp)]; exact h.2.2 j hj⟩

abbrev rmX6_countOf : Room := { frames := 3, cells := 0, slots := 0, locals := 66 }
set_option maxRecDepth 20000 in
theorem k_countOf {l : Launch} {B : gB} (hI : gI B) (V : gMem) (w : gWd) (k : Nat) (hQ : COk V w) (hw : wOk w) (hk : k < 11) : gM l B yX6_countOf cX6_countOf 2 (some .int) rmX6_countOf [.ref (B.2.1 0 0 0), .int (nI k)] V (fun v V' => v = some (.int (cntV w k)) ∧ V' = V) := by
  refine gM_of (own := RX6) (L := [(0, .ref (B.2.1 0 0 0)), (1, .int (nI k))]) (by decide +kernel) rfl hI (Nat.le_of_ble_eq_true rfl) rfl ?_
  intro Z hnL hR X F
  have h8 : ∀ i, i < w.1.1 6 → w.1.2.2.2.1 i 8 ≤ 3 := fun i hi => (hw.1.2.1 i hi).2.2.2.2.2.2.2
  refine g_iload_n X 1 rfl dX6_countOf_0 ?_
  rcases (show k = 0 ∨ k = 1 ∨ k = 2 ∨ k = 3 ∨ k = 4 ∨ k = 5 ∨ k = 6 ∨ k = 7 ∨ k = 8 ∨ k = 9 ∨ k = 10 by omega) with rfl | rfl | rfl | rfl | rfl | rfl | rfl | rfl | rfl | rfl | rfl
  · refine gG_top 0 rfl ?_
    refine g_tableIn X (55) 56 (by decide) (by decide) (by decide) (by decide) dX6_countOf_1 ?_
    refine g_aload_n X 0 rfl dX6_countOf_56 ?_
    refine gg_X6_bridge X ⟨by decide, by decide⟩ fX6_23 dX6_countOf_57 ?_
    refine gg_X0_tick X ⟨by decide, by decide⟩ fX6_90 dX6_countOf_60 ?_
    refine gG_top (nI (w.1.1 0)) (hQ.1.1 0 (by decide)) ?_
    refine g_iret X F ?_ rfl dX6_countOf_63
    exact ⟨rfl, rfl⟩
  · refine gG_top 1 rfl ?_
    refine g_tableIn X (63) 64 (by decide) (by decide) (by decide) (by decide) dX6_countOf_1 ?_
    refine g_aload_n X 0 rfl dX6_countOf_64 ?_
    refine gg_X6_code X ⟨by decide, by decide⟩ fX6_10 dX6_countOf_65 ?_
    refine gg_X2_size X ⟨by decide, by decide⟩ fX6_81 dX6_countOf_68 ?_
    refine gG_top (nI w.2.1.1) (hQ.2.1.1) ?_
    refine g_iret X F ?_ rfl dX6_countOf_71
    exact ⟨rfl, rfl⟩
  · refine gG_top 2 rfl ?_
    refine g_tableIn X (71) 72 (by decide) (by decide) (by decide) (by decide) dX6_countOf_1 ?_
    refine g_aload_n X 0 rfl dX6_countOf_72 ?_
    refine gg_X6_bridge X ⟨by decide, by decide⟩ fX6_23 dX6_countOf_73 ?_
    refine gg_X0_cartCount X ⟨by decide, by decide⟩ fX6_258 dX6_countOf_76 ?_
    refine gG_top (nI (w.1.1 6)) (hQ.1.1 6 (by decide)) ?_
    refine g_iret X F ?_ rfl dX6_countOf_79
    exact ⟨rfl, rfl⟩
  · refine gG_top 3 rfl ?_
    refine g_tableIn X (79) 80 (by decide) (by decide) (by decide) (by decide) dX6_countOf_1 ?_
    refine g_aload_n X 0 rfl dX6_countOf_80 ?_
    refine gg_X6_bridge X ⟨by decide, by decide⟩ fX6_23 dX6_countOf_81 ?_
    refine g_iconst X 0 (by decide) dX6_countOf_84 ?_
    refine g_callV X hR (rest := []) mX0_cartsIn lX6_261 (k_cartsIn hI V 0 w.1 0 (by decide) hQ.1 hw.1.1.2.2.2.2.2 h8 (by decide)) rfl rfl (Nat.le_of_ble_eq_true rfl) ⟨by decide, by decide⟩ rfl rfl rfl ⟨Nat.le_of_ble_eq_true rfl, Nat.le_of_ble_eq_true rfl, Nat.le_of_ble_eq_true rfl, Nat.le_of_ble_eq_true rfl⟩ dX6_countOf_85 (fun r1 V2 hz_3 => ?_)
    refine gG_ret hz_3.1 hz_3.2 ?_
    refine gG_st [.int (nI (sCnt w.1 0))] rfl ?_
    refine g_iret X F ?_ rfl dX6_countOf_88
    exact ⟨rfl, rfl⟩
  · refine gG_top 4 rfl ?_
    refine g_tableIn X (88) 89 (by decide) (by decide) (by decide) (by decide) dX6_countOf_1 ?_
    refine g_aload_n X 0 rfl dX6_countOf_89 ?_
    refine gg_X6_bridge X ⟨by decide, by decide⟩ fX6_23 dX6_countOf_90 ?_
    refine g_iconst X 1 (by decide) dX6_countOf_93 ?_
    refine g_callV X hR (rest := []) mX0_cartsIn lX6_261 (k_cartsIn hI V 0 w.1 1 (by decide) hQ.1 hw.1.1.2.2.2.2.2 h8 (by decide)) rfl rfl (Nat.le_of_ble_eq_true rfl) ⟨by decide, by decide⟩ rfl rfl rfl ⟨Nat.le_of_ble_eq_true rfl, Nat.le_of_ble_eq_true rfl, Nat.le_of_ble_eq_true rfl, Nat.le_of_ble_eq_true rfl⟩ dX6_countOf_94 (fun r4 V5 hz_6 => ?_)
    refine gG_ret hz_6.1 hz_6.2 ?_
    refine gG_st [.int (nI (sCnt w.1 1))] rfl ?_
    refine g_iret X F ?_ rfl dX6_countOf_97
    exact ⟨rfl, rfl⟩
  · refine gG_top 5 rfl ?_
    refine g_tableIn X (97) 98 (by decide) (by decide) (by decide) (by decide) dX6_countOf_1 ?_
    refine g_aload_n X 0 rfl dX6_countOf_98 ?_
    refine gg_X6_bridge X ⟨by decide, by decide⟩ fX6_23 dX6_countOf_99 ?_
    refine g_iconst X 2 (by decide) dX6_countOf_102 ?_
    refine g_callV X hR (rest := []) mX0_cartsIn lX6_261 (k_cartsIn hI V 0 w.1 2 (by decide) hQ.1 hw.1.1.2.2.2.2.2 h8 (by decide)) rfl rfl (Nat.le_of_ble_eq_true rfl) ⟨by decide, by decide⟩ rfl rfl rfl ⟨Nat.le_of_ble_eq_true rfl, Nat.le_of_ble_eq_true rfl, Nat.le_of_ble_eq_true rfl, Nat.le_of_ble_eq_true rfl⟩ dX6_countOf_103 (fun r7 V8 hz_9 => ?_)
    refine gG_ret hz_9.1 hz_9.2 ?_
    refine gG_st [.int (nI (sCnt w.1 2))] rfl ?_
    refine g_iret X F ?_ rfl dX6_countOf_106
    exact ⟨rfl, rfl⟩
  · refine gG_top 6 rfl ?_
    refine g_tableIn X (106) 107 (by decide) (by decide) (by decide) (by decide) dX6_countOf_1 ?_
    refine g_aload_n X 0 rfl dX6_countOf_107 ?_
    refine gg_X6_bridge X ⟨by decide, by decide⟩ fX6_23 dX6_countOf_108 ?_
    refine g_iconst X 3 (by decide) dX6_countOf_111 ?_
    refine g_callV X hR (rest := []) mX0_cartsIn lX6_261 (k_cartsIn hI V 0 w.1 3 (by decide) hQ.1 hw.1.1.2.2.2.2.2 h8 (by decide)) rfl rfl (Nat.le_of_ble_eq_true rfl) ⟨by decide, by decide⟩ rfl rfl rfl ⟨Nat.le_of_ble_eq_true rfl, Nat.le_of_ble_eq_true rfl, Nat.le_of_ble_eq_true rfl, Nat.le_of_ble_eq_true rfl⟩ dX6_countOf_112 (fun r10 V11 hz_12 => ?_)
    refine gG_ret hz_12.1 hz_12.2 ?_
    refine gG_st [.int (nI (sCnt w.1 3))] rfl ?_
    refine g_iret X F ?_ rfl dX6_countOf_115
    exact ⟨rfl, rfl⟩
  · refine gG_top 7 rfl ?_
    refine g_tableIn X (115) 116 (by decide) (by decide) (by decide) (by decide) dX6_countOf_1 ?_
    refine g_aload_n X 0 rfl dX6_countOf_116 ?_
    refine gg_X6_bridge X ⟨by decide, by decide⟩ fX6_23 dX6_countOf_117 ?_
    refine gg_X0_direction X ⟨by decide, by decide⟩ fX6_136 dX6_countOf_120 ?_
    refine gG_top (nI (w.1.1 1)) (hQ.1.1 1 (by decide)) ?_
    refine g_iret X F ?_ rfl dX6_countOf_123
    exact ⟨rfl, rfl⟩
  · refine gG_top 8 rfl ?_
    refine g_tableIn X (123) 124 (by decide) (by decide) (by decide) (by decide) dX6_countOf_1 ?_
    refine g_aload_n X 0 rfl dX6_countOf_124 ?_
    refine gg_X6_bridge X ⟨by decide, by decide⟩ fX6_23 dX6_countOf_125 ?_
    refine g_callV X hR (rest := []) mX0_weightOnBridge lX6_264 (k_wob hI V 0 w.1 (by decide) hQ.1 hw.1.1.2.2.2.2.2 (fun i hi => hw.1.mem hi)) rfl rfl (Nat.le_of_ble_eq_true rfl) ⟨by decide, by decide⟩ rfl rfl rfl ⟨Nat.le_of_ble_eq_true rfl, Nat.le_of_ble_eq_true rfl, Nat.le_of_ble_eq_true rfl, Nat.le_of_ble_eq_true rfl⟩ dX6_countOf_128 (fun r13 V14 hz_15 => ?_)
    refine gG_ret hz_15.1 hz_15.2 ?_
    refine gG_st [.int (nI (sW w.1))] rfl ?_
    refine g_iret X F ?_ rfl dX6_countOf_131
    exact ⟨rfl, rfl⟩
  · refine gG_top 9 rfl ?_
    refine g_tableIn X (131) 132 (by decide) (by decide) (by decide) (by decide) dX6_countOf_1 ?_
    refine g_aload_n X 0 rfl dX6_countOf_132 ?_
    refine gg_X6_bridge X ⟨by decide, by decide⟩ fX6_23 dX6_countOf_133 ?_
    refine gg_X0_places X ⟨by decide, by decide⟩ fX6_122 dX6_countOf_136 ?_
    refine gG_top (nI (w.1.1 2)) (hQ.1.1 2 (by decide)) ?_
    refine g_iret X F ?_ rfl dX6_countOf_139
    exact ⟨rfl, rfl⟩
  · refine gG_top 10 rfl ?_
    refine g_tableOut X 140 (by decide) (by decide) dX6_countOf_1 ?_
    refine g_aload_n X 0 rfl dX6_countOf_140 ?_
    refine gg_X6_bridge X ⟨by decide, by decide⟩ fX6_23 dX6_countOf_141 ?_
    refine gg_X0_bears X ⟨by decide, by decide⟩ fX6_119 dX6_countOf_144 ?_
    refine gG_top (nI (w.1.1 3)) (hQ.1.1 3 (by decide)) ?_
    refine g_iret X F ?_ rfl dX6_countOf_147
    exact ⟨rfl, rfl⟩

abbrev rmX6_change : Room := { frames := 1, cells := 0, slots := 0, locals := 20 }
set_option maxRecDepth 20000 in
theorem k_Cchange {l : Launch} {B : gB} (hI : gI B) (V : gMem) (w : gWd) (hQ : COk V w) (hw : wOk w) : gM l B yX6_change cX6_change 1 (some .int) rmX6_change [.ref (B.2.1 0 0 0)] V (fun v V' => v = some (.int (nI (1 - w.1.1 1))) ∧ COk V' (sTurn w.1, w.2) ∧ cmod V V' ∧ brmod V V' 0) := by
  refine gM_of (own := RX6) (L := [(0, .ref (B.2.1 0 0 0))]) (by decide +kernel) rfl hI (Nat.le_of_ble_eq_true rfl) rfl ?_
  intro Z hnL hR X F
  refine g_aload_n X 0 rfl dX6_change_0 ?_
  refine gg_X6_bridge X ⟨by decide, by decide⟩ fX6_23 dX6_change_1 ?_
  refine g_callV X hR (rest := []) mX0_turn lX6_133 (k_turn hI V 0 w.1 (by decide) hQ.1 hw.1.1.1) rfl rfl (Nat.le_of_ble_eq_true rfl) ⟨by decide, by decide⟩ rfl rfl rfl ⟨Nat.le_of_ble_eq_true rfl, Nat.le_of_ble_eq_true rfl, Nat.le_of_ble_eq_true rfl, Nat.le_of_ble_eq_true rfl⟩ dX6_change_4 (fun r1 V2 hz_3 => ?_)
  refine gG_rv hz_3.1 ?_
  obtain ⟨-, haV2, hbV2⟩ := hz_3
  obtain ⟨S4, eS4⟩ : ∃ y, y = sN w.1 1 (1 - w.1.1 1) := ⟨_, rfl⟩
  have hS4 : AbsC V2 0 S4 := by rw [eS4]; exact haV2
  have mS4 : brmod V V2 0 := hbV2
  refine gG_st [] rfl ?_
  refine g_aload_n X 0 rfl dX6_change_7 ?_
  refine gg_X6_bridge X ⟨by decide, by decide⟩ fX6_23 dX6_change_8 ?_
  refine gg_X0_direction X ⟨by decide, by decide⟩ fX6_136 dX6_change_11 ?_
  refine gG_top (nI (S4.1 1)) (hS4.1 1 (by decide)) ?_
  refine g_iret X F ?_ rfl dX6_change_14
  have heq : S4 = sTurn w.1 := eS4
  rw [heq] at hS4
  refine ⟨by rw [heq]; exact rfl, hQ.br mS4 hS4, mS4.cm, mS4⟩

