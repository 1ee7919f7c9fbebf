/-! the class: what its public methods stand on -/

abbrev rmX6_fogIn : Room := { frames := 1, cells := 0, slots := 0, locals := 21 }
set_option maxRecDepth 20000 in
theorem k_fogIn {l : Launch} {B : gB} (hI : gI B) (V : gMem) (w : gWd) (t : Nat) (hQ : COk V w) (hw : wOk w) (ht : t < 2 ^ 31) : gM l B yX6_fogIn cX6_fogIn 3 (some .int) rmX6_fogIn [.ref (B.2.1 0 0 0), .int (nI t)] V (fun v V' => v = some (.int (nI (w.2.2 (t % 20)))) ∧ V' = V) := by
  refine gM_of (own := RX6) (L := [(0, .ref (B.2.1 0 0 0)), (1, .int (nI t))]) (by decide +kernel) rfl hI (Nat.le_of_ble_eq_true rfl) rfl ?_
  intro Z hnL hR X F
  have hm := Nat.mod_lt t (y := 20) (by decide)
  refine g_iload_n X 1 rfl dX6_fogIn_0 ?_
  refine g_bipush X 20 (by decide) dX6_fogIn_1 ?_
  refine g_irem X (by decide) dX6_fogIn_3 ?_
  refine gG_top (nI (t % 20)) (pk_rem (d := 20) ht (by decide) (by decide)) ?_
  refine g_istore_n X rfl dX6_fogIn_4 [(2, .int (nI (t % 20))), (0, .ref (B.2.1 0 0 0)), (1, .int (nI t))] rfl (gnl_lt hnL (by decide)) ?_
  refine g_iload_n X 0 rfl dX6_fogIn_5 ?_
  refine g_aload_n X 1 rfl dX6_fogIn_6 ?_
  refine gg_X6_fog X ⟨by decide, by decide⟩ fX6_16 dX6_fogIn_7 ?_
  refine g_alen X (v := 20) ⟨by decide, by decide⟩ rfl (by decide) dX6_fogIn_10 ?_
  refine g_callS X hR (As := [.int (nI (t % 20)), .int 20]) (rest := []) mX6_isIndex lX6_68 (k_isIndex1 hI V (nI (t % 20)) 20 (nI_pos' (by omega)) (nI_lt (b := 20) (by omega) (by decide))) rfl rfl (Nat.le_of_ble_eq_true rfl) ⟨Nat.le_of_ble_eq_true rfl, Nat.le_of_ble_eq_true rfl, Nat.le_of_ble_eq_true rfl, Nat.le_of_ble_eq_true rfl⟩ dX6_fogIn_11 (fun r1 V2 hz_3 => ?_)
  refine gG_ret hz_3.1 hz_3.2 ?_
  refine gG_st [.int 1] rfl ?_
  refine g_if_eq X 26 (by decide) dX6_fogIn_14 (fun c4 => ?_) (fun c4 => ?_)
  ·  exact absurd c4 (by decide)
  · refine g_aload_n X 1 rfl dX6_fogIn_17 ?_
    refine gg_X6_fog X ⟨by decide, by decide⟩ fX6_16 dX6_fogIn_18 ?_
    refine g_iload_n X 0 rfl dX6_fogIn_21 ?_
    refine g_ialdN X (t % 20) rfl hm (by decide) ⟨by decide, by decide⟩ rfl dX6_fogIn_22 ?_
    refine gG_top (nI (w.2.2 (t % 20))) (hQ.2.2 _ hm) ?_
    refine g_goto X 27 (by decide) dX6_fogIn_23 ?_
    refine g_iret X F ?_ rfl dX6_fogIn_27
    exact ⟨rfl, rfl⟩

abbrev rmX6_ringsHeard : Room := { frames := 2, cells := 0, slots := 0, locals := 44 }
set_option maxRecDepth 20000 in
theorem k_ringsHeard {l : Launch} {B : gB} (hI : gI B) (V : gMem) (w : gWd) (r : Nat) (t : Nat) (hQ : COk V w) (hw : wOk w) (hr : r < 2 ^ 31) (ho : nOk r = true) (h6 : nLen r ≤ 6) (ht : t < 2 ^ 30) : gM l B yX6_ringsHeard cX6_ringsHeard 8 (some .int) rmX6_ringsHeard [.ref (B.2.1 0 0 0), .int (nI r), .int (nI t)] V (fun v V' => v = some (.int (nI (hTold r (nLen r) w.2.2 t (nLen r)))) ∧ V' = V) := by
  refine gM_of (own := RX6) (L := [(0, .ref (B.2.1 0 0 0)), (1, .int (nI r)), (2, .int (nI t))]) (by decide +kernel) rfl hI (Nat.le_of_ble_eq_true rfl) rfl ?_
  intro Z hnL hR X F
  refine g_iload_n X 1 rfl dX6_ringsHeard_0 ?_
  refine g_callS X hR (As := [.int (nI r)]) (rest := []) mX4_lengthOf lX6_33 (k_lenR hI V r hr ho) rfl rfl (Nat.le_of_ble_eq_true rfl) ⟨Nat.le_of_ble_eq_true rfl, Nat.le_of_ble_eq_true rfl, Nat.le_of_ble_eq_true rfl, Nat.le_of_ble_eq_true rfl⟩ dX6_ringsHeard_1 (fun r1 V2 hz_3 => ?_)
  refine gG_ret hz_3.1 hz_3.2 ?_
  refine gG_st [.int (nI (nLen r))] rfl ?_
  refine g_istore_n X rfl dX6_ringsHeard_4 [(3, .int (nI (nLen r))), (0, .ref (B.2.1 0 0 0)), (1, .int (nI r)), (2, .int (nI t))] rfl (gnl_lt hnL (by decide)) ?_
  refine g_iconst X 0 (by decide) dX6_ringsHeard_5 ?_
  refine g_istore X dX6_ringsHeard_6 [(4, .int 0), (3, .int (nI (nLen r))), (0, .ref (B.2.1 0 0 0)), (1, .int (nI r)), (2, .int (nI t))] rfl (gnl_lt hnL (by decide)) ?_
  refine g_iconst X 0 (by decide) dX6_ringsHeard_8 ?_
  refine g_istore X dX6_ringsHeard_9 [(5, .int 0), (4, .int 0), (3, .int (nI (nLen r))), (0, .ref (B.2.1 0 0 0)), (1, .int (nI r)), (2, .int (nI t))] rfl (gnl_lt hnL (by decide)) ?_
  refine gG_L [3, 4, 5, 2, 1, 0] (L' := [(0, .ref (B.2.1 0 0 0)), (1, .int (nI r)), (2, .int (nI t)), (3, .int (nI (nLen r))), (4, .int 0), (5, .int 0)]) rfl ?_
  have loop : ∀ (f : Nat) (k : Nat) , k + f = nLen r →  gG Z B (0, 0) V 11 [(0, .ref (B.2.1 0 0 0)), (1, .int (nI r)), (2, .int (nI t)), (3, .int (nI (nLen r))), (4, .int (nI (hTold r (nLen r) w.2.2 t k))), (5, .int (nI k))] [] := by
    intro f
    induction f with
    | zero =>
      intro k  hf 
      refine g_iload X 5 rfl dX6_ringsHeard_11 ?_
      refine g_iload_n X 3 rfl dX6_ringsHeard_13 ?_
      refine g_icmp_ge X 72 (by decide) dX6_ringsHeard_14 (fun c4 => ?_) (fun c4 => ?_)
      · refine g_iload X 4 rfl dX6_ringsHeard_72 ?_
        refine g_iret X F ?_ rfl dX6_ringsHeard_74
        exact ⟨by rw [show k = nLen r by omega], rfl⟩
      · first | exact absurd (nI_le (by omega) (by omega)) c4 | exact absurd c4 (nI_le (by omega) (by omega))
    | succ f ih =>
      intro k  hf 
      refine g_iload X 5 rfl dX6_ringsHeard_11 ?_
      refine g_iload_n X 3 rfl dX6_ringsHeard_13 ?_
      refine g_icmp_ge X 72 (by decide) dX6_ringsHeard_14 (fun c5 => ?_) (fun c5 => ?_)
      · first | exact absurd (nI_ge (by omega) (by omega)) c5 | exact absurd c5 (nI_ge (by omega) (by omega))
      · refine g_iload_n X 1 rfl dX6_ringsHeard_17 ?_
        refine g_iload_n X 3 rfl dX6_ringsHeard_18 ?_
        refine g_iconst X 1 (by decide) dX6_ringsHeard_19 ?_
        refine g_isub X dX6_ringsHeard_20 ?_
        refine gG_top (nI (nLen r - 1)) (nI_dec (by omega)) ?_
        refine g_iload X 5 rfl dX6_ringsHeard_21 ?_
        refine g_isub X dX6_ringsHeard_23 ?_
        refine gG_top (nI (nLen r - 1 - k)) (pk_sub (by omega)) ?_
        refine g_callS X hR (As := [.int (nI r), .int (nI (nLen r - 1 - k))]) (rest := []) mX4_ringAt lX6_252 (k_ringAt hI V r (nLen r - 1 - k) hr (by omega)) rfl rfl (Nat.le_of_ble_eq_true rfl) ⟨Nat.le_of_ble_eq_true rfl, Nat.le_of_ble_eq_true rfl, Nat.le_of_ble_eq_true rfl, Nat.le_of_ble_eq_true rfl⟩ dX6_ringsHeard_24 (fun r6 V7 hz_8 => ?_)
        refine gG_ret hz_8.1 hz_8.2 ?_
        refine gG_st [.int (nI (r / 10 ^ (nLen r - 1 - k) % 10))] rfl ?_
        refine g_istore X dX6_ringsHeard_27 [(6, .int (nI (r / 10 ^ (nLen r - 1 - k) % 10))), (0, .ref (B.2.1 0 0 0)), (1, .int (nI r)), (2, .int (nI t)), (3, .int (nI (nLen r))), (4, .int (nI (hTold r (nLen r) w.2.2 t k))), (5, .int (nI k))] rfl (gnl_lt hnL (by decide)) ?_
        refine g_iload X 0 rfl dX6_ringsHeard_29 ?_
        refine g_iconst X 1 (by decide) dX6_ringsHeard_31 ?_
        have hr10 : r / 10 ^ (nLen r - 1 - k) % 10 < 10 := Nat.mod_lt _ (by decide)
        by_cases hr1 : r / 10 ^ (nLen r - 1 - k) % 10 = 1
        · skip
          refine g_icmp_ne X 39 (by decide) dX6_ringsHeard_32 (fun c9 => ?_) (fun c9 => ?_)
          · first | exact absurd (fun z => z (by rw [hr1]; rfl)) c9 | exact absurd c9 (fun z => z (by rw [hr1]; rfl))
          · refine g_iconst X 4 (by decide) dX6_ringsHeard_35 ?_
            refine g_goto X 41 (by decide) dX6_ringsHeard_36 ?_
            refine g_istore X dX6_ringsHeard_41 [(7, .int 4), (6, .int (nI (r / 10 ^ (nLen r - 1 - k) % 10))), (0, .ref (B.2.1 0 0 0)), (1, .int (nI r)), (2, .int (nI t)), (3, .int (nI (nLen r))), (4, .int (nI (hTold r (nLen r) w.2.2 t k))), (5, .int (nI k))] rfl (gnl_lt hnL (by decide)) ?_
            refine g_aload_n X 2 rfl dX6_ringsHeard_43 ?_
            refine g_iload_n X 4 rfl dX6_ringsHeard_44 ?_
            refine g_iload X 7 rfl dX6_ringsHeard_45 ?_
            refine g_iadd X dX6_ringsHeard_47 ?_
            refine gG_top (nI (t + k)) (nI_add t k) ?_
            refine g_callV X hR (rest := []) mX6_fogIn lX6_255 (k_fogIn hI V w (t + k) hQ hw (by omega)) rfl rfl (Nat.le_of_ble_eq_true rfl) ⟨by decide, by decide⟩ rfl rfl rfl ⟨Nat.le_of_ble_eq_true rfl, Nat.le_of_ble_eq_true rfl, Nat.le_of_ble_eq_true rfl, Nat.le_of_ble_eq_true rfl⟩ dX6_ringsHeard_48 (fun r10 V11 hz_12 => ?_)
            refine gG_ret hz_12.1 hz_12.2 ?_
            refine gG_st [.int (nI (w.2.2 ((t + k) % 20)))] rfl ?_
            refine g_iload X 0 rfl dX6_ringsHeard_51 ?_
            by_cases hfg : w.2.2 ((t + k) % 20) < 4
            · skip
              refine g_icmp_ge X 66 (by decide) dX6_ringsHeard_53 (fun c13 => ?_) (fun c13 => ?_)
              · first | exact absurd (nI_ge (b := 4) hfg (by decide)) c13 | exact absurd c13 (nI_ge (b := 4) hfg (by decide))
              · refine g_iload X 6 rfl dX6_ringsHeard_56 ?_
                refine g_bipush X 10 (by decide) dX6_ringsHeard_58 ?_
                refine g_imul X dX6_ringsHeard_60 ?_
                refine gG_top (nI ((hTold r (nLen r) w.2.2 t k) * 10)) (pk_mul (hTold r (nLen r) w.2.2 t k) 10) ?_
                refine g_iload X 1 rfl dX6_ringsHeard_61 ?_
                refine g_iadd X dX6_ringsHeard_63 ?_
                refine gG_top (nI (((hTold r (nLen r) w.2.2 t k) * 10) + (r / 10 ^ (nLen r - 1 - k) % 10))) (nI_add ((hTold r (nLen r) w.2.2 t k) * 10) (r / 10 ^ (nLen r - 1 - k) % 10)) ?_
                refine g_istore X dX6_ringsHeard_64 [(4, .int (nI (((hTold r (nLen r) w.2.2 t k) * 10) + (r / 10 ^ (nLen r - 1 - k) % 10)))), (7, .int 4), (6, .int (nI (r / 10 ^ (nLen r - 1 - k) % 10))), (0, .ref (B.2.1 0 0 0)), (1, .int (nI r)), (2, .int (nI t)), (3, .int (nI (nLen r))), (5, .int (nI k))] rfl (gnl_lt hnL (by decide)) ?_
                refine gG_L [3, 4, 5, 6, 0, 7] (L' := [(0, .ref (B.2.1 0 0 0)), (1, .int (nI r)), (2, .int (nI t)), (3, .int (nI (nLen r))), (4, .int (nI (((hTold r (nLen r) w.2.2 t k) * 10) + (r / 10 ^ (nLen r - 1 - k) % 10)))), (5, .int (nI k))]) rfl ?_
                have hst : hTold r (nLen r) w.2.2 t (k + 1) = hTold r (nLen r) w.2.2 t k * 10 + r / 10 ^ (nLen r - 1 - k) % 10 := by
                  show (if _ < (if _ = 1 then 4 else 7) then _ else _) = _
                  rw [if_pos hr1, if_pos hfg, Nat.mul_comm]
                refine gG_Le [(0, .ref (B.2.1 0 0 0)), (1, .int (nI r)), (2, .int (nI t)), (3, .int (nI (nLen r))), (4, .int (nI (hTold r (nLen r) w.2.2 t (k + 1)))), (5, .int (nI k))] (by rw [hst]) ?_
                refine g_iinc X 5 rfl (nI (k + 1)) (iinc_1 _) dX6_ringsHeard_66 [(5, .int (nI (k + 1))), (0, .ref (B.2.1 0 0 0)), (1, .int (nI r)), (2, .int (nI t)), (3, .int (nI (nLen r))), (4, .int (nI (hTold r (nLen r) w.2.2 t (k + 1))))] rfl (gnl_lt hnL (by decide)) ?_
                refine g_goto X 11 (by decide) dX6_ringsHeard_69 ?_
                refine gG_L [1, 2, 3, 4, 5, 0] (L' := [(0, .ref (B.2.1 0 0 0)), (1, .int (nI r)), (2, .int (nI t)), (3, .int (nI (nLen r))), (4, .int (nI (hTold r (nLen r) w.2.2 t (k + 1)))), (5, .int (nI (k + 1)))]) rfl ?_
                refine ih (k + 1) (by omega)
            · skip
              refine g_icmp_ge X 66 (by decide) dX6_ringsHeard_53 (fun c14 => ?_) (fun c14 => ?_)
              · refine gG_L [2, 3, 4, 5, 6, 7] (L' := [(0, .ref (B.2.1 0 0 0)), (1, .int (nI r)), (2, .int (nI t)), (3, .int (nI (nLen r))), (4, .int (nI (hTold r (nLen r) w.2.2 t k))), (5, .int (nI k))]) rfl ?_
                have hst : hTold r (nLen r) w.2.2 t (k + 1) = hTold r (nLen r) w.2.2 t k := by
                  show (if _ < (if _ = 1 then 4 else 7) then _ else _) = _
                  rw [if_pos hr1, if_neg hfg]
                refine gG_Le [(0, .ref (B.2.1 0 0 0)), (1, .int (nI r)), (2, .int (nI t)), (3, .int (nI (nLen r))), (4, .int (nI (hTold r (nLen r) w.2.2 t (k + 1)))), (5, .int (nI k))] (by rw [hst]) ?_
                refine g_iinc X 5 rfl (nI (k + 1)) (iinc_1 _) dX6_ringsHeard_66 [(5, .int (nI (k + 1))), (0, .ref (B.2.1 0 0 0)), (1, .int (nI r)), (2, .int (nI t)), (3, .int (nI (nLen r))), (4, .int (nI (hTold r (nLen r) w.2.2 t (k + 1))))] rfl (gnl_lt hnL (by decide)) ?_
                refine g_goto X 11 (by decide) dX6_ringsHeard_69 ?_
                refine gG_L [1, 2, 3, 4, 5, 0] (L' := [(0, .ref (B.2.1 0 0 0)), (1, .int (nI r)), (2, .int (nI t)), (3, .int (nI (nLen r))), (4, .int (nI (hTold r (nLen r) w.2.2 t (k + 1)))), (5, .int (nI (k + 1)))]) rfl ?_
                refine ih (k + 1) (by omega)
              · first | exact absurd (nI_le (a := 4) (by omega) (by have := hw.2.2 ((t + k) % 20) (Nat.mod_lt _ (by decide)); omega)) c14 | exact absurd c14 (nI_le (a := 4) (by omega) (by have := hw.2.2 ((t + k) % 20) (Nat.mod_lt _ (by decide)); omega))
        · skip
          refine g_icmp_ne X 39 (by decide) dX6_ringsHeard_32 (fun c15 => ?_) (fun c15 => ?_)
          · refine g_bipush X 7 (by decide) dX6_ringsHeard_39 ?_
            refine g_istore X dX6_ringsHeard_41 [(7, .int 7), (6, .int (nI (r / 10 ^ (nLen r - 1 - k) % 10))), (0, .ref (B.2.1 0 0 0)), (1, .int (nI r)), (2, .int (nI t)), (3, .int (nI (nLen r))), (4, .int (nI (hTold r (nLen r) w.2.2 t k))), (5, .int (nI k))] rfl (gnl_lt hnL (by decide)) ?_
            refine g_aload_n X 2 rfl dX6_ringsHeard_43 ?_
            refine g_iload_n X 4 rfl dX6_ringsHeard_44 ?_
            refine g_iload X 7 rfl dX6_ringsHeard_45 ?_
            refine g_iadd X dX6_ringsHeard_47 ?_
            refine gG_top (nI (t + k)) (nI_add t k) ?_
            refine g_callV X hR (rest := []) mX6_fogIn lX6_255 (k_fogIn hI V w (t + k) hQ hw (by omega)) rfl rfl (Nat.le_of_ble_eq_true rfl) ⟨by decide, by decide⟩ rfl rfl rfl ⟨Nat.le_of_ble_eq_true rfl, Nat.le_of_ble_eq_true rfl, Nat.le_of_ble_eq_true rfl, Nat.le_of_ble_eq_true rfl⟩ dX6_ringsHeard_48 (fun r16 V17 hz_18 => ?_)
            refine gG_ret hz_18.1 hz_18.2 ?_
            refine gG_st [.int (nI (w.2.2 ((t + k) % 20)))] rfl ?_
            refine g_iload X 0 rfl dX6_ringsHeard_51 ?_
            by_cases hfg : w.2.2 ((t + k) % 20) < 7
            · skip
              refine g_icmp_ge X 66 (by decide) dX6_ringsHeard_53 (fun c19 => ?_) (fun c19 => ?_)
              · first | exact absurd (nI_ge (b := 7) hfg (by decide)) c19 | exact absurd c19 (nI_ge (b := 7) hfg (by decide))
              · refine g_iload X 6 rfl dX6_ringsHeard_56 ?_
                refine g_bipush X 10 (by decide) dX6_ringsHeard_58 ?_
                refine g_imul X dX6_ringsHeard_60 ?_
                refine gG_top (nI ((hTold r (nLen r) w.2.2 t k) * 10)) (pk_mul (hTold r (nLen r) w.2.2 t k) 10) ?_
                refine g_iload X 1 rfl dX6_ringsHeard_61 ?_
                refine g_iadd X dX6_ringsHeard_63 ?_
                refine gG_top (nI (((hTold r (nLen r) w.2.2 t k) * 10) + (r / 10 ^ (nLen r - 1 - k) % 10))) (nI_add ((hTold r (nLen r) w.2.2 t k) * 10) (r / 10 ^ (nLen r - 1 - k) % 10)) ?_
                refine g_istore X dX6_ringsHeard_64 [(4, .int (nI (((hTold r (nLen r) w.2.2 t k) * 10) + (r / 10 ^ (nLen r - 1 - k) % 10)))), (7, .int 7), (6, .int (nI (r / 10 ^ (nLen r - 1 - k) % 10))), (0, .ref (B.2.1 0 0 0)), (1, .int (nI r)), (2, .int (nI t)), (3, .int (nI (nLen r))), (5, .int (nI k))] rfl (gnl_lt hnL (by decide)) ?_
                refine gG_L [3, 4, 5, 6, 0, 7] (L' := [(0, .ref (B.2.1 0 0 0)), (1, .int (nI r)), (2, .int (nI t)), (3, .int (nI (nLen r))), (4, .int (nI (((hTold r (nLen r) w.2.2 t k) * 10) + (r / 10 ^ (nLen r - 1 - k) % 10)))), (5, .int (nI k))]) rfl ?_
                have hst : hTold r (nLen r) w.2.2 t (k + 1) = hTold r (nLen r) w.2.2 t k * 10 + r / 10 ^ (nLen r - 1 - k) % 10 := by
                  show (if _ < (if _ = 1 then 4 else 7) then _ else _) = _
                  rw [if_neg hr1, if_pos hfg, Nat.mul_comm]
                refine gG_Le [(0, .ref (B.2.1 0 0 0)), (1, .int (nI r)), (2, .int (nI t)), (3, .int (nI (nLen r))), (4, .int (nI (hTold r (nLen r) w.2.2 t (k + 1)))), (5, .int (nI k))] (by rw [hst]) ?_
                refine g_iinc X 5 rfl (nI (k + 1)) (iinc_1 _) dX6_ringsHeard_66 [(5, .int (nI (k + 1))), (0, .ref (B.2.1 0 0 0)), (1, .int (nI r)), (2, .int (nI t)), (3, .int (nI (nLen r))), (4, .int (nI (hTold r (nLen r) w.2.2 t (k + 1))))] rfl (gnl_lt hnL (by decide)) ?_
                refine g_goto X 11 (by decide) dX6_ringsHeard_69 ?_
                refine gG_L [1, 2, 3, 4, 5, 0] (L' := [(0, .ref (B.2.1 0 0 0)), (1, .int (nI r)), (2, .int (nI t)), (3, .int (nI (nLen r))), (4, .int (nI (hTold r (nLen r) w.2.2 t (k + 1)))), (5, .int (nI (k + 1)))]) rfl ?_
                refine ih (k + 1) (by omega)
            · skip
              refine g_icmp_ge X 66 (by decide) dX6_ringsHeard_53 (fun c20 => ?_) (fun c20 => ?_)
              · refine gG_L [2, 3, 4, 5, 6, 7] (L' := [(0, .ref (B.2.1 0 0 0)), (1, .int (nI r)), (2, .int (nI t)), (3, .int (nI (nLen r))), (4, .int (nI (hTold r (nLen r) w.2.2 t k))), (5, .int (nI k))]) rfl ?_
                have hst : hTold r (nLen r) w.2.2 t (k + 1) = hTold r (nLen r) w.2.2 t k := by
                  show (if _ < (if _ = 1 then 4 else 7) then _ else _) = _
                  rw [if_neg hr1, if_neg hfg]
                refine gG_Le [(0, .ref (B.2.1 0 0 0)), (1, .int (nI r)), (2, .int (nI t)), (3, .int (nI (nLen r))), (4, .int (nI (hTold r (nLen r) w.2.2 t (k + 1)))), (5, .int (nI k))] (by rw [hst]) ?_
                refine g_iinc X 5 rfl (nI (k + 1)) (iinc_1 _) dX6_ringsHeard_66 [(5, .int (nI (k + 1))), (0, .ref (B.2.1 0 0 0)), (1, .int (nI r)), (2, .int (nI t)), (3, .int (nI (nLen r))), (4, .int (nI (hTold r (nLen r) w.2.2 t (k + 1))))] rfl (gnl_lt hnL (by decide)) ?_
                refine g_goto X 11 (by decide) dX6_ringsHeard_69 ?_
                refine gG_L [1, 2, 3, 4, 5, 0] (L' := [(0, .ref (B.2.1 0 0 0)), (1, .int (nI r)), (2, .int (nI t)), (3, .int (nI (nLen r))), (4, .int (nI (hTold r (nLen r) w.2.2 t (k + 1)))), (5, .int (nI (k + 1)))]) rfl ?_
                refine ih (k + 1) (by omega)
              · first | exact absurd (nI_le (a := 7) (by omega) (by have := hw.2.2 ((t + k) % 20) (Nat.mod_lt _ (by decide)); omega)) c20 | exact absurd c20 (nI_le (a := 7) (by omega) (by have := hw.2.2 ((t + k) % 20) (Nat.mod_lt _ (by decide)); omega))
          · first | exact absurd (fun z => hr1 ((nI_eq (a := r / 10 ^ (nLen r - 1 - k) % 10) (b := 1) (by omega) (by decide)).mp z)) c15 | exact absurd c15 (fun z => hr1 ((nI_eq (a := r / 10 ^ (nLen r - 1 - k) % 10) (b := 1) (by omega) (by decide)).mp z))
  exact loop (nLen r) 0 (by omega)

