abbrev rmX8_overBy : Room := { frames := 5, cells := 0, slots := 0, locals := 133 }
set_option maxRecDepth 20000 in
theorem k_overBy {l : Launch} {B : gB} (hI : gI B) (V : gMem) (S : gSt) (c : Nat) (hA : AbsM V 0 S) (hw : WF S) (hc : c < 2 ^ 31) : gM l B yX8_overBy cX8_overBy 3 (some .int) rmX8_overBy [.ref (B.2.1 20 0 0), .int (nI c)] V (fun v V' => v = some (.int (nI (sCnt (kpT S c 60) 2))) ∧ stmod V V' 1) := by
  refine gM_of (own := RX8) (L := [(0, .ref (B.2.1 20 0 0)), (1, .int (nI c))]) (by decide +kernel) rfl hI (Nat.le_of_ble_eq_true rfl) rfl ?_
  intro Z hnL hR X F
  refine g_aload_n X 0 rfl dX8_overBy_0 ?_
  refine gg_X8_ahead X ⟨by decide, by decide⟩ fX8_38 dX8_overBy_1 ?_
  refine g_aload_n X 0 rfl dX8_overBy_4 ?_
  refine gg_X8_s X ⟨by decide, by decide⟩ fX8_34 dX8_overBy_5 ?_
  refine g_callV X hR (rest := []) mX7_become lX8_132 (k_become hI V 0 1 S (by decide) (by decide) (by decide) hA hw) rfl rfl (Nat.le_of_ble_eq_true rfl) ⟨by decide, by decide⟩ rfl rfl rfl ⟨Nat.le_of_ble_eq_true rfl, Nat.le_of_ble_eq_true rfl, Nat.le_of_ble_eq_true rfl, Nat.le_of_ble_eq_true rfl⟩ dX8_overBy_8 (fun r1 V2 hz_3 => ?_)
  refine gG_rv hz_3.1 ?_
  obtain ⟨-, haV2, hmV2⟩ := hz_3
  refine gG_st [] rfl ?_
  refine g_iconst X 0 (by decide) dX8_overBy_11 ?_
  refine g_istore_n X rfl dX8_overBy_12 [(2, .int 0), (0, .ref (B.2.1 20 0 0)), (1, .int (nI c))] rfl (gnl_lt hnL (by decide)) ?_
  refine gG_L [1, 2, 0] (L' := [(0, .ref (B.2.1 20 0 0)), (1, .int (nI c)), (2, .int 0)]) rfl ?_
  have loop : ∀ (f : Nat) (t : Nat) (Vp : gMem), t + f = 60 → AbsM Vp 1 (kpT S c t) → stmod V2 Vp 1 → gG Z B (0, 0) Vp 13 [(0, .ref (B.2.1 20 0 0)), (1, .int (nI c)), (2, .int (nI t))] [] := by
    intro f
    induction f with
    | zero =>
      intro t Vp hf hA hs1
      refine g_iload_n X 2 rfl dX8_overBy_13 ?_
      refine g_bipush X 60 (by decide) dX8_overBy_14 ?_
      refine g_icmp_ge X 54 (by decide) dX8_overBy_16 (fun c4 => ?_) (fun c4 => ?_)
      · refine g_aload_n X 0 rfl dX8_overBy_54 ?_
        refine gg_X8_ahead X ⟨by decide, by decide⟩ fX8_38 dX8_overBy_55 ?_
        refine g_iconst X 2 (by decide) dX8_overBy_58 ?_
        refine g_callV X hR (rest := []) mX7_how lX8_85 (k_how hI Vp 1 (kpT S c t) 2 (by decide) hA (hw.kp c t).1.2.2.2.2.2 (fun i hi => ((hw.kp c t).2.1 i hi).2.2.2.2.2.2.2) (by first | assumption | decide | omega)) rfl rfl (Nat.le_of_ble_eq_true rfl) ⟨by decide, by decide⟩ rfl rfl rfl ⟨Nat.le_of_ble_eq_true rfl, Nat.le_of_ble_eq_true rfl, Nat.le_of_ble_eq_true rfl, Nat.le_of_ble_eq_true rfl⟩ dX8_overBy_59 (fun r5 V6 hz_7 => ?_)
        refine gG_ret hz_7.1 hz_7.2 ?_
        refine gG_st [.int (nI (sCnt (kpT S c t) 2))] rfl ?_
        refine g_iret X F ?_ rfl dX8_overBy_62
        exact ⟨by rw [show t = 60 by omega], hmV2.trans hs1⟩
      · first | exact absurd (nI_le (a := 60) (by omega) (by omega)) c4 | exact absurd c4 (nI_le (a := 60) (by omega) (by omega))
    | succ f ih =>
      intro t Vp hf hA hs1
      refine g_iload_n X 2 rfl dX8_overBy_13 ?_
      refine g_bipush X 60 (by decide) dX8_overBy_14 ?_
      refine g_icmp_ge X 54 (by decide) dX8_overBy_16 (fun c8 => ?_) (fun c8 => ?_)
      · first | exact absurd (nI_ge (b := 60) (by omega) (by decide)) c8 | exact absurd c8 (nI_ge (b := 60) (by omega) (by decide))
      · refine g_iload_n X 2 rfl dX8_overBy_19 ?_
        refine g_iload_n X 1 rfl dX8_overBy_20 ?_
        by_cases htc : t = c
        · skip
          refine g_icmp_ne X 40 (by decide) dX8_overBy_21 (fun c9 => ?_) (fun c9 => ?_)
          · first | exact absurd (fun z => z (by rw [htc])) c9 | exact absurd c9 (fun z => z (by rw [htc]))
          · refine g_aload_n X 0 rfl dX8_overBy_24 ?_
            refine gg_X8_ahead X ⟨by decide, by decide⟩ fX8_38 dX8_overBy_25 ?_
            refine g_iconst X 1 (by decide) dX8_overBy_28 ?_
            refine g_aload_n X 0 rfl dX8_overBy_29 ?_
            refine gg_X8_ahead X ⟨by decide, by decide⟩ fX8_38 dX8_overBy_30 ?_
            refine gg_X7_open X ⟨by decide, by decide⟩ fX8_88 dX8_overBy_33 ?_
            refine gG_top (nI ((kpT S c t).1 1)) (hA.1.2.1) ?_
            refine g_isub X dX8_overBy_36 ?_
            refine gG_top (nI (1 - (kpT S c t).1 1)) (pk_sub (a := 1) (hw.kp c t).1.1) ?_
            refine gp_X7_open X ⟨by decide, by decide⟩ fX8_88 dX8_overBy_37 ?_
            refine gG_nm (fun V10 hV10 => ?_)
            have hA2 : AbsM V10 1 (sTurn (kpT S c t)) := by rw [hV10]; exact hA.setN 1 _ (by decide)
            have hs2 : stmod V2 V10 1 := by rw [hV10]; exact hs1.up (by decide) (by decide)
            have hw2 := (hw.kp c t).turn
            refine g_aload_n X 0 rfl dX8_overBy_40 ?_
            refine gg_X8_ahead X ⟨by decide, by decide⟩ fX8_38 dX8_overBy_41 ?_
            refine g_callV X hR (rest := []) mX7_pass lX8_122 (k_pass hI V10 1 (sTurn (kpT S c t)) (by decide) hA2 hw2) rfl rfl (Nat.le_of_ble_eq_true rfl) ⟨by decide, by decide⟩ rfl rfl rfl ⟨Nat.le_of_ble_eq_true rfl, Nat.le_of_ble_eq_true rfl, Nat.le_of_ble_eq_true rfl, Nat.le_of_ble_eq_true rfl⟩ dX8_overBy_44 (fun r11 V12 hz_13 => ?_)
            refine gG_rv hz_13.1 ?_
            obtain ⟨-, hmV12, haV12⟩ := hz_13
            refine gG_st [.int (nI (sTick (sTurn (kpT S c t))).2)] rfl ?_
            refine g_pop X rfl dX8_overBy_47 ?_
            refine g_iinc X 2 rfl (nI (t + 1)) (iinc_1 _) dX8_overBy_48 [(2, .int (nI (t + 1))), (0, .ref (B.2.1 20 0 0)), (1, .int (nI c))] rfl (gnl_lt hnL (by decide)) ?_
            refine g_goto X 13 (by decide) dX8_overBy_51 ?_
            refine gG_L [1, 2, 0] (L' := [(0, .ref (B.2.1 20 0 0)), (1, .int (nI c)), (2, .int (nI (t + 1)))]) rfl ?_
            refine ih (t + 1) V12 (by omega) (by show AbsM _ 1 (sTick (if t = c then sTurn (kpT S c t) else kpT S c t)).1; rw [if_pos htc]; exact haV12) (hs2.trans hmV12)
        · skip
          refine g_icmp_ne X 40 (by decide) dX8_overBy_21 (fun c14 => ?_) (fun c14 => ?_)
          · have hA2 := hA
            have hs2 := hs1
            have hw2 := hw.kp c t
            refine g_aload_n X 0 rfl dX8_overBy_40 ?_
            refine gg_X8_ahead X ⟨by decide, by decide⟩ fX8_38 dX8_overBy_41 ?_
            refine g_callV X hR (rest := []) mX7_pass lX8_122 (k_pass hI Vp 1 (kpT S c t) (by decide) hA2 hw2) rfl rfl (Nat.le_of_ble_eq_true rfl) ⟨by decide, by decide⟩ rfl rfl rfl ⟨Nat.le_of_ble_eq_true rfl, Nat.le_of_ble_eq_true rfl, Nat.le_of_ble_eq_true rfl, Nat.le_of_ble_eq_true rfl⟩ dX8_overBy_44 (fun r15 V16 hz_17 => ?_)
            refine gG_rv hz_17.1 ?_
            obtain ⟨-, hmV16, haV16⟩ := hz_17
            refine gG_st [.int (nI (sTick (kpT S c t)).2)] rfl ?_
            refine g_pop X rfl dX8_overBy_47 ?_
            refine g_iinc X 2 rfl (nI (t + 1)) (iinc_1 _) dX8_overBy_48 [(2, .int (nI (t + 1))), (0, .ref (B.2.1 20 0 0)), (1, .int (nI c))] rfl (gnl_lt hnL (by decide)) ?_
            refine g_goto X 13 (by decide) dX8_overBy_51 ?_
            refine gG_L [1, 2, 0] (L' := [(0, .ref (B.2.1 20 0 0)), (1, .int (nI c)), (2, .int (nI (t + 1)))]) rfl ?_
            refine ih (t + 1) V16 (by omega) (by show AbsM _ 1 (sTick (if t = c then sTurn (kpT S c t) else kpT S c t)).1; rw [if_neg htc]; exact haV16) (hs2.trans hmV16)
          · first | exact absurd (fun z => htc ((nI_eq (by omega) (by omega)).mp z)) c14 | exact absurd c14 (fun z => htc ((nI_eq (by omega) (by omega)).mp z))
  exact loop 60 0 V2 (by omega) haV2 stmod.rf

