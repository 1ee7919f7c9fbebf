abbrev rmX0_move : Room := { frames := 3, cells := 0, slots := 0, locals := 67 }
set_option maxRecDepth 20000 in
theorem k_move {l : Launch} {B : gB} (hI : gI B) (V : gMem) (b : Nat) (S : gSt) (hb : b < 3) (hS : AbsC V b S) (hw : WF S) : gM l B yX0_move cX0_move 2 (some .int) rmX0_move [.ref (B.2.1 10 b 0)] V (fun v V' => v = some (.int (nI (sMove S).2)) ∧ AbsC V' b (sMove S).1 ∧ brmod V V' b) := by
  refine gM_of (own := RX0) (L := [(0, .ref (B.2.1 10 b 0))]) (by decide +kernel) rfl hI (Nat.le_of_ble_eq_true rfl) rfl ?_
  intro Z hnL hR X F
  have hN : S.1 6 ≤ 16 := hw.1.2.2.2.2.2
  refine g_aload_n X 0 rfl dX0_move_0 ?_
  refine g_aload_n X 0 rfl dX0_move_1 ?_
  refine gg_X0_crossing X (gP_10 (by first | assumption | decide | omega)) fX0_43 dX0_move_2 ?_
  refine g_iconst X 0 (by decide) dX0_move_5 ?_
  refine g_callV X hR (rest := [.ref (B.2.1 10 b 0)]) mX5_at lX0_83 (k_at hI V b 2 (S.2.1 2) 0 (by first | assumption | decide | omega) (by first | assumption | decide | omega) (hS.2.1 2 (by decide)) (by first | assumption | decide | omega)) rfl rfl (Nat.le_of_ble_eq_true rfl) (gP_13 (by first | assumption | decide | omega) (by first | assumption | decide | omega)) rfl rfl rfl ⟨Nat.le_of_ble_eq_true rfl, Nat.le_of_ble_eq_true rfl, Nat.le_of_ble_eq_true rfl, Nat.le_of_ble_eq_true rfl⟩ dX0_move_6 (fun r1 V2 hz_3 => ?_)
  refine gG_ret hz_3.1 hz_3.2 ?_
  refine gG_st [.int (lat (S.2.1 2) 0), .ref (B.2.1 10 b 0)] rfl ?_
  cases hq : S.2.1 2 with
  | nil =>
    refine gG_top (-1) (lat_nil rfl) ?_
    refine g_callV X hR (rest := []) mX0_cartAt lX0_57 (k_cartAtm hI V b S (by first | assumption | decide | omega) hS (by first | assumption | decide | omega)) rfl rfl (Nat.le_of_ble_eq_true rfl) (gP_10 (by first | assumption | decide | omega)) rfl rfl rfl ⟨Nat.le_of_ble_eq_true rfl, Nat.le_of_ble_eq_true rfl, Nat.le_of_ble_eq_true rfl, Nat.le_of_ble_eq_true rfl⟩ dX0_move_9 (fun r4 V5 hz_6 => ?_)
    refine gG_ret hz_6.1 hz_6.2 ?_
    refine gG_st [.null] rfl ?_
    refine g_astore_nN X rfl dX0_move_12 [(1, .null), (0, .ref (B.2.1 10 b 0))] rfl (gnl_lt hnL (by decide)) ?_
    refine g_aload_nN X 0 rfl dX0_move_13 ?_
    refine g_ifnonnullN X dX0_move_14 ?_
    refine g_iconst X 0 (by decide) dX0_move_17 ?_
    refine g_iret X F ?_ rfl dX0_move_18
    rw [show sMove S = (S, 0) by unfold sMove; rw [hq]]
    exact ⟨rfl, hS, brmod.rf⟩
  | cons i ys =>
    have hiq : i ∈ S.2.1 2 := by rw [hq]; exact List.mem_cons_self
    have hi := hw.mem hiq
    have hci := hw.2.1 i hi
    refine gG_top (nI i) (lat_cons rfl) ?_
    refine g_callV X hR (rest := []) mX0_cartAt lX0_57 (k_cartAt hI V b S i (by first | assumption | decide | omega) hS (by first | assumption | decide | omega) (by first | assumption | decide | omega)) rfl rfl (Nat.le_of_ble_eq_true rfl) (gP_10 (by first | assumption | decide | omega)) rfl rfl rfl ⟨Nat.le_of_ble_eq_true rfl, Nat.le_of_ble_eq_true rfl, Nat.le_of_ble_eq_true rfl, Nat.le_of_ble_eq_true rfl⟩ dX0_move_9 (fun r7 V8 hz_9 => ?_)
    refine gG_ret hz_9.1 hz_9.2 ?_
    refine gG_st [.ref (B.2.1 15 b i)] rfl ?_
    refine g_astore_n X rfl dX0_move_12 [(1, .ref (B.2.1 15 b i)), (0, .ref (B.2.1 10 b 0))] rfl (gnl_lt hnL (by decide)) ?_
    refine g_aload_n X 0 rfl dX0_move_13 ?_
    refine g_ifnonnull X 19 (by decide) dX0_move_14 ?_
    refine g_aload_n X 0 rfl dX0_move_19 ?_
    refine gg_X1_end X (gP_15 (by first | assumption | decide | omega) (by first | assumption | decide | omega)) fX0_100 dX0_move_20 ?_
    refine gG_top (nI (S.2.2.2.1 i 1)) (hS.2.2.2.1 i (by first | assumption | omega) 1 (by decide) (by decide)) ?_
    refine g_aload_n X 1 rfl dX0_move_23 ?_
    refine gg_X0_direction X (gP_10 (by first | assumption | decide | omega)) fX0_61 dX0_move_24 ?_
    refine gG_top (nI (S.1 1)) (hS.1 1 (by decide)) ?_
    refine g_icmp_ne X 35 (by decide) dX0_move_27 (fun c10 => ?_) (fun c10 => ?_)
    · refine g_aload_n X 1 rfl dX0_move_35 ?_
      refine g_callV X hR (rest := []) mX0_goBack lX0_139 (k_goBack hI V b S (by first | assumption | decide | omega) hS hw) rfl rfl (Nat.le_of_ble_eq_true rfl) (gP_10 (by first | assumption | decide | omega)) rfl rfl rfl ⟨Nat.le_of_ble_eq_true rfl, Nat.le_of_ble_eq_true rfl, Nat.le_of_ble_eq_true rfl, Nat.le_of_ble_eq_true rfl⟩ dX0_move_36 (fun r11 V12 hz_13 => ?_)
      refine gG_rv hz_13.1 ?_
      obtain ⟨-, haV12, hbV12⟩ := hz_13
      obtain ⟨S14, eS14⟩ : ∃ y, y = sGoBack S := ⟨_, rfl⟩
      have hS14 : AbsC V12 b S14 := by rw [eS14]; exact haV12
      have mS14 : brmod V V12 b := hbV12
      refine gG_st [] rfl ?_
      refine g_iconst X 0 (by decide) dX0_move_39 ?_
      refine g_iret X F ?_ rfl dX0_move_40
      have hE : sMove S = (sGoBack S, 0) := by unfold sMove; rw [hq]; exact if_neg (fun q => c10 (by rw [q]))
      rw [hE]
      subst eS14
      exact ⟨rfl, hS14, mS14⟩
    · refine g_aload_n X 1 rfl dX0_move_30 ?_
      refine g_callV X hR (rest := []) mX0_goOn lX0_136 (k_goOn hI V b S (by first | assumption | decide | omega) hS hw) rfl rfl (Nat.le_of_ble_eq_true rfl) (gP_10 (by first | assumption | decide | omega)) rfl rfl rfl ⟨Nat.le_of_ble_eq_true rfl, Nat.le_of_ble_eq_true rfl, Nat.le_of_ble_eq_true rfl, Nat.le_of_ble_eq_true rfl⟩ dX0_move_31 (fun r15 V16 hz_17 => ?_)
      refine gG_rv hz_17.1 ?_
      obtain ⟨-, haV16, hbV16⟩ := hz_17
      obtain ⟨S18, eS18⟩ : ∃ y, y = (sGoOn S).1 := ⟨_, rfl⟩
      have hS18 : AbsC V16 b S18 := by rw [eS18]; exact haV16
      have mS18 : brmod V V16 b := hbV16
      refine gG_st [.int (nI (sGoOn S).2)] rfl ?_
      refine g_iret X F ?_ rfl dX0_move_34
      have hE : sMove S = sGoOn S := by unfold sMove; rw [hq]; exact if_pos ((nI_eq (by have := hci.1; omega) (by have := hw.1.1; omega)).mp c10)
      rw [hE]
      subst eS18
      exact ⟨rfl, hS18, mS18⟩

abbrev rmX0_turn : Room := { frames := 0, cells := 0, slots := 0, locals := 0 }
set_option maxRecDepth 20000 in
theorem k_turn {l : Launch} {B : gB} (hI : gI B) (V : gMem) (b : Nat) (S : gSt) (hb : b < 3) (hS : AbsC V b S) (h1 : S.1 1 ≤ 1) : gM l B yX0_turn cX0_turn 1 none rmX0_turn [.ref (B.2.1 10 b 0)] V (fun v V' => v = none ∧ AbsC V' b (sN S 1 (1 - S.1 1)) ∧ brmod V V' b) := by
  refine gM_of (own := RX0) (L := [(0, .ref (B.2.1 10 b 0))]) (by decide +kernel) rfl hI (Nat.le_of_ble_eq_true rfl) rfl ?_
  intro Z hnL hR X F
  refine g_aload_n X 0 rfl dX0_turn_0 ?_
  refine g_iconst X 1 (by decide) dX0_turn_1 ?_
  refine g_aload_n X 0 rfl dX0_turn_2 ?_
  refine gg_X0_direction X (gP_10 (by first | assumption | decide | omega)) fX0_61 dX0_turn_3 ?_
  refine gG_top (nI (S.1 1)) (hS.1 1 (by decide)) ?_
  refine g_isub X dX0_turn_6 ?_
  refine gG_top (nI (1 - S.1 1)) (pk_sub (a := 1) h1) ?_
  refine gp_X0_direction X (gP_10 (by first | assumption | decide | omega)) fX0_61 dX0_turn_7 ?_
  refine gG_nm (fun V1 hV1 => ?_)
  obtain ⟨S2, eS2⟩ : ∃ y, y = sN S 1 (1 - S.1 1) := ⟨_, rfl⟩
  have hS2 : AbsC V1 b S2 := by rw [eS2, hV1]; exact hS.setN 1 (1 - S.1 1) (by decide)
  have mS2 : brmod V V1 b := by rw [hV1]; exact brmod.rf.up (by decide) (by decide)
  refine g_vret X F ?_ rfl dX0_turn_10
  subst eS2
  exact ⟨rfl, hS2, mS2⟩

abbrev rmX0_run : Room := { frames := 5, cells := 0, slots := 0, locals := 110 }
set_option maxRecDepth 20000 in
theorem k_run {l : Launch} {B : gB} (hI : gI B) (V : gMem) (b : Nat) (S : gSt) (N : Nat) (hb : b < 3) (hS : AbsC V b S) (hw : WF S) (hNb : N < 2 ^ 31) : gM l B yX0_run cX0_run 4 (some .int) rmX0_run [.ref (B.2.1 10 b 0), .int (nI N)] V (fun v V' => v = some (.int (nI (sRun N S).2)) ∧ AbsC V' b (sRun N S).1 ∧ brmod V V' b) := by
  refine gM_of (own := RX0) (L := [(0, .ref (B.2.1 10 b 0)), (1, .int (nI N))]) (by decide +kernel) rfl hI (Nat.le_of_ble_eq_true rfl) rfl ?_
  intro Z hnL hR X F
  refine g_iconst X 0 (by decide) dX0_run_0 ?_
  refine g_istore_n X rfl dX0_run_1 [(2, .int 0), (0, .ref (B.2.1 10 b 0)), (1, .int (nI N))] rfl (gnl_lt hnL (by decide)) ?_
  refine g_iconst X 0 (by decide) dX0_run_2 ?_
  refine g_istore_n X rfl dX0_run_3 [(3, .int 0), (2, .int 0), (0, .ref (B.2.1 10 b 0)), (1, .int (nI N))] rfl (gnl_lt hnL (by decide)) ?_
  refine gG_L [2, 3, 1, 0] (L' := [(0, .ref (B.2.1 10 b 0)), (1, .int (nI N)), (2, .int 0), (3, .int 0)]) rfl ?_
  have loop : ∀ (f : Nat) (i : Nat) (m : Nat) (V1 : gMem) (S1 : gSt), i + f = N → AbsC V1 b S1 → WF S1 → brmod V V1 b → sRun N S = ((sRun f S1).1, m + (sRun f S1).2) → gG Z B (0, 0) V1 4 [(0, .ref (B.2.1 10 b 0)), (1, .int (nI N)), (2, .int (nI m)), (3, .int (nI i))] [] := by
    intro f
    induction f with
    | zero =>
      intro i m V1 S1 hf hA hw1 hm hF
      refine g_iload_n X 3 rfl dX0_run_4 ?_
      refine g_iload_n X 1 rfl dX0_run_5 ?_
      refine g_icmp_ge X 36 (by decide) dX0_run_6 (fun c1 => ?_) (fun c1 => ?_)
      · refine g_iload_n X 2 rfl dX0_run_36 ?_
        refine g_iret X F ?_ rfl dX0_run_37
        rw [hF]
        exact ⟨rfl, hA, hm⟩
      · first | exact absurd (nI_le (by omega) (by omega)) c1 | exact absurd c1 (nI_le (by omega) (by omega))
    | succ f ih =>
      intro i m V1 S1 hf hA hw1 hm hF
      refine g_iload_n X 3 rfl dX0_run_4 ?_
      refine g_iload_n X 1 rfl dX0_run_5 ?_
      refine g_icmp_ge X 36 (by decide) dX0_run_6 (fun c2 => ?_) (fun c2 => ?_)
      · first | exact absurd (nI_ge (by omega) (by omega)) c2 | exact absurd c2 (nI_ge (by omega) (by omega))
      · refine g_iload_n X 2 rfl dX0_run_9 ?_
        refine g_aload_n X 0 rfl dX0_run_10 ?_
        refine g_callV X hR (rest := [.int (nI m)]) mX0_move lX0_64 (k_move hI V1 b S1 (by first | assumption | decide | omega) hA hw1) rfl rfl (Nat.le_of_ble_eq_true rfl) (gP_10 (by first | assumption | decide | omega)) rfl rfl rfl ⟨Nat.le_of_ble_eq_true rfl, Nat.le_of_ble_eq_true rfl, Nat.le_of_ble_eq_true rfl, Nat.le_of_ble_eq_true rfl⟩ dX0_run_11 (fun r3 V4 hz_5 => ?_)
        refine gG_rv hz_5.1 ?_
        obtain ⟨-, haV4, hbV4⟩ := hz_5
        obtain ⟨S6, eS6⟩ : ∃ y, y = (sMove S1).1 := ⟨_, rfl⟩
        have hS6 : AbsC V4 b S6 := by rw [eS6]; exact haV4
        have mS6 : brmod V V4 b := hm.trans hbV4
        refine gG_st [.int (nI (sMove S1).2), .int (nI m)] rfl ?_
        refine g_iadd X dX0_run_14 ?_
        refine gG_top (nI (m + (sMove S1).2)) (nI_add m (sMove S1).2) ?_
        refine g_istore_n X rfl dX0_run_15 [(2, .int (nI (m + (sMove S1).2))), (0, .ref (B.2.1 10 b 0)), (1, .int (nI N)), (3, .int (nI i))] rfl (gnl_lt hnL (by decide)) ?_
        refine g_aload_n X 1 rfl dX0_run_16 ?_
        refine g_callV X hR (rest := []) mX0_comeOn lX0_68 (k_comeOn hI V4 b S6 (by first | assumption | decide | omega) hS6 (by rw [eS6]; exact hw1.move)) rfl rfl (Nat.le_of_ble_eq_true rfl) (gP_10 (by first | assumption | decide | omega)) rfl rfl rfl ⟨Nat.le_of_ble_eq_true rfl, Nat.le_of_ble_eq_true rfl, Nat.le_of_ble_eq_true rfl, Nat.le_of_ble_eq_true rfl⟩ dX0_run_17 (fun r7 V8 hz_9 => ?_)
        refine gG_rv hz_9.1 ?_
        obtain ⟨-, haV8, hbV8⟩ := hz_9
        obtain ⟨S10, eS10⟩ : ∃ y, y = sCome S6 := ⟨_, rfl⟩
        have hS10 : AbsC V8 b S10 := by rw [eS10]; exact haV8
        have mS10 : brmod V V8 b := mS6.trans hbV8
        refine gG_st [] rfl ?_
        refine g_aload_n X 1 rfl dX0_run_20 ?_
        refine g_dup X rfl dX0_run_21 ?_
        refine gg_X0_tick X (gP_10 (by first | assumption | decide | omega)) fX0_71 dX0_run_22 ?_
        refine gG_top (nI (S10.1 0)) (hS10.1 0 (by decide)) ?_
        refine g_iconst X 1 (by decide) dX0_run_25 ?_
        refine g_iadd X dX0_run_26 ?_
        refine gG_top (nI ((S10.1 0) + 1)) (nI_1 _) ?_
        refine gp_X0_tick X (gP_10 (by first | assumption | decide | omega)) fX0_71 dX0_run_27 ?_
        refine gG_nm (fun V11 hV11 => ?_)
        obtain ⟨S12, eS12⟩ : ∃ y, y = sN S10 0 ((S10.1 0) + 1) := ⟨_, rfl⟩
        have hS12 : AbsC V11 b S12 := by rw [eS12, hV11]; exact hS10.setN 0 ((S10.1 0) + 1) (by decide)
        have mS12 : brmod V V11 b := by rw [hV11]; exact mS10.up (by decide) (by decide)
        have hTT : S12 = (sTick S1).1 := by rw [eS12, eS10, eS6]; rfl
        refine g_iinc X 3 rfl (nI (i + 1)) (iinc_1 _) dX0_run_30 [(3, .int (nI (i + 1))), (2, .int (nI (m + (sMove S1).2))), (0, .ref (B.2.1 10 b 0)), (1, .int (nI N))] rfl (gnl_lt hnL (by decide)) ?_
        refine g_goto X 4 (by decide) dX0_run_33 ?_
        refine gG_L [2, 3, 1, 0] (L' := [(0, .ref (B.2.1 10 b 0)), (1, .int (nI N)), (2, .int (nI (m + (sMove S1).2))), (3, .int (nI (i + 1)))]) rfl ?_
        refine ih (i + 1) (m + (sMove S1).2) V11 S12 (by omega) hS12 (by rw [hTT]; exact hw1.tick) mS12 ?_
        rw [hF, hTT]
        show _ = ((sRun f (sTick S1).1).1, m + (sMove S1).2 + (sRun f (sTick S1).1).2)
        rw [Nat.add_assoc]
        rfl
  exact loop N 0 0 V S (by omega) hS hw brmod.rf (by rw [Nat.zero_add])

