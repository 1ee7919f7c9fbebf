theorem kpL_0 (S : gSt) : kpL S 0 = ((sRun 60 S).2, -1) := by rw [kpL]
theorem kpL_s (S : gSt) (k : Nat) : kpL S (k + 1) = if (kpL S k).1 < kpF S k then (kpF S k, nI k) else kpL S k := by rw [kpL]
theorem sRun_le {S : gSt} (h : WF S) (n : Nat) : (sRun n S).2 ≤ 16 := by
  have h1 := run_cnt n h
  have h2 := cntF_le (fun i => decide ((sRun n S).1.2.2.2.1 i 8 = 2)) ((sRun n S).1.1 6)
  have h3 := (h.run n).1.2.2.2.2.2
  unfold sCnt at h1
  omega
theorem kpF_le {S : gSt} (h : WF S) (k : Nat) : kpF S k ≤ 32 := by
  have h1 := sRun_le h k
  have h2 := sRun_le ((WF.run k h).turn) (60 - k)
  unfold kpF
  omega
theorem kpL_le {S : gSt} (h : WF S) : ∀ k, (kpL S k).1 ≤ 32
  | 0 => by
    rw [kpL_0]
    have := sRun_le h 60
    show (sRun 60 S).2 ≤ 32
    omega
  | k + 1 => by
    rw [kpL_s]
    split
    · exact kpF_le h k
    · exact kpL_le h k
theorem sCnt_le {S : gSt} (h : WF S) (st : Nat) : sCnt S st ≤ 16 := by
  have h2 := cntF_le (fun i => decide (S.2.2.2.1 i 8 = st)) (S.1 6)
  have h3 := h.1.2.2.2.2.2
  unfold sCnt
  omega

abbrev rmX8_keep : Room := { frames := 6, cells := 0, slots := 0, locals := 155 }
set_option maxRecDepth 20000 in
theorem k_Mkeep {l : Launch} {B : gB} (hI : gI B) (V : gMem) (w : gWd) (hM : MOk V w) (hw : wOk w) : gM l B yX8_keep cX8_keep 5 (some .int) rmX8_keep [.ref (B.2.1 20 0 0)] V (fun v V' => v = some (.int (oKeep w)) ∧ MOk V' w ∧ mmod V V') := by
  refine gM_of (own := RX8) (L := [(0, .ref (B.2.1 20 0 0))]) (by decide +kernel) rfl hI (Nat.le_of_ble_eq_true rfl) rfl ?_
  intro Z hnL hR X F
  have hs2 := sCnt_le hw.1 2
  refine g_aload_n X 0 rfl dX8_keep_0 ?_
  refine g_iconst X 0 (by decide) dX8_keep_1 ?_
  refine gp_X8_thrown X ⟨by decide, by decide⟩ fX8_41 dX8_keep_2 ?_
  refine gG_nm (fun V1 hV1 => ?_)
  have hM1 : MOk V1 w := by rw [hV1]; exact hM.thr 0
  have hm1 : mmod V V1 := by rw [hV1]; exact mmod.rf.up (by decide) (by decide)
  refine g_aload_n X 0 rfl dX8_keep_5 ?_
  refine g_bipush X 60 (by decide) dX8_keep_6 ?_
  refine g_callV X hR (rest := []) mX8_overBy lX8_136 (k_overBy hI V1 w.1 60 hM1.1 hw.1 (by decide)) rfl rfl (Nat.le_of_ble_eq_true rfl) ⟨by decide, by decide⟩ rfl rfl rfl ⟨Nat.le_of_ble_eq_true rfl, Nat.le_of_ble_eq_true rfl, Nat.le_of_ble_eq_true rfl, Nat.le_of_ble_eq_true rfl⟩ dX8_keep_8 (fun r2 V3 hz_4 => ?_)
  refine gG_rv hz_4.1 ?_
  have hmV3 := hz_4.2
  refine gG_st [.int (nI (sCnt (kpT w.1 60 60) 2))] rfl ?_
  refine g_istore_n X rfl dX8_keep_11 [(1, .int (nI (sCnt (kpT w.1 60 60) 2))), (0, .ref (B.2.1 20 0 0))] rfl (gnl_lt hnL (by decide)) ?_
  refine g_iconst X (-1) (by decide) dX8_keep_12 ?_
  refine g_istore_n X rfl dX8_keep_13 [(2, .int ((-1))), (1, .int (nI (sCnt (kpT w.1 60 60) 2))), (0, .ref (B.2.1 20 0 0))] rfl (gnl_lt hnL (by decide)) ?_
  refine g_iconst X 0 (by decide) dX8_keep_14 ?_
  refine g_istore_n X rfl dX8_keep_15 [(3, .int 0), (2, .int ((-1))), (1, .int (nI (sCnt (kpT w.1 60 60) 2))), (0, .ref (B.2.1 20 0 0))] rfl (gnl_lt hnL (by decide)) ?_
  refine gG_L [3, 2, 1, 0] (L' := [(0, .ref (B.2.1 20 0 0)), (1, .int (nI (sCnt (kpT w.1 60 60) 2))), (2, .int ((-1))), (3, .int 0)]) rfl ?_
  refine gG_Le [(0, .ref (B.2.1 20 0 0)), (1, .int (nI (sCnt w.1 2 + (kpL w.1 0).1))), (2, .int (kpL w.1 0).2), (3, .int (nI 0))] (by rw [kp_60 hw.1, kpL_0]; exact rfl) ?_
  have loop : ∀ (f : Nat) (k : Nat) (Vp : gMem), k + f = 60 → stmod V1 Vp 1 → gG Z B (0, 0) Vp 16 [(0, .ref (B.2.1 20 0 0)), (1, .int (nI (sCnt w.1 2 + (kpL w.1 k).1))), (2, .int ((kpL w.1 k).2)), (3, .int (nI k))] [] := by
    intro f
    induction f with
    | zero =>
      intro k Vp hf hs1
      refine g_iload_n X 3 rfl dX8_keep_16 ?_
      refine g_bipush X 60 (by decide) dX8_keep_17 ?_
      refine g_icmp_ge X 49 (by decide) dX8_keep_19 (fun c5 => ?_) (fun c5 => ?_)
      · refine g_iload_n X 2 rfl dX8_keep_49 ?_
        refine g_iret X F ?_ rfl dX8_keep_50
        exact ⟨by rw [show k = 60 by omega]; rfl, hM1.st1 hs1, hm1.trans hs1.mm⟩
      · first | exact absurd (nI_le (a := 60) (by omega) (by omega)) c5 | exact absurd c5 (nI_le (a := 60) (by omega) (by omega))
    | succ f ih =>
      intro k Vp hf hs1
      refine g_iload_n X 3 rfl dX8_keep_16 ?_
      refine g_bipush X 60 (by decide) dX8_keep_17 ?_
      refine g_icmp_ge X 49 (by decide) dX8_keep_19 (fun c6 => ?_) (fun c6 => ?_)
      · first | exact absurd (nI_ge (b := 60) (by omega) (by decide)) c6 | exact absurd c6 (nI_ge (b := 60) (by omega) (by decide))
      · refine g_aload_n X 0 rfl dX8_keep_22 ?_
        refine g_iload_n X 3 rfl dX8_keep_23 ?_
        refine g_callV X hR (rest := []) mX8_overBy lX8_136 (k_overBy hI Vp w.1 k (hM1.st1 hs1).1 hw.1 (by omega)) rfl rfl (Nat.le_of_ble_eq_true rfl) ⟨by decide, by decide⟩ rfl rfl rfl ⟨Nat.le_of_ble_eq_true rfl, Nat.le_of_ble_eq_true rfl, Nat.le_of_ble_eq_true rfl, Nat.le_of_ble_eq_true rfl⟩ dX8_keep_24 (fun r7 V8 hz_9 => ?_)
        refine gG_rv hz_9.1 ?_
        have hmV8 := hz_9.2
        refine gG_st [.int (nI (sCnt (kpT w.1 k 60) 2))] rfl ?_
        refine gG_top (nI (sCnt w.1 2 + kpF w.1 k)) (by rw [kp_cnt hw.1 (by omega)]) ?_
        refine g_istore X dX8_keep_27 [(4, .int (nI (sCnt w.1 2 + kpF w.1 k))), (0, .ref (B.2.1 20 0 0)), (1, .int (nI (sCnt w.1 2 + (kpL w.1 k).1))), (2, .int ((kpL w.1 k).2)), (3, .int (nI k))] rfl (gnl_lt hnL (by decide)) ?_
        refine g_iload X 0 rfl dX8_keep_29 ?_
        refine g_iload_n X 2 rfl dX8_keep_31 ?_
        have hb1 := kpL_le hw.1 k
        have hb2 := kpF_le hw.1 k
        by_cases hmo : (kpL w.1 k).1 < kpF w.1 k
        · skip
          refine g_icmp_gt X 38 (by decide) dX8_keep_32 (fun c10 => ?_) (fun c10 => ?_)
          · refine g_iload X 0 rfl dX8_keep_38 ?_
            refine g_istore_n X rfl dX8_keep_40 [(1, .int (nI (sCnt w.1 2 + kpF w.1 k))), (4, .int (nI (sCnt w.1 2 + kpF w.1 k))), (0, .ref (B.2.1 20 0 0)), (2, .int ((kpL w.1 k).2)), (3, .int (nI k))] rfl (gnl_lt hnL (by decide)) ?_
            refine g_iload_n X 4 rfl dX8_keep_41 ?_
            refine g_istore_n X rfl dX8_keep_42 [(2, .int (nI k)), (1, .int (nI (sCnt w.1 2 + kpF w.1 k))), (4, .int (nI (sCnt w.1 2 + kpF w.1 k))), (0, .ref (B.2.1 20 0 0)), (3, .int (nI k))] rfl (gnl_lt hnL (by decide)) ?_
            refine gG_L [3, 1, 0, 4] (L' := [(0, .ref (B.2.1 20 0 0)), (1, .int (nI (sCnt w.1 2 + kpF w.1 k))), (2, .int (nI k)), (3, .int (nI k))]) rfl ?_
            refine gG_Le [(0, .ref (B.2.1 20 0 0)), (1, .int (nI (sCnt w.1 2 + (kpL w.1 (k + 1)).1))), (2, .int ((kpL w.1 (k + 1)).2)), (3, .int (nI k))] (by rw [kpL_s, if_pos hmo]) ?_
            refine g_iinc X 3 rfl (nI (k + 1)) (iinc_1 _) dX8_keep_43 [(3, .int (nI (k + 1))), (0, .ref (B.2.1 20 0 0)), (1, .int (nI (sCnt w.1 2 + (kpL w.1 (k + 1)).1))), (2, .int ((kpL w.1 (k + 1)).2))] rfl (gnl_lt hnL (by decide)) ?_
            refine g_goto X 16 (by decide) dX8_keep_46 ?_
            refine gG_L [1, 2, 3, 0] (L' := [(0, .ref (B.2.1 20 0 0)), (1, .int (nI (sCnt w.1 2 + (kpL w.1 (k + 1)).1))), (2, .int ((kpL w.1 (k + 1)).2)), (3, .int (nI (k + 1)))]) rfl ?_
            refine ih (k + 1) V8 (by omega) (hs1.trans hmV8)
          · first | exact absurd (nI_lt (by omega) (by omega)) c10 | exact absurd c10 (nI_lt (by omega) (by omega))
        · skip
          refine g_icmp_gt X 38 (by decide) dX8_keep_32 (fun c11 => ?_) (fun c11 => ?_)
          · first | exact absurd (nI_nlt (by omega) (by omega)) c11 | exact absurd c11 (nI_nlt (by omega) (by omega))
          · refine g_goto X 43 (by decide) dX8_keep_35 ?_
            refine gG_L [1, 2, 3, 4] (L' := [(0, .ref (B.2.1 20 0 0)), (1, .int (nI (sCnt w.1 2 + (kpL w.1 k).1))), (2, .int ((kpL w.1 k).2)), (3, .int (nI k))]) rfl ?_
            refine gG_Le [(0, .ref (B.2.1 20 0 0)), (1, .int (nI (sCnt w.1 2 + (kpL w.1 (k + 1)).1))), (2, .int ((kpL w.1 (k + 1)).2)), (3, .int (nI k))] (by rw [kpL_s, if_neg hmo]) ?_
            refine g_iinc X 3 rfl (nI (k + 1)) (iinc_1 _) dX8_keep_43 [(3, .int (nI (k + 1))), (0, .ref (B.2.1 20 0 0)), (1, .int (nI (sCnt w.1 2 + (kpL w.1 (k + 1)).1))), (2, .int ((kpL w.1 (k + 1)).2))] rfl (gnl_lt hnL (by decide)) ?_
            refine g_goto X 16 (by decide) dX8_keep_46 ?_
            refine gG_L [1, 2, 3, 0] (L' := [(0, .ref (B.2.1 20 0 0)), (1, .int (nI (sCnt w.1 2 + (kpL w.1 (k + 1)).1))), (2, .int ((kpL w.1 (k + 1)).2)), (3, .int (nI (k + 1)))]) rfl ?_
            refine ih (k + 1) V8 (by omega) (hs1.trans hmV8)
  exact loop 60 0 V3 (by omega) hmV3

