/-! looking ahead -/
abbrev rmX6_over : Room := { frames := 6, cells := 0, slots := 0, locals := 133 }
set_option maxRecDepth 20000 in
theorem p_over {l : Launch} {B : gB} (hI : gI B) (V : gMem) (w : gWd) (x : Int32) (hQ : COk V w) (hw : wOk w) (hN : N15 V) (v1 : ixB x (nI (w.1.1 6))) : gM l B yX6_over cX6_over 3 (some .int) rmX6_over [.ref (B.2.1 0 0 0), .int x] V (opo w (oOver w x) V) := by
  refine gM_of (own := RX6) (L := [(0, .ref (B.2.1 0 0 0)), (1, .int x)]) (by decide +kernel) rfl hI (Nat.le_of_ble_eq_true rfl) rfl ?_
  intro Z hnL hR X F
  have hN6 : w.1.1 6 ≤ 16 := hw.1.1.2.2.2.2.2
  refine g_aload_n X 0 rfl dX6_over_0 ?_
  refine gg_X6_bridge X ⟨by decide, by decide⟩ fX6_23 dX6_over_1 ?_
  refine g_iload_n X 1 rfl dX6_over_4 ?_
  by_cases hP : ixB x (nI (w.1.1 6))
  · obtain ⟨j, j1, jx⟩ := (ixB_iff (n := w.1.1 6) (by omega)).mp hP
    subst jx
    refine g_callV X hR (rest := []) mX0_cartAt lX6_184 (k_cartAt hI V 0 w.1 j (by decide) hQ.1 hN6 j1) rfl rfl (Nat.le_of_ble_eq_true rfl) ⟨by decide, by decide⟩ rfl rfl rfl ⟨Nat.le_of_ble_eq_true rfl, Nat.le_of_ble_eq_true rfl, Nat.le_of_ble_eq_true rfl, Nat.le_of_ble_eq_true rfl⟩ dX6_over_5 (fun r1 V2 hz_3 => ?_)
    refine gG_ret hz_3.1 hz_3.2 ?_
    refine gG_st [.ref (B.2.1 15 0 j)] rfl ?_
    refine g_ifnonnull X 21 (by decide) dX6_over_8 ?_
    refine g_aload_n X 0 rfl dX6_over_21 ?_
    refine gg_X6_ahead X ⟨by decide, by decide⟩ fX6_27 dX6_over_22 ?_
    refine g_aload_n X 0 rfl dX6_over_25 ?_
    refine gg_X6_bridge X ⟨by decide, by decide⟩ fX6_23 dX6_over_26 ?_
    refine g_callV X hR (rest := []) mX0_copyFrom lX6_222 (k_copyFrom hI V 1 0 w.1 (by decide) (by decide) (by decide) hQ.1 hw.1.1.2.2.2.2.2 hw.1.2.1 (hN 1 (by decide)) (by decide)) rfl rfl (Nat.le_of_ble_eq_true rfl) ⟨by decide, by decide⟩ rfl rfl rfl ⟨Nat.le_of_ble_eq_true rfl, Nat.le_of_ble_eq_true rfl, Nat.le_of_ble_eq_true rfl, Nat.le_of_ble_eq_true rfl⟩ dX6_over_29 (fun r4 V5 hz_6 => ?_)
    refine gG_rv hz_6.1 ?_
    obtain ⟨-, haV5, hbV5⟩ := hz_6
    refine gG_st [] rfl ?_
    have bV5 : b12 V V5 := b12.rf.br hbV5 (Or.inl rfl)
    have nV5 : N15 V5 := hN.br hbV5 haV5
    refine g_iconst X 0 (by decide) dX6_over_32 ?_
    refine g_istore_n X rfl dX6_over_33 [(2, .int 0), (0, .ref (B.2.1 0 0 0)), (1, .int (nI j))] rfl (gnl_lt hnL (by decide)) ?_
    refine gG_L [1, 2, 0] (L' := [(0, .ref (B.2.1 0 0 0)), (1, .int (nI j)), (2, .int 0)]) rfl ?_
    have loop : ∀ (f : Nat) (k : Nat) (Vp : gMem) (S1 : gSt), k + f = 201 → AbsC Vp 1 S1 → WF S1 → S1.1 6 = w.1.1 6 → b12 V Vp → N15 Vp → ovF j 201 0 w.1 = ovF j f k S1 → gG Z B (0, 0) Vp 34 [(0, .ref (B.2.1 0 0 0)), (1, .int (nI j)), (2, .int (nI k))] [] := by
      intro f
      induction f with
      | zero =>
        intro k Vp S1 hf hA hw1 hn6 hbp hnp hF
        refine g_iload_n X 2 rfl dX6_over_34 ?_
        refine g_sipush X 200 (by decide) dX6_over_35 ?_
        refine g_icmp_gt X 69 (by decide) dX6_over_38 (fun c7 => ?_) (fun c7 => ?_)
        · refine g_iconst X (-1) (by decide) dX6_over_69 ?_
          refine g_iret X F ?_ rfl dX6_over_70
          have hov : ovF j 201 0 w.1 = (-1) := by rw [hF]; rfl
          rw [show oOver w (nI j) = (0, (-1), w) from by unfold oOver; rw [if_pos hP, nI_clamp (by omega), hov]]
          exact ⟨rfl, rfl, hQ.b12 hbp, hnp, hbp.cm⟩
        · first | exact absurd (nI_lt (a := 200) (by omega) (by omega)) c7 | exact absurd c7 (nI_lt (a := 200) (by omega) (by omega))
      | succ f ih =>
        intro k Vp S1 hf hA hw1 hn6 hbp hnp hF
        refine g_iload_n X 2 rfl dX6_over_34 ?_
        refine g_sipush X 200 (by decide) dX6_over_35 ?_
        refine g_icmp_gt X 69 (by decide) dX6_over_38 (fun c8 => ?_) (fun c8 => ?_)
        · first | exact absurd (nI_nlt (b := k) (a := 200) (by omega) (by omega)) c8 | exact absurd c8 (nI_nlt (b := k) (a := 200) (by omega) (by omega))
        · refine g_aload_n X 0 rfl dX6_over_41 ?_
          refine gg_X6_ahead X ⟨by decide, by decide⟩ fX6_27 dX6_over_42 ?_
          refine g_iload_n X 1 rfl dX6_over_45 ?_
          refine g_callV X hR (rest := []) mX0_isOver lX6_226 (k_isOver hI Vp 1 S1 j (by decide) hA (by rw [hn6]; omega) (by rw [hn6]; exact j1) (hw1.2.1 j (by rw [hn6]; exact j1)).2.2.2.2.2.2.2) rfl rfl (Nat.le_of_ble_eq_true rfl) ⟨by decide, by decide⟩ rfl rfl rfl ⟨Nat.le_of_ble_eq_true rfl, Nat.le_of_ble_eq_true rfl, Nat.le_of_ble_eq_true rfl, Nat.le_of_ble_eq_true rfl⟩ dX6_over_46 (fun r9 V10 hz_11 => ?_)
          refine gG_ret hz_11.1 hz_11.2 ?_
          refine gG_st [.int (if S1.2.2.2.1 j 8 = 2 then 1 else 0)] rfl ?_
          by_cases h2 : S1.2.2.2.1 j 8 = 2
          · refine gG_top 1 (if_pos (h2)) ?_
            refine g_if_eq X 54 (by decide) dX6_over_49 (fun c12 => ?_) (fun c12 => ?_)
            ·  exact absurd c12 (by decide)
            · refine g_iload_n X 2 rfl dX6_over_52 ?_
              refine g_iret X F ?_ rfl dX6_over_53
              have hov : ovF j 201 0 w.1 = nI k := by rw [hF, ovF, if_pos h2]
              rw [show oOver w (nI j) = (0, nI k, w) from by unfold oOver; rw [if_pos hP, nI_clamp (by omega), hov]]
              exact ⟨rfl, rfl, hQ.b12 hbp, hnp, hbp.cm⟩
          · refine gG_top 0 (if_neg (h2)) ?_
            refine g_if_eq X 54 (by decide) dX6_over_49 (fun c13 => ?_) (fun c13 => ?_)
            · refine g_aload_n X 0 rfl dX6_over_54 ?_
              refine gg_X6_ahead X ⟨by decide, by decide⟩ fX6_27 dX6_over_55 ?_
              refine g_iconst X 1 (by decide) dX6_over_58 ?_
              refine g_callV X hR (rest := []) mX0_run lX6_212 (k_run hI Vp 1 S1 1 (by decide) hA hw1 (by decide)) rfl rfl (Nat.le_of_ble_eq_true rfl) ⟨by decide, by decide⟩ rfl rfl rfl ⟨Nat.le_of_ble_eq_true rfl, Nat.le_of_ble_eq_true rfl, Nat.le_of_ble_eq_true rfl, Nat.le_of_ble_eq_true rfl⟩ dX6_over_59 (fun r14 V15 hz_16 => ?_)
              refine gG_rv hz_16.1 ?_
              obtain ⟨-, haV15, hbV15⟩ := hz_16
              refine gG_st [.int (nI (sRun 1 S1).2)] rfl ?_
              refine g_pop X rfl dX6_over_62 ?_
              refine g_iinc X 2 rfl (nI (k + 1)) (iinc_1 _) dX6_over_63 [(2, .int (nI (k + 1))), (0, .ref (B.2.1 0 0 0)), (1, .int (nI j))] rfl (gnl_lt hnL (by decide)) ?_
              refine g_goto X 34 (by decide) dX6_over_66 ?_
              refine gG_L [1, 2, 0] (L' := [(0, .ref (B.2.1 0 0 0)), (1, .int (nI j)), (2, .int (nI (k + 1)))]) rfl ?_
              refine ih (k + 1) V15 (sTick S1).1 (by omega) haV15 hw1.tick (by rw [sTick_6 hw1]; exact hn6) (hbp.br hbV15 (Or.inl rfl)) (hnp.br hbV15 haV15) (by rw [hF, ovF, if_neg h2])
            ·  exact absurd c13 (by decide)
    exact loop 201 0 V5 w.1 (by omega) haV5 hw.1 rfl bV5 nV5 rfl
  · skip
    refine g_callV X hR (rest := []) mX0_cartAt lX6_184 (k_cartAtout hI V 0 w.1 x (by decide) hQ.1 hN6 hP) rfl rfl (Nat.le_of_ble_eq_true rfl) ⟨by decide, by decide⟩ rfl rfl rfl ⟨Nat.le_of_ble_eq_true rfl, Nat.le_of_ble_eq_true rfl, Nat.le_of_ble_eq_true rfl, Nat.le_of_ble_eq_true rfl⟩ dX6_over_5 (fun r17 V18 hz_19 => ?_)
    refine gG_ret hz_19.1 hz_19.2 ?_
    refine gG_st [.null] rfl ?_
    refine g_ifnonnullN X dX6_over_8 ?_
    exact absurd v1 hP
