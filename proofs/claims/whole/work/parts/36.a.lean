/-! the reference looks ahead -/

theorem sTick_6 {S : gSt} (h : WF S) : (sTick S).1.1 6 = S.1 6 := by
  unfold sTick
  simp only [sN]
  rw [if_neg (by decide), sCome_num, sMove_num h]

abbrev rmX8_over : Room := { frames := 5, cells := 0, slots := 0, locals := 133 }
set_option maxRecDepth 20000 in
theorem k_Mover {l : Launch} {B : gB} (hI : gI B) (V : gMem) (w : gWd) (x : Int32) (hM : MOk V w) (hw : wOk w) : gM l B yX8_over cX8_over 4 (some .int) rmX8_over [.ref (B.2.1 20 0 0), .int x] V (fun v V' => v = some (.int (oOver w x).2.1) ∧ V' 20 0 0 0 = nI (oOver w x).1 ∧ MOk V' (oOver w x).2.2 ∧ mmod V V') := by
  refine gM_of (own := RX8) (L := [(0, .ref (B.2.1 20 0 0)), (1, .int x)]) (by decide +kernel) rfl hI (Nat.le_of_ble_eq_true rfl) rfl ?_
  intro Z hnL hR X F
  have hN : w.1.1 6 ≤ 16 := hw.1.1.2.2.2.2.2
  refine g_aload_n X 0 rfl dX8_over_0 ?_
  refine g_iconst X 0 (by decide) dX8_over_1 ?_
  refine gp_X8_thrown X ⟨by decide, by decide⟩ fX8_41 dX8_over_2 ?_
  refine gG_nm (fun V1 hV1 => ?_)
  have hM1 : MOk V1 w := by rw [hV1]; exact hM.thr 0
  have hm1 : mmod V V1 := by rw [hV1]; exact mmod.rf.up (by decide) (by decide)
  refine g_aload_n X 0 rfl dX8_over_5 ?_
  refine g_iload_n X 1 rfl dX8_over_6 ?_
  refine g_callV X hR (rest := []) mX8_isCart lX8_113 (k_isCart hI V1 w.1 x hM1.1 hw.1.1.2.2.2.2.2) rfl rfl (Nat.le_of_ble_eq_true rfl) ⟨by decide, by decide⟩ rfl rfl rfl ⟨Nat.le_of_ble_eq_true rfl, Nat.le_of_ble_eq_true rfl, Nat.le_of_ble_eq_true rfl, Nat.le_of_ble_eq_true rfl⟩ dX8_over_7 (fun r2 V3 hz_4 => ?_)
  refine gG_ret hz_4.1 hz_4.2 ?_
  refine gG_st [.int (if ixB x (nI (w.1.1 6)) then 1 else 0)] rfl ?_
  by_cases hP : ixB x (nI (w.1.1 6))
  · refine gG_top 1 (if_pos (hP)) ?_
    refine g_if_ne X 19 (by decide) dX8_over_10 (fun c5 => ?_) (fun c5 => ?_)
    · obtain ⟨j, hj, hxj⟩ := (ixB_iff (n := w.1.1 6) (by omega)).mp hP
      subst hxj
      refine g_aload_n X 0 rfl dX8_over_19 ?_
      refine gg_X8_ahead X ⟨by decide, by decide⟩ fX8_38 dX8_over_20 ?_
      refine g_aload_n X 0 rfl dX8_over_23 ?_
      refine gg_X8_s X ⟨by decide, by decide⟩ fX8_34 dX8_over_24 ?_
      refine g_callV X hR (rest := []) mX7_become lX8_132 (k_become hI V1 0 1 w.1 (by decide) (by decide) (by decide) hM1.1 hw.1) rfl rfl (Nat.le_of_ble_eq_true rfl) ⟨by decide, by decide⟩ rfl rfl rfl ⟨Nat.le_of_ble_eq_true rfl, Nat.le_of_ble_eq_true rfl, Nat.le_of_ble_eq_true rfl, Nat.le_of_ble_eq_true rfl⟩ dX8_over_27 (fun r6 V7 hz_8 => ?_)
      refine gG_rv hz_8.1 ?_
      obtain ⟨-, haV7, hmV7⟩ := hz_8
      refine gG_st [] rfl ?_
      have hM2 : MOk V7 w := hM1.st1 hmV7
      have hm2 : mmod V V7 := hm1.trans hmV7.mm
      have ht2 : V7 20 0 0 0 = nI 0 := by rw [hmV7 20 0 0 (by simp), hV1, gup_eq]; rfl
      refine g_iconst X 0 (by decide) dX8_over_30 ?_
      refine g_istore_n X rfl dX8_over_31 [(2, .int 0), (0, .ref (B.2.1 20 0 0)), (1, .int (nI j))] rfl (gnl_lt hnL (by decide)) ?_
      refine gG_L [1, 2, 0] (L' := [(0, .ref (B.2.1 20 0 0)), (1, .int (nI j)), (2, .int 0)]) rfl ?_
      have loop : ∀ (f : Nat) (k : Nat) (Vp : gMem) (S1 : gSt), k + f = 201 → (AbsM Vp 1 S1 ∨ k = 201) → WF S1 → S1.1 6 = w.1.1 6 → stmod V7 Vp 1 → ovF j 201 0 w.1 = ovF j f k S1 → gG Z B (0, 0) Vp 32 [(0, .ref (B.2.1 20 0 0)), (1, .int (nI j)), (2, .int (nI k))] [] := by
        intro f
        induction f with
        | zero =>
          intro k Vp S1 hf hA hw1 hn6 hs1 hF
          refine g_iload_n X 2 rfl dX8_over_32 ?_
          refine g_sipush X 200 (by decide) dX8_over_33 ?_
          refine g_icmp_gt X 84 (by decide) dX8_over_36 (fun c9 => ?_) (fun c9 => ?_)
          · refine g_iconst X (-1) (by decide) dX8_over_84 ?_
            refine g_iret X F ?_ rfl dX8_over_85
            have hov : ovF j 201 0 w.1 = (-1) := by rw [hF]; rfl
            rw [show oOver w (nI j) = (0, (-1), w) from by unfold oOver; rw [if_pos hP, nI_clamp (by omega), hov]]
            exact ⟨rfl, by rw [hs1 20 0 0 (by simp)]; exact ht2, hM2.st1 hs1, hm2.trans hs1.mm⟩
          · first | exact absurd (nI_lt (a := 200) (by omega) (by omega)) c9 | exact absurd c9 (nI_lt (a := 200) (by omega) (by omega))
        | succ f ih =>
          intro k Vp S1 hf hA hw1 hn6 hs1 hF
          have hA1 : AbsM Vp 1 S1 := hA.resolve_right (by omega)
          refine g_iload_n X 2 rfl dX8_over_32 ?_
          refine g_sipush X 200 (by decide) dX8_over_33 ?_
          refine g_icmp_gt X 84 (by decide) dX8_over_36 (fun c10 => ?_) (fun c10 => ?_)
          · first | exact absurd (nI_nlt (a := 200) (by omega) (by decide)) c10 | exact absurd c10 (nI_nlt (a := 200) (by omega) (by decide))
          · refine g_aload_n X 0 rfl dX8_over_39 ?_
            refine gg_X8_ahead X ⟨by decide, by decide⟩ fX8_38 dX8_over_40 ?_
            refine g_iload_n X 1 rfl dX8_over_43 ?_
            refine g_iconst X 5 (by decide) dX8_over_44 ?_
            refine g_callV X hR (rest := []) mX7_own lX8_110 (k_ownM hI Vp 1 S1 j 5 (by decide) hA1 (by rw [hn6]; omega) (by rw [hn6]; exact hj) (by decide)) rfl rfl (Nat.le_of_ble_eq_true rfl) ⟨by decide, by decide⟩ rfl rfl rfl ⟨Nat.le_of_ble_eq_true rfl, Nat.le_of_ble_eq_true rfl, Nat.le_of_ble_eq_true rfl, Nat.le_of_ble_eq_true rfl⟩ dX8_over_45 (fun r11 V12 hz_13 => ?_)
            refine gG_ret hz_13.1 hz_13.2 ?_
            refine gG_st [.int (nI (S1.2.2.2.1 j 8))] rfl ?_
            refine g_istore_n X rfl dX8_over_48 [(3, .int (nI (S1.2.2.2.1 j 8))), (0, .ref (B.2.1 20 0 0)), (1, .int (nI j)), (2, .int (nI k))] rfl (gnl_lt hnL (by decide)) ?_
            have hc8 := (hw1.2.1 j (by rw [hn6]; exact hj)).2.2.2.2.2.2.2
            by_cases h2 : S1.2.2.2.1 j 8 = 2
            · skip
              refine g_iload_n X 0 rfl dX8_over_49 ?_
              refine g_iconst X 2 (by decide) dX8_over_50 ?_
              refine g_icmp_ne X 56 (by decide) dX8_over_51 (fun c14 => ?_) (fun c14 => ?_)
              · first | exact absurd (fun z => z (by rw [h2]; rfl)) c14 | exact absurd c14 (fun z => z (by rw [h2]; rfl))
              · refine g_iload_n X 3 rfl dX8_over_54 ?_
                refine g_iret X F ?_ rfl dX8_over_55
                have hov : ovF j 201 0 w.1 = nI k := by rw [hF, ovF, if_pos h2]
                rw [show oOver w (nI j) = (0, nI k, w) from by unfold oOver; rw [if_pos hP, nI_clamp (by omega), hov]]
                exact ⟨rfl, by rw [hs1 20 0 0 (by simp)]; exact ht2, hM2.st1 hs1, hm2.trans hs1.mm⟩
            · skip
              refine g_iload_n X 0 rfl dX8_over_49 ?_
              refine g_iconst X 2 (by decide) dX8_over_50 ?_
              refine g_icmp_ne X 56 (by decide) dX8_over_51 (fun c15 => ?_) (fun c15 => ?_)
              · by_cases h3 : S1.2.2.2.1 j 8 = 3
                · skip
                  refine g_iload_n X 0 rfl dX8_over_56 ?_
                  refine g_iconst X 3 (by decide) dX8_over_57 ?_
                  refine g_icmp_ne X 63 (by decide) dX8_over_58 (fun c16 => ?_) (fun c16 => ?_)
                  · first | exact absurd (fun z => z (by rw [h3]; rfl)) c16 | exact absurd c16 (fun z => z (by rw [h3]; rfl))
                  · refine g_iconst X (-1) (by decide) dX8_over_61 ?_
                    refine g_iret X F ?_ rfl dX8_over_62
                    have hov : ovF j 201 0 w.1 = (-1) := by rw [hF]; exact ovF_3 _ _ hw1 h3
                    rw [show oOver w (nI j) = (0, (-1), w) from by unfold oOver; rw [if_pos hP, nI_clamp (by omega), hov]]
                    exact ⟨rfl, by rw [hs1 20 0 0 (by simp)]; exact ht2, hM2.st1 hs1, hm2.trans hs1.mm⟩
                · skip
                  refine g_iload_n X 0 rfl dX8_over_56 ?_
                  refine g_iconst X 3 (by decide) dX8_over_57 ?_
                  refine g_icmp_ne X 63 (by decide) dX8_over_58 (fun c17 => ?_) (fun c17 => ?_)
                  · refine g_iload_n X 3 rfl dX8_over_63 ?_
                    refine g_sipush X 200 (by decide) dX8_over_64 ?_
                    by_cases hk200 : k = 200
                    · skip
                      refine g_icmp_ge X 78 (by decide) dX8_over_67 (fun c18 => ?_) (fun c18 => ?_)
                      · refine g_iinc X 3 rfl (nI (k + 1)) (iinc_1 _) dX8_over_78 [(2, .int (nI (k + 1))), (3, .int (nI (S1.2.2.2.1 j 8))), (0, .ref (B.2.1 20 0 0)), (1, .int (nI j))] rfl (gnl_lt hnL (by decide)) ?_
                        refine g_goto X 32 (by decide) dX8_over_81 ?_
                        refine gG_L [2, 3, 0] (L' := [(0, .ref (B.2.1 20 0 0)), (1, .int (nI j)), (2, .int (nI (k + 1)))]) rfl ?_
                        refine ih (k + 1) Vp (sTick S1).1 (by omega) (Or.inr (by omega)) hw1.tick (by rw [sTick_6 hw1]; exact hn6) hs1 (by rw [hF, ovF, if_neg h2])
                      · first | exact absurd (nI_le (a := 200) (by omega) (by omega)) c18 | exact absurd c18 (nI_le (a := 200) (by omega) (by omega))
                    · skip
                      refine g_icmp_ge X 78 (by decide) dX8_over_67 (fun c19 => ?_) (fun c19 => ?_)
                      · first | exact absurd (nI_ge (b := 200) (by omega) (by decide)) c19 | exact absurd c19 (nI_ge (b := 200) (by omega) (by decide))
                      · refine g_aload_n X 1 rfl dX8_over_70 ?_
                        refine gg_X8_ahead X ⟨by decide, by decide⟩ fX8_38 dX8_over_71 ?_
                        refine g_callV X hR (rest := []) mX7_pass lX8_122 (k_pass hI Vp 1 S1 (by decide) hA1 hw1) rfl rfl (Nat.le_of_ble_eq_true rfl) ⟨by decide, by decide⟩ rfl rfl rfl ⟨Nat.le_of_ble_eq_true rfl, Nat.le_of_ble_eq_true rfl, Nat.le_of_ble_eq_true rfl, Nat.le_of_ble_eq_true rfl⟩ dX8_over_74 (fun r20 V21 hz_22 => ?_)
                        refine gG_rv hz_22.1 ?_
                        obtain ⟨-, hmV21, haV21⟩ := hz_22
                        refine gG_st [.int (nI (sTick S1).2)] rfl ?_
                        refine g_pop X rfl dX8_over_77 ?_
                        refine g_iinc X 3 rfl (nI (k + 1)) (iinc_1 _) dX8_over_78 [(2, .int (nI (k + 1))), (3, .int (nI (S1.2.2.2.1 j 8))), (0, .ref (B.2.1 20 0 0)), (1, .int (nI j))] rfl (gnl_lt hnL (by decide)) ?_
                        refine g_goto X 32 (by decide) dX8_over_81 ?_
                        refine gG_L [2, 3, 0] (L' := [(0, .ref (B.2.1 20 0 0)), (1, .int (nI j)), (2, .int (nI (k + 1)))]) rfl ?_
                        refine ih (k + 1) V21 (sTick S1).1 (by omega) (Or.inl haV21) hw1.tick (by rw [sTick_6 hw1]; exact hn6) (hs1.trans hmV21) (by rw [hF, ovF, if_neg h2])
                  · first | exact absurd (fun z => h3 ((nI_eq (b := 3) (by omega) (by decide)).mp z)) c17 | exact absurd c17 (fun z => h3 ((nI_eq (b := 3) (by omega) (by decide)).mp z))
              · first | exact absurd (fun z => h2 ((nI_eq (b := 2) (by omega) (by decide)).mp z)) c15 | exact absurd c15 (fun z => h2 ((nI_eq (b := 2) (by omega) (by decide)).mp z))
      exact loop 201 0 V7 w.1 (by omega) (Or.inl haV7) hw.1 rfl stmod.rf rfl
    ·  exact absurd c5 (by decide)
  · refine gG_top 0 (if_neg (hP)) ?_
    refine g_if_ne X 19 (by decide) dX8_over_10 (fun c23 => ?_) (fun c23 => ?_)
    ·  exact absurd c23 (by decide)
    · refine g_aload_n X 0 rfl dX8_over_13 ?_
      refine g_iconst X 1 (by decide) dX8_over_14 ?_
      refine g_callV X hR (rest := []) mX8_no lX8_59 (k_no hI V1 1 ) rfl rfl (Nat.le_of_ble_eq_true rfl) ⟨by decide, by decide⟩ rfl rfl rfl ⟨Nat.le_of_ble_eq_true rfl, Nat.le_of_ble_eq_true rfl, Nat.le_of_ble_eq_true rfl, Nat.le_of_ble_eq_true rfl⟩ dX8_over_15 (fun r24 V25 hz_26 => ?_)
      refine gG_rv hz_26.1 ?_
      have hV25 := hz_26.2
      refine gG_st [.int 0] rfl ?_
      refine g_iret X F ?_ rfl dX8_over_18
      rw [show oOver w x = (1, 0, w) from if_neg hP]
      exact ⟨rfl, by rw [hV25, gup_eq]; rfl, by rw [hV25]; exact hM1.thr _, by rw [hV25]; exact hm1.up (by decide) (by decide)⟩

