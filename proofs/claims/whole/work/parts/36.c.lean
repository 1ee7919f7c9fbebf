set_option maxHeartbeats 100000 in
abbrev rmX8_foresee : Room := { frames := 5, cells := 0, slots := 0, locals := 133 }
set_option maxRecDepth 20000 in
theorem k_Mforesee {l : Launch} {B : gB} (hI : gI B) (V : gMem) (w : gWd) (p : Int32) (q : Int32) (hM : MOk V w) (hw : wOk w) : gM l B yX8_foresee cX8_foresee 4 (some .int) rmX8_foresee [.ref (B.2.1 20 0 0), .int p, .int q] V (fun v V' => v = some (.int (oSee w p q).2.1) ∧ V' 20 0 0 0 = nI (oSee w p q).1 ∧ MOk V' (oSee w p q).2.2 ∧ mmod V V') := by
  refine gM_of (own := RX8) (L := [(0, .ref (B.2.1 20 0 0)), (1, .int p), (2, .int q)]) (by decide +kernel) rfl hI (Nat.le_of_ble_eq_true rfl) rfl ?_
  intro Z hnL hR X F
  have hN : w.1.1 6 ≤ 16 := hw.1.1.2.2.2.2.2
  refine g_aload_n X 0 rfl dX8_foresee_0 ?_
  refine g_iconst X 0 (by decide) dX8_foresee_1 ?_
  refine gp_X8_thrown X ⟨by decide, by decide⟩ fX8_41 dX8_foresee_2 ?_
  refine gG_nm (fun V1 hV1 => ?_)
  have hM1 : MOk V1 w := by rw [hV1]; exact hM.thr 0
  have hm1 : mmod V V1 := by rw [hV1]; exact mmod.rf.up (by decide) (by decide)
  refine g_iload_n X 1 rfl dX8_foresee_5 ?_
  refine g_iconst X 1 (by decide) dX8_foresee_6 ?_
  refine g_bipush X 100 (by decide) dX8_foresee_7 ?_
  refine g_callS X hR (As := [.int p, .int 1, .int 100]) (rest := []) mX8_isIn lX8_48 (k_isIn hI V1 p 1 100 ) rfl rfl (Nat.le_of_ble_eq_true rfl) ⟨Nat.le_of_ble_eq_true rfl, Nat.le_of_ble_eq_true rfl, Nat.le_of_ble_eq_true rfl, Nat.le_of_ble_eq_true rfl⟩ dX8_foresee_9 (fun r2 V3 hz_4 => ?_)
  refine gG_ret hz_4.1 hz_4.2 ?_
  refine gG_st [.int (if inB p 1 100 then 1 else 0)] rfl ?_
  by_cases hP : inB p 1 100
  · refine gG_top 1 (if_pos (hP)) ?_
    refine g_if_ne X 21 (by decide) dX8_foresee_12 (fun c5 => ?_) (fun c5 => ?_)
    · refine g_iload_n X 2 rfl dX8_foresee_21 ?_
      refine g_iconst X 0 (by decide) dX8_foresee_22 ?_
      refine g_iconst X 2 (by decide) dX8_foresee_23 ?_
      refine g_callS X hR (As := [.int q, .int 0, .int 2]) (rest := []) mX8_isIn lX8_48 (k_isIn hI V1 q 0 2 ) rfl rfl (Nat.le_of_ble_eq_true rfl) ⟨Nat.le_of_ble_eq_true rfl, Nat.le_of_ble_eq_true rfl, Nat.le_of_ble_eq_true rfl, Nat.le_of_ble_eq_true rfl⟩ dX8_foresee_24 (fun r6 V7 hz_8 => ?_)
      refine gG_ret hz_8.1 hz_8.2 ?_
      refine gG_st [.int (if inB q 0 2 then 1 else 0)] rfl ?_
      by_cases hQ : inB q 0 2
      · refine gG_top 1 (if_pos (hQ)) ?_
        refine g_if_ne X 36 (by decide) dX8_foresee_27 (fun c9 => ?_) (fun c9 => ?_)
        · obtain ⟨n, hn1, hn2, hxn⟩ := (inB_iff (a := 1) (n := 100) (by decide) (by decide)).mp hP
          obtain ⟨z, -, hz, hyz⟩ := (inB_iff (a := 0) (n := 2) (by decide) (by decide)).mp hQ
          subst hxn
          subst hyz
          refine g_aload_n X 0 rfl dX8_foresee_36 ?_
          refine gg_X8_ahead X ⟨by decide, by decide⟩ fX8_38 dX8_foresee_37 ?_
          refine g_aload_n X 0 rfl dX8_foresee_40 ?_
          refine gg_X8_s X ⟨by decide, by decide⟩ fX8_34 dX8_foresee_41 ?_
          refine g_callV X hR (rest := []) mX7_become lX8_132 (k_become hI V1 0 1 w.1 (by decide) (by decide) (by decide) hM1.1 hw.1) rfl rfl (Nat.le_of_ble_eq_true rfl) ⟨by decide, by decide⟩ rfl rfl rfl ⟨Nat.le_of_ble_eq_true rfl, Nat.le_of_ble_eq_true rfl, Nat.le_of_ble_eq_true rfl, Nat.le_of_ble_eq_true rfl⟩ dX8_foresee_44 (fun r10 V11 hz_12 => ?_)
          refine gG_rv hz_12.1 ?_
          obtain ⟨-, haV11, hmV11⟩ := hz_12
          refine gG_st [] rfl ?_
          have hM2 : MOk V11 w := hM1.st1 hmV11
          have hm2 : mmod V V11 := hm1.trans hmV11.mm
          have ht2 : V11 20 0 0 0 = nI 0 := by rw [hmV11 20 0 0 (by simp), hV1, gup_eq]; rfl
          refine g_iconst X 0 (by decide) dX8_foresee_47 ?_
          refine g_istore_n X rfl dX8_foresee_48 [(3, .int 0), (0, .ref (B.2.1 20 0 0)), (1, .int (nI n)), (2, .int (nI z))] rfl (gnl_lt hnL (by decide)) ?_
          refine gG_L [1, 2, 3, 0] (L' := [(0, .ref (B.2.1 20 0 0)), (1, .int (nI n)), (2, .int (nI z)), (3, .int 0)]) rfl ?_
          have loop : ∀ (f : Nat) (k : Nat) (Vp : gMem) (S1 : gSt), k + f = n → AbsM Vp 1 S1 → WF S1 → stmod V11 Vp 1 → (sRun n w.1).1 = (sRun f S1).1 → gG Z B (0, 0) Vp 49 [(0, .ref (B.2.1 20 0 0)), (1, .int (nI n)), (2, .int (nI z)), (3, .int (nI k))] [] := by
            intro f
            induction f with
            | zero =>
              intro k Vp S1 hf hA hw1 hs1 hF
              refine g_iload_n X 3 rfl dX8_foresee_49 ?_
              refine g_iload_n X 1 rfl dX8_foresee_50 ?_
              refine g_icmp_ge X 68 (by decide) dX8_foresee_51 (fun c13 => ?_) (fun c13 => ?_)
              · have hk0 : sRun n w.1 = (S1, (sRun n w.1).2) := Prod.ext (hF.trans (by rfl)) rfl
                have hrc := run_cnt n hw.1
                rw [hk0] at hrc
                have hM3 := hM2.st1 hs1
                obtain ⟨x1, -, -, -⟩ := hA.2.2.2.2.1 0 (by decide)
                obtain ⟨y1, -, -, -⟩ := hA.2.2.2.2.1 1 (by decide)
                obtain ⟨z1, -, -, -⟩ := hM3.1.2.2.2.2.1 0 (by decide)
                obtain ⟨t1, -, -, -⟩ := hM3.1.2.2.2.2.1 1 (by decide)
                rcases (show z = 0 ∨ z = 1 ∨ z = 2 by omega) with rfl | rfl | rfl
                · refine gG_Le [(0, .ref (B.2.1 20 0 0)), (1, .int (nI n)), (2, .int 0), (3, .int (nI k))] rfl ?_
                  refine g_iload_n X 2 rfl dX8_foresee_68 ?_
                  refine g_iconst X 2 (by decide) dX8_foresee_69 ?_
                  refine g_icmp_ne X 82 (by decide) dX8_foresee_70 (fun c14 => ?_) (fun c14 => ?_)
                  · refine g_iload_n X 2 rfl dX8_foresee_82 ?_
                    refine g_if_ne X 106 (by decide) dX8_foresee_83 (fun c15 => ?_) (fun c15 => ?_)
                    ·  exact absurd c15 (by decide)
                    · refine g_aload_n X 0 rfl dX8_foresee_86 ?_
                      refine gg_X8_ahead X ⟨by decide, by decide⟩ fX8_38 dX8_foresee_87 ?_
                      refine g_iconst X 2 (by decide) dX8_foresee_90 ?_
                      refine g_callV X hR (rest := []) mX7_how lX8_85 (k_how hI Vp 1 S1 2 (by decide) hA hw1.1.2.2.2.2.2 (fun i hi => (hw1.2.1 i hi).2.2.2.2.2.2.2) (by first | assumption | decide | omega)) rfl rfl (Nat.le_of_ble_eq_true rfl) ⟨by decide, by decide⟩ rfl rfl rfl ⟨Nat.le_of_ble_eq_true rfl, Nat.le_of_ble_eq_true rfl, Nat.le_of_ble_eq_true rfl, Nat.le_of_ble_eq_true rfl⟩ dX8_foresee_91 (fun r16 V17 hz_18 => ?_)
                      refine gG_ret hz_18.1 hz_18.2 ?_
                      refine gG_st [.int (nI (sCnt S1 2))] rfl ?_
                      refine g_aload_n X 0 rfl dX8_foresee_94 ?_
                      refine gg_X8_s X ⟨by decide, by decide⟩ fX8_34 dX8_foresee_95 ?_
                      refine g_iconst X 2 (by decide) dX8_foresee_98 ?_
                      refine g_callV X hR (rest := [.int (nI (sCnt S1 2))]) mX7_how lX8_85 (k_how hI Vp 0 w.1 2 (by decide) hM3.1 hw.1.1.2.2.2.2.2 (fun i hi => (hw.1.2.1 i hi).2.2.2.2.2.2.2) (by first | assumption | decide | omega)) rfl rfl (Nat.le_of_ble_eq_true rfl) ⟨by decide, by decide⟩ rfl rfl rfl ⟨Nat.le_of_ble_eq_true rfl, Nat.le_of_ble_eq_true rfl, Nat.le_of_ble_eq_true rfl, Nat.le_of_ble_eq_true rfl⟩ dX8_foresee_99 (fun r19 V20 hz_21 => ?_)
                      refine gG_ret hz_21.1 hz_21.2 ?_
                      refine gG_st [.int (nI (sCnt w.1 2)), .int (nI (sCnt S1 2))] rfl ?_
                      refine g_isub X dX8_foresee_102 ?_
                      refine gG_top (nI (sRun n w.1).2) (by rw [hrc, pk_sub (Nat.le_add_right _ _), Nat.add_sub_cancel_left]) ?_
                      refine g_goto X 145 (by decide) dX8_foresee_103 ?_
                      refine g_iret X F ?_ rfl dX8_foresee_145
                      have hval : fsV w.1 n 0 = nI (sRun n w.1).2 := rfl
                      rw [show oSee w (nI n) (nI 0) = (0, nI (sRun n w.1).2, w) from by unfold oSee; rw [if_pos hP, if_pos hQ, nI_clamp (by omega), nI_clamp (by omega), hval]]
                      exact ⟨rfl, by rw [hs1 20 0 0 (by simp)]; exact ht2, hM3, hm2.trans hs1.mm⟩
                  ·  exact absurd c14 (by decide)
                · refine gG_Le [(0, .ref (B.2.1 20 0 0)), (1, .int (nI n)), (2, .int 1), (3, .int (nI k))] rfl ?_
                  refine g_iload_n X 2 rfl dX8_foresee_68 ?_
                  refine g_iconst X 2 (by decide) dX8_foresee_69 ?_
                  refine g_icmp_ne X 82 (by decide) dX8_foresee_70 (fun c22 => ?_) (fun c22 => ?_)
                  · refine g_iload_n X 2 rfl dX8_foresee_82 ?_
                    refine g_if_ne X 106 (by decide) dX8_foresee_83 (fun c23 => ?_) (fun c23 => ?_)
                    · refine g_aload_n X 0 rfl dX8_foresee_106 ?_
                      refine gg_X8_ahead X ⟨by decide, by decide⟩ fX8_38 dX8_foresee_107 ?_
                      refine gg_X7_box X ⟨by decide, by decide⟩ fX8_103 dX8_foresee_110 ?_
                      refine g_iconst X 0 (by decide) dX8_foresee_113 ?_
                      refine g_ialdN X (0) (by decide) (by decide) (by decide) ⟨by decide, by decide⟩ rfl dX8_foresee_114 ?_
                      refine gG_top (nI (S1.2.2.1 0 1)) (x1) ?_
                      refine g_aload_n X 0 rfl dX8_foresee_115 ?_
                      refine gg_X8_ahead X ⟨by decide, by decide⟩ fX8_38 dX8_foresee_116 ?_
                      refine gg_X7_box X ⟨by decide, by decide⟩ fX8_103 dX8_foresee_119 ?_
                      refine g_iconst X 5 (by decide) dX8_foresee_122 ?_
                      refine g_ialdN X (5) (by decide) (by decide) (by decide) ⟨by decide, by decide⟩ rfl dX8_foresee_123 ?_
                      refine gG_top (nI (S1.2.2.1 1 1)) (y1) ?_
                      refine g_iadd X dX8_foresee_124 ?_
                      refine gG_top (nI ((S1.2.2.1 0 1) + (S1.2.2.1 1 1))) (nI_add (S1.2.2.1 0 1) (S1.2.2.1 1 1)) ?_
                      refine g_aload_n X 0 rfl dX8_foresee_125 ?_
                      refine gg_X8_s X ⟨by decide, by decide⟩ fX8_34 dX8_foresee_126 ?_
                      refine gg_X7_box X ⟨by decide, by decide⟩ fX8_103 dX8_foresee_129 ?_
                      refine g_iconst X 0 (by decide) dX8_foresee_132 ?_
                      refine g_ialdN X (0) (by decide) (by decide) (by decide) ⟨by decide, by decide⟩ rfl dX8_foresee_133 ?_
                      refine gG_top (nI (w.1.2.2.1 0 1)) (z1) ?_
                      refine g_isub X dX8_foresee_134 ?_
                      refine g_aload_n X 0 rfl dX8_foresee_135 ?_
                      refine gg_X8_s X ⟨by decide, by decide⟩ fX8_34 dX8_foresee_136 ?_
                      refine gg_X7_box X ⟨by decide, by decide⟩ fX8_103 dX8_foresee_139 ?_
                      refine g_iconst X 5 (by decide) dX8_foresee_142 ?_
                      refine g_ialdN X (5) (by decide) (by decide) (by decide) ⟨by decide, by decide⟩ rfl dX8_foresee_143 ?_
                      refine gG_top (nI (w.1.2.2.1 1 1)) (t1) ?_
                      refine g_isub X dX8_foresee_144 ?_
                      refine gG_top (nI (S1.2.2.1 0 1 + S1.2.2.1 1 1) - nI (w.1.2.2.1 0 1 + w.1.2.2.1 1 1)) (by rw [sub2, nI_add (w.1.2.2.1 0 1)]) ?_
                      refine g_iret X F ?_ rfl dX8_foresee_145
                      have hval : fsV w.1 n 1 = nI (S1.2.2.1 0 1 + S1.2.2.1 1 1) - nI (w.1.2.2.1 0 1 + w.1.2.2.1 1 1) := by unfold fsV; rw [hk0]; exact rfl
                      rw [show oSee w (nI n) (nI 1) = (0, nI (S1.2.2.1 0 1 + S1.2.2.1 1 1) - nI (w.1.2.2.1 0 1 + w.1.2.2.1 1 1), w) from by unfold oSee; rw [if_pos hP, if_pos hQ, nI_clamp (by omega), nI_clamp (by omega), hval]]
                      exact ⟨rfl, by rw [hs1 20 0 0 (by simp)]; exact ht2, hM3, hm2.trans hs1.mm⟩
                    ·  exact absurd c23 (by decide)
                  ·  exact absurd c22 (by decide)
                · refine gG_Le [(0, .ref (B.2.1 20 0 0)), (1, .int (nI n)), (2, .int 2), (3, .int (nI k))] rfl ?_
                  refine g_iload_n X 2 rfl dX8_foresee_68 ?_
                  refine g_iconst X 2 (by decide) dX8_foresee_69 ?_
                  refine g_icmp_ne X 82 (by decide) dX8_foresee_70 (fun c24 => ?_) (fun c24 => ?_)
                  ·  exact absurd c24 (by decide)
                  · refine g_aload_n X 0 rfl dX8_foresee_73 ?_
                    refine gg_X8_ahead X ⟨by decide, by decide⟩ fX8_38 dX8_foresee_74 ?_
                    refine g_iconst X 1 (by decide) dX8_foresee_77 ?_
                    refine g_callV X hR (rest := []) mX7_how lX8_85 (k_how hI Vp 1 S1 1 (by decide) hA hw1.1.2.2.2.2.2 (fun i hi => (hw1.2.1 i hi).2.2.2.2.2.2.2) (by first | assumption | decide | omega)) rfl rfl (Nat.le_of_ble_eq_true rfl) ⟨by decide, by decide⟩ rfl rfl rfl ⟨Nat.le_of_ble_eq_true rfl, Nat.le_of_ble_eq_true rfl, Nat.le_of_ble_eq_true rfl, Nat.le_of_ble_eq_true rfl⟩ dX8_foresee_78 (fun r25 V26 hz_27 => ?_)
                    refine gG_ret hz_27.1 hz_27.2 ?_
                    refine gG_st [.int (nI (sCnt S1 1))] rfl ?_
                    refine g_iret X F ?_ rfl dX8_foresee_81
                    have hval : fsV w.1 n 2 = nI (sCnt S1 1) := by unfold fsV; rw [hk0]; exact congrArg nI hw1.onlen
                    rw [show oSee w (nI n) (nI 2) = (0, nI (sCnt S1 1), w) from by unfold oSee; rw [if_pos hP, if_pos hQ, nI_clamp (by omega), nI_clamp (by omega), hval]]
                    exact ⟨rfl, by rw [hs1 20 0 0 (by simp)]; exact ht2, hM3, hm2.trans hs1.mm⟩
              · first | exact absurd (nI_le (by omega) (by omega)) c13 | exact absurd c13 (nI_le (by omega) (by omega))
            | succ f ih =>
              intro k Vp S1 hf hA hw1 hs1 hF
              refine g_iload_n X 3 rfl dX8_foresee_49 ?_
              refine g_iload_n X 1 rfl dX8_foresee_50 ?_
              refine g_icmp_ge X 68 (by decide) dX8_foresee_51 (fun c28 => ?_) (fun c28 => ?_)
              · first | exact absurd (nI_ge (by omega) (by omega)) c28 | exact absurd c28 (nI_ge (by omega) (by omega))
              · refine g_aload_n X 0 rfl dX8_foresee_54 ?_
                refine gg_X8_ahead X ⟨by decide, by decide⟩ fX8_38 dX8_foresee_55 ?_
                refine g_callV X hR (rest := []) mX7_pass lX8_122 (k_pass hI Vp 1 S1 (by decide) hA hw1) rfl rfl (Nat.le_of_ble_eq_true rfl) ⟨by decide, by decide⟩ rfl rfl rfl ⟨Nat.le_of_ble_eq_true rfl, Nat.le_of_ble_eq_true rfl, Nat.le_of_ble_eq_true rfl, Nat.le_of_ble_eq_true rfl⟩ dX8_foresee_58 (fun r29 V30 hz_31 => ?_)
                refine gG_rv hz_31.1 ?_
                obtain ⟨-, hmV30, haV30⟩ := hz_31
                refine gG_st [.int (nI (sTick S1).2)] rfl ?_
                refine g_pop X rfl dX8_foresee_61 ?_
                refine g_iinc X 3 rfl (nI (k + 1)) (iinc_1 _) dX8_foresee_62 [(3, .int (nI (k + 1))), (0, .ref (B.2.1 20 0 0)), (1, .int (nI n)), (2, .int (nI z))] rfl (gnl_lt hnL (by decide)) ?_
                refine g_goto X 49 (by decide) dX8_foresee_65 ?_
                refine gG_L [1, 2, 3, 0] (L' := [(0, .ref (B.2.1 20 0 0)), (1, .int (nI n)), (2, .int (nI z)), (3, .int (nI (k + 1)))]) rfl ?_
                refine ih (k + 1) V30 (sTick S1).1 (by omega) haV30 hw1.tick (hs1.trans hmV30) (by rw [hF]; rfl)
          exact loop n 0 V11 w.1 (by omega) haV11 hw.1 stmod.rf rfl
        ·  exact absurd c9 (by decide)
      · refine gG_top 0 (if_neg (hQ)) ?_
        refine g_if_ne X 36 (by decide) dX8_foresee_27 (fun c32 => ?_) (fun c32 => ?_)
        ·  exact absurd c32 (by decide)
        · refine g_aload_n X 0 rfl dX8_foresee_30 ?_
          refine g_iconst X 2 (by decide) dX8_foresee_31 ?_
          refine g_callV X hR (rest := []) mX8_no lX8_59 (k_no hI V1 2 ) rfl rfl (Nat.le_of_ble_eq_true rfl) ⟨by decide, by decide⟩ rfl rfl rfl ⟨Nat.le_of_ble_eq_true rfl, Nat.le_of_ble_eq_true rfl, Nat.le_of_ble_eq_true rfl, Nat.le_of_ble_eq_true rfl⟩ dX8_foresee_32 (fun r33 V34 hz_35 => ?_)
          refine gG_rv hz_35.1 ?_
          have hV34 := hz_35.2
          refine gG_st [.int 0] rfl ?_
          refine g_iret X F ?_ rfl dX8_foresee_35
          rw [show oSee w p q = (2, 0, w) from (if_pos hP).trans (if_neg hQ)]
          exact ⟨rfl, by rw [hV34, gup_eq]; rfl, by rw [hV34]; exact hM1.thr _, by rw [hV34]; exact hm1.up (by decide) (by decide)⟩
    ·  exact absurd c5 (by decide)
  · refine gG_top 0 (if_neg (hP)) ?_
    refine g_if_ne X 21 (by decide) dX8_foresee_12 (fun c36 => ?_) (fun c36 => ?_)
    ·  exact absurd c36 (by decide)
    · refine g_aload_n X 0 rfl dX8_foresee_15 ?_
      refine g_iconst X 1 (by decide) dX8_foresee_16 ?_
      refine g_callV X hR (rest := []) mX8_no lX8_59 (k_no hI V1 1 ) rfl rfl (Nat.le_of_ble_eq_true rfl) ⟨by decide, by decide⟩ rfl rfl rfl ⟨Nat.le_of_ble_eq_true rfl, Nat.le_of_ble_eq_true rfl, Nat.le_of_ble_eq_true rfl, Nat.le_of_ble_eq_true rfl⟩ dX8_foresee_17 (fun r37 V38 hz_39 => ?_)
      refine gG_rv hz_39.1 ?_
      have hV38 := hz_39.2
      refine gG_st [.int 0] rfl ?_
      refine g_iret X F ?_ rfl dX8_foresee_20
      rw [show oSee w p q = (1, 0, w) from if_neg hP]
      exact ⟨rfl, by rw [hV38, gup_eq]; rfl, by rw [hV38]; exact hM1.thr _, by rw [hV38]; exact hm1.up (by decide) (by decide)⟩

