/-! a cart comes -/
abbrev rmX6_come : Room := { frames := 3, cells := 0, slots := 0, locals := 62 }
set_option maxRecDepth 20000 in
theorem p_come {l : Launch} {B : gB} (hI : gI B) (V : gMem) (w : gWd) (e : Int32) (ax : Int32) (wt : Int32) (pc : Int32) (cn : Int32) (c : Nat) (hQ : COk V w) (hw : wOk w) (hN : N15 V) (hc : c ≤ 1) (hfr : Fr w.1) (v1 : ixB e 2) (v2 : inB ax 1 4) (v3 : inB wt 1 200) (v4 : inB pc 1 3) (v5 : inB cn 0 100) (v6 : w.1.1 6 < 16) : gM l B yX6_come cX6_come 8 (some .int) rmX6_come [.ref (B.2.1 0 0 0), .int e, .int ax, .int wt, .int pc, .int cn, .int (nI c)] V (opo w (oCome w e ax wt pc cn (nI c)) V) := by
  refine gM_of (own := RX6) (L := [(0, .ref (B.2.1 0 0 0)), (1, .int e), (2, .int ax), (3, .int wt), (4, .int pc), (5, .int cn), (6, .int (nI c))]) (by decide +kernel) rfl hI (Nat.le_of_ble_eq_true rfl) rfl ?_
  intro Z hnL hR X F
  have hN6 : w.1.1 6 ≤ 16 := hw.1.1.2.2.2.2.2
  refine g_iload_n X 1 rfl dX6_come_0 ?_
  refine g_iconst X 2 (by decide) dX6_come_1 ?_
  refine g_callS X hR (As := [.int e, .int 2]) (rest := []) mX6_isIndex lX6_68 (k_isIndexD hI V e 2 ) rfl rfl (Nat.le_of_ble_eq_true rfl) ⟨Nat.le_of_ble_eq_true rfl, Nat.le_of_ble_eq_true rfl, Nat.le_of_ble_eq_true rfl, Nat.le_of_ble_eq_true rfl⟩ dX6_come_2 (fun r1 V2 hz_3 => ?_)
  refine gG_ret hz_3.1 hz_3.2 ?_
  refine gG_st [.int (if ixB e 2 then 1 else 0)] rfl ?_
  by_cases h1 : ixB e 2
  · refine gG_top 1 (if_pos (h1)) ?_
    refine g_if_eq X 49 (by decide) dX6_come_5 (fun c4 => ?_) (fun c4 => ?_)
    ·  exact absurd c4 (by decide)
    · refine g_iload_n X 2 rfl dX6_come_8 ?_
      refine g_iconst X 1 (by decide) dX6_come_9 ?_
      refine g_iconst X 4 (by decide) dX6_come_10 ?_
      refine g_callS X hR (As := [.int ax, .int 1, .int 4]) (rest := []) mX6_isBetween lX6_39 (k_isBetween hI V ax 1 4 ) rfl rfl (Nat.le_of_ble_eq_true rfl) ⟨Nat.le_of_ble_eq_true rfl, Nat.le_of_ble_eq_true rfl, Nat.le_of_ble_eq_true rfl, Nat.le_of_ble_eq_true rfl⟩ dX6_come_11 (fun r5 V6 hz_7 => ?_)
      refine gG_ret hz_7.1 hz_7.2 ?_
      refine gG_st [.int (if inB ax 1 4 then 1 else 0)] rfl ?_
      by_cases h2 : inB ax 1 4
      · refine gG_top 1 (if_pos (h2)) ?_
        refine g_if_eq X 49 (by decide) dX6_come_14 (fun c8 => ?_) (fun c8 => ?_)
        ·  exact absurd c8 (by decide)
        · refine g_iload_n X 3 rfl dX6_come_17 ?_
          refine g_iconst X 1 (by decide) dX6_come_18 ?_
          refine g_sipush X 200 (by decide) dX6_come_19 ?_
          refine g_callS X hR (As := [.int wt, .int 1, .int 200]) (rest := []) mX6_isBetween lX6_39 (k_isBetween hI V wt 1 200 ) rfl rfl (Nat.le_of_ble_eq_true rfl) ⟨Nat.le_of_ble_eq_true rfl, Nat.le_of_ble_eq_true rfl, Nat.le_of_ble_eq_true rfl, Nat.le_of_ble_eq_true rfl⟩ dX6_come_22 (fun r9 V10 hz_11 => ?_)
          refine gG_ret hz_11.1 hz_11.2 ?_
          refine gG_st [.int (if inB wt 1 200 then 1 else 0)] rfl ?_
          by_cases h3 : inB wt 1 200
          · refine gG_top 1 (if_pos (h3)) ?_
            refine g_if_eq X 49 (by decide) dX6_come_25 (fun c12 => ?_) (fun c12 => ?_)
            ·  exact absurd c12 (by decide)
            · refine g_iload X 4 rfl dX6_come_28 ?_
              refine g_iconst X 1 (by decide) dX6_come_30 ?_
              refine g_iconst X 3 (by decide) dX6_come_31 ?_
              refine g_callS X hR (As := [.int pc, .int 1, .int 3]) (rest := []) mX6_isBetween lX6_39 (k_isBetween hI V pc 1 3 ) rfl rfl (Nat.le_of_ble_eq_true rfl) ⟨Nat.le_of_ble_eq_true rfl, Nat.le_of_ble_eq_true rfl, Nat.le_of_ble_eq_true rfl, Nat.le_of_ble_eq_true rfl⟩ dX6_come_32 (fun r13 V14 hz_15 => ?_)
              refine gG_ret hz_15.1 hz_15.2 ?_
              refine gG_st [.int (if inB pc 1 3 then 1 else 0)] rfl ?_
              by_cases h4 : inB pc 1 3
              · refine gG_top 1 (if_pos (h4)) ?_
                refine g_if_eq X 49 (by decide) dX6_come_35 (fun c16 => ?_) (fun c16 => ?_)
                ·  exact absurd c16 (by decide)
                · refine g_iload X 5 rfl dX6_come_38 ?_
                  refine g_iconst X 0 (by decide) dX6_come_40 ?_
                  refine g_bipush X 100 (by decide) dX6_come_41 ?_
                  refine g_callS X hR (As := [.int cn, .int 0, .int 100]) (rest := []) mX6_isBetween lX6_39 (k_isBetween hI V cn 0 100 ) rfl rfl (Nat.le_of_ble_eq_true rfl) ⟨Nat.le_of_ble_eq_true rfl, Nat.le_of_ble_eq_true rfl, Nat.le_of_ble_eq_true rfl, Nat.le_of_ble_eq_true rfl⟩ dX6_come_43 (fun r17 V18 hz_19 => ?_)
                  refine gG_ret hz_19.1 hz_19.2 ?_
                  refine gG_st [.int (if inB cn 0 100 then 1 else 0)] rfl ?_
                  by_cases h5 : inB cn 0 100
                  · refine gG_top 1 (if_pos (h5)) ?_
                    refine g_if_ne X 59 (by decide) dX6_come_46 (fun c20 => ?_) (fun c20 => ?_)
                    · obtain ⟨j1, a1, q1⟩ := (ixB_iff (n := 2) (by decide)).mp h1
                      obtain ⟨j2, b1, b2, q2⟩ := (inB_iff (a := 1) (n := 4) (by decide) (by decide)).mp h2
                      obtain ⟨j3, c1, c2, q3⟩ := (inB_iff (a := 1) (n := 200) (by decide) (by decide)).mp h3
                      obtain ⟨j4, d1, d2, q4⟩ := (inB_iff (a := 1) (n := 3) (by decide) (by decide)).mp h4
                      obtain ⟨j5, e1, e2, q5⟩ := (inB_iff (a := 0) (n := 100) (by decide) (by decide)).mp h5
                      subst q1; subst q2; subst q3; subst q4; subst q5
                      refine g_aload_n X 0 rfl dX6_come_59 ?_
                      refine gg_X6_bridge X ⟨by decide, by decide⟩ fX6_23 dX6_come_60 ?_
                      by_cases h16 : w.1.1 6 = 16
                      · skip
                        refine g_callV X hR (rest := []) mX0_newCart lX6_141 (k_newCart16 hI V 0 w.1 (by decide) hQ.1 h16) rfl rfl (Nat.le_of_ble_eq_true rfl) ⟨by decide, by decide⟩ rfl rfl rfl ⟨Nat.le_of_ble_eq_true rfl, Nat.le_of_ble_eq_true rfl, Nat.le_of_ble_eq_true rfl, Nat.le_of_ble_eq_true rfl⟩ dX6_come_63 (fun r21 V22 hz_23 => ?_)
                        refine gG_ret hz_23.1 hz_23.2 ?_
                        refine gG_st [.null] rfl ?_
                        refine g_astoreN X dX6_come_66 [(7, .null), (0, .ref (B.2.1 0 0 0)), (1, .int (nI j1)), (2, .int (nI j2)), (3, .int (nI j3)), (4, .int (nI j4)), (5, .int (nI j5)), (6, .int (nI c))] rfl (gnl_lt hnL (by decide)) ?_
                        refine g_aloadN X 0 rfl dX6_come_68 ?_
                        refine g_ifnonnullN X dX6_come_70 ?_
                        first | exact absurd v1 h1 | exact absurd v2 h2 | exact absurd v3 h3 | exact absurd v4 h4 | exact absurd v5 h5 | omega
                      · have hn16 : w.1.1 6 < 16 := by omega
                        have hql := hw.1.qlen a1
                        refine g_callV X hR (rest := []) mX0_newCart lX6_141 (k_newCart hI V 0 w.1 (by decide) hQ.1 hn16) rfl rfl (Nat.le_of_ble_eq_true rfl) ⟨by decide, by decide⟩ rfl rfl rfl ⟨Nat.le_of_ble_eq_true rfl, Nat.le_of_ble_eq_true rfl, Nat.le_of_ble_eq_true rfl, Nat.le_of_ble_eq_true rfl⟩ dX6_come_63 (fun r24 V25 hz_26 => ?_)
                        refine gG_rv hz_26.1 ?_
                        have hV25 := hz_26.2
                        refine gG_st [.ref (B.2.1 15 0 (w.1.1 6))] rfl ?_
                        refine g_astore X dX6_come_66 [(7, .ref (B.2.1 15 0 (w.1.1 6))), (0, .ref (B.2.1 0 0 0)), (1, .int (nI j1)), (2, .int (nI j2)), (3, .int (nI j3)), (4, .int (nI j4)), (5, .int (nI j5)), (6, .int (nI c))] rfl (gnl_lt hnL (by decide)) ?_
                        refine g_aload X 0 rfl dX6_come_68 ?_
                        refine g_ifnonnull X 83 (by decide) dX6_come_70 ?_
                        refine g_aload X 0 rfl dX6_come_83 ?_
                        refine g_iload_n X 2 rfl dX6_come_85 ?_
                        refine gp_X1_end X (gP_15 (by first | assumption | decide | omega) (by first | assumption | decide | omega)) fX6_147 dX6_come_86 ?_
                        refine gG_nm (fun V27 hV27 => ?_)
                        refine g_aload X 0 rfl dX6_come_89 ?_
                        refine g_iload_n X 3 rfl dX6_come_91 ?_
                        refine gp_X1_axles X (gP_15 (by first | assumption | decide | omega) (by first | assumption | decide | omega)) fX6_152 dX6_come_92 ?_
                        refine gG_nm (fun V28 hV28 => ?_)
                        refine g_aload X 0 rfl dX6_come_95 ?_
                        refine g_iload_n X 4 rfl dX6_come_97 ?_
                        refine gp_X1_weight X (gP_15 (by first | assumption | decide | omega) (by first | assumption | decide | omega)) fX6_155 dX6_come_98 ?_
                        refine gG_nm (fun V29 hV29 => ?_)
                        refine g_aload X 0 rfl dX6_come_101 ?_
                        refine g_iload X 5 rfl dX6_come_103 ?_
                        refine gp_X1_pace X (gP_15 (by first | assumption | decide | omega) (by first | assumption | decide | omega)) fX6_158 dX6_come_105 ?_
                        refine gG_nm (fun V30 hV30 => ?_)
                        refine g_aload X 0 rfl dX6_come_108 ?_
                        refine g_iload X 6 rfl dX6_come_110 ?_
                        refine gp_X1_coins X (gP_15 (by first | assumption | decide | omega) (by first | assumption | decide | omega)) fX6_161 dX6_come_112 ?_
                        refine gG_nm (fun V31 hV31 => ?_)
                        refine g_aload X 0 rfl dX6_come_115 ?_
                        refine g_iload X 7 rfl dX6_come_117 ?_
                        refine gp_X1_isCheat X (boolN hc).1 (boolN hc).2 (gP_15 (by first | assumption | decide | omega) (by first | assumption | decide | omega)) fX6_164 dX6_come_119 ?_
                        refine gG_nm (fun V32 hV32 => ?_)
                        refine g_aload_n X 1 rfl dX6_come_122 ?_
                        refine gg_X6_bridge X ⟨by decide, by decide⟩ fX6_23 dX6_come_123 ?_
                        refine g_iload_n X 2 rfl dX6_come_126 ?_
                        refine g_callV X hR (rest := []) mX0_gateAt lX6_168 (k_gateAt hI V32 0 j1 (by decide) a1) rfl rfl (Nat.le_of_ble_eq_true rfl) ⟨by decide, by decide⟩ rfl rfl rfl ⟨Nat.le_of_ble_eq_true rfl, Nat.le_of_ble_eq_true rfl, Nat.le_of_ble_eq_true rfl, Nat.le_of_ble_eq_true rfl⟩ dX6_come_127 (fun r33 V34 hz_35 => ?_)
                        refine gG_ret hz_35.1 hz_35.2 ?_
                        refine gG_st [.ref (B.2.1 12 0 j1)] rfl ?_
                        refine gg_X3_waiting X (gP_12 (by first | assumption | decide | omega) (by first | assumption | decide | omega)) fX6_172 dX6_come_130 ?_
                        refine g_aload X 0 rfl dX6_come_133 ?_
                        refine gg_X1_number X (gP_15 (by first | assumption | decide | omega) (by first | assumption | decide | omega)) fX6_177 dX6_come_135 ?_
                        refine gG_top (nI (w.1.1 6)) (by rw [hV32, gup_ne (by simp), hV31, gup_ne (by simp), hV30, gup_ne (by simp), hV29, gup_ne (by simp), hV28, gup_ne (by simp), hV27, gup_ne (by simp), hV25, gup_ne (by simp)]; exact hQ.1.2.2.2.2.2.1 _ hn16) ?_
                        refine g_callV X hR (rest := []) mX5_addLast lX6_180 (k_addLast hI V32 0 j1 (w.1.2.1 j1) (w.1.1 6) (by decide) (by omega) ((hQ.1.2.1 j1 (by omega)).same (by rw [hV32, gup_off _ _ (by simp), hV31, gup_off _ _ (by simp), hV30, gup_off _ _ (by simp), hV29, gup_off _ _ (by simp), hV28, gup_off _ _ (by simp), hV27, gup_off _ _ (by simp), hV25, gup_off _ _ (by simp)]) (by rw [hV32, gup_off _ _ (by simp), hV31, gup_off _ _ (by simp), hV30, gup_off _ _ (by simp), hV29, gup_off _ _ (by simp), hV28, gup_off _ _ (by simp), hV27, gup_off _ _ (by simp), hV25, gup_off _ _ (by simp)])) (by omega)) rfl rfl (Nat.le_of_ble_eq_true rfl) (gP_13 (by first | assumption | decide | omega) (by first | assumption | decide | omega)) rfl rfl rfl ⟨Nat.le_of_ble_eq_true rfl, Nat.le_of_ble_eq_true rfl, Nat.le_of_ble_eq_true rfl, Nat.le_of_ble_eq_true rfl⟩ dX6_come_138 (fun r36 V37 hz_38 => ?_)
                        refine gG_rv hz_38.1 ?_
                        obtain ⟨-, hrow, hrmod⟩ := hz_38
                        refine gG_st [] rfl ?_
                        refine g_aload X 0 rfl dX6_come_141 ?_
                        refine gg_X1_number X (gP_15 (by first | assumption | decide | omega) (by first | assumption | decide | omega)) fX6_177 dX6_come_143 ?_
                        refine gG_top (nI (w.1.1 6)) (by rw [hrmod 15 0 (w.1.1 6) (by simp), hV32, gup_ne (by simp), hV31, gup_ne (by simp), hV30, gup_ne (by simp), hV29, gup_ne (by simp), hV28, gup_ne (by simp), hV27, gup_ne (by simp), hV25, gup_ne (by simp)]; exact hQ.1.2.2.2.2.2.1 _ hn16) ?_
                        refine g_iret X F ?_ rfl dX6_come_146
                        have hop : oCome w (nI j1) (nI j2) (nI j3) (nI j4) (nI j5) (nI c) = (0, nI (w.1.1 6), (sNew w.1 j1 j2 j3 j4 j5 c, w.2)) := by
                          unfold oCome
                          rw [if_pos ⟨h1, h2, h3, h4, h5⟩, if_neg h16, nI_clamp (by omega), nI_clamp (by omega), nI_clamp (by omega), nI_clamp (by omega), nI_clamp (by omega), nI_clamp (by omega)]
                        rw [hop]
                        have ko : ∀ K b i, ¬ (K = 10 ∧ b = 0 ∧ i = 0) → ¬ (K = 15 ∧ b = 0 ∧ i = w.1.1 6) → V32 K b i = V K b i := fun K b i k1 k2 => by rw [hV32, gup_off _ _ (by omega), hV31, gup_off _ _ (by omega), hV30, gup_off _ _ (by omega), hV29, gup_off _ _ (by omega), hV28, gup_off _ _ (by omega), hV27, gup_off _ _ (by omega), hV25, gup_off _ _ (by omega)]
                        have kf : ∀ K b i, ¬ ((K = 13 ∨ K = 14) ∧ b = 0 ∧ i = j1) → V37 K b i = V32 K b i := hrmod
                        obtain ⟨f7, f8, f9, f10⟩ := hfr (w.1.1 6) (Nat.le_refl _) hn16
                        obtain ⟨g1, g2⟩ := hQ.1.2.2.2.2.2.2 rfl (w.1.1 6) (Nat.le_refl _) hn16
                        have hfin : AbsC V37 0 (sNew w.1 j1 j2 j3 j4 j5 c) := by
                          refine hQ.1.new hn16 ?_ (fun k hk => ?_) hrow (fun r hr hne => ⟨?_, ?_⟩) (fun x hx => ?_) (fun k k1 k2 => ?_) ?_ ?_ (fun i hi => ?_)
                          · rw [kf 10 0 0 (by simp), hV32, gup_off _ _ (by simp), hV31, gup_off _ _ (by simp), hV30, gup_off _ _ (by simp), hV29, gup_off _ _ (by simp), hV28, gup_off _ _ (by simp), hV27, gup_off _ _ (by simp), hV25, gup_eq]
                          · rw [kf 10 0 0 (by simp), hV32, gup_off _ _ (by simp), hV31, gup_off _ _ (by simp), hV30, gup_off _ _ (by simp), hV29, gup_off _ _ (by simp), hV28, gup_off _ _ (by simp), hV27, gup_off _ _ (by simp), hV25, gup_ne (by omega)]
                          · rw [kf 13 0 r (by omega), ko 13 0 r (by simp) (by simp)]
                          · rw [kf 14 0 r (by omega), ko 14 0 r (by simp) (by simp)]
                          · rw [kf 12 0 x (by simp), ko 12 0 x (by simp) (by simp)]
                          · rw [kf 15 0 _ (by simp)]
                            rcases (show k = 1 ∨ k = 2 ∨ k = 3 ∨ k = 4 ∨ k = 5 ∨ k = 6 ∨ k = 7 ∨ k = 8 ∨ k = 9 by omega) with rfl | rfl | rfl | rfl | rfl | rfl | rfl | rfl | rfl
                            all_goals (rw [hV32, hV31, hV30, hV29, hV28, hV27, hV25]; simp only [gup, nwC])
                            all_goals first
                              | (simp; done)
                              | (simp; rw [g1 7 (by decide) (by decide), f7]; done)
                              | (simp; rw [g1 8 (by decide) (by decide), f8]; done)
                              | (simp; rw [g1 9 (by decide) (by decide), f9]; done)
                          · rw [kf 15 0 _ (by simp), hV32, gup_ne (by simp), hV31, gup_ne (by simp), hV30, gup_ne (by simp), hV29, gup_ne (by simp), hV28, gup_ne (by simp), hV27, gup_ne (by simp), hV25, gup_ne (by simp), g2, f10]
                          · rw [kf 15 0 _ (by simp), hV32, gup_ne (by simp), hV31, gup_ne (by simp), hV30, gup_ne (by simp), hV29, gup_ne (by simp), hV28, gup_ne (by simp), hV27, gup_ne (by simp), hV25, gup_ne (by simp)]; exact hQ.1.2.2.2.2.2.1 _ hn16
                          · rw [kf 15 0 i (by simp), ko 15 0 i (by simp) (by omega)]
                        refine ⟨rfl, rfl, ⟨hfin, ⟨?_, fun k hk => ?_⟩, fun k hk => ?_⟩, fun b hb i hi => ?_, fun K b i hn => ?_⟩
                        · rw [kf 1 0 0 (by simp), ko 1 0 0 (by simp) (by simp)]; exact hQ.2.1.1
                        · rw [kf 2 0 0 (by simp), ko 2 0 0 (by simp) (by simp)]; exact hQ.2.1.2 k hk
                        · rw [kf 4 0 0 (by simp), ko 4 0 0 (by simp) (by simp)]; exact hQ.2.2 k hk
                        · by_cases hb0 : b = 0
                          · rw [hb0]; exact hfin.2.2.2.2.2.1 i hi
                          · rw [kf 15 b i (by simp), ko 15 b i (by simp) (by omega)]; exact hN b hb i hi
                        · rw [kf K b i (by omega), ko K b i (by omega) (by omega)]
                    ·  exact absurd c20 (by decide)
                  · refine gG_top 0 (if_neg (h5)) ?_
                    refine g_if_ne X 59 (by decide) dX6_come_46 (fun c39 => ?_) (fun c39 => ?_)
                    ·  exact absurd c39 (by decide)
                    · first | exact absurd v1 h1 | exact absurd v2 h2 | exact absurd v3 h3 | exact absurd v4 h4 | exact absurd v5 h5 | omega
              · refine gG_top 0 (if_neg (h4)) ?_
                refine g_if_eq X 49 (by decide) dX6_come_35 (fun c40 => ?_) (fun c40 => ?_)
                · first | exact absurd v1 h1 | exact absurd v2 h2 | exact absurd v3 h3 | exact absurd v4 h4 | exact absurd v5 h5 | omega
                ·  exact absurd c40 (by decide)
          · refine gG_top 0 (if_neg (h3)) ?_
            refine g_if_eq X 49 (by decide) dX6_come_25 (fun c41 => ?_) (fun c41 => ?_)
            · first | exact absurd v1 h1 | exact absurd v2 h2 | exact absurd v3 h3 | exact absurd v4 h4 | exact absurd v5 h5 | omega
            ·  exact absurd c41 (by decide)
      · refine gG_top 0 (if_neg (h2)) ?_
        refine g_if_eq X 49 (by decide) dX6_come_14 (fun c42 => ?_) (fun c42 => ?_)
        · first | exact absurd v1 h1 | exact absurd v2 h2 | exact absurd v3 h3 | exact absurd v4 h4 | exact absurd v5 h5 | omega
        ·  exact absurd c42 (by decide)
  · refine gG_top 0 (if_neg (h1)) ?_
    refine g_if_eq X 49 (by decide) dX6_come_5 (fun c43 => ?_) (fun c43 => ?_)
    · first | exact absurd v1 h1 | exact absurd v2 h2 | exact absurd v3 h3 | exact absurd v4 h4 | exact absurd v5 h5 | omega
    ·  exact absurd c43 (by decide)
