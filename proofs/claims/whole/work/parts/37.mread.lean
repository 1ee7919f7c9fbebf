/-! the reference reads -/

abbrev rmX8_read : Room := { frames := 3, cells := 0, slots := 0, locals := 66 }
set_option maxRecDepth 20000 in
theorem k_Mread {l : Launch} {B : gB} (hI : gI B) (V : gMem) (w : gWd) (x : Int32) (q : Int32) (hM : MOk V w) (hw : wOk w) : gM l B yX8_read cX8_read 7 (some .int) rmX8_read [.ref (B.2.1 20 0 0), .int x, .int q] V (fun v V' => v = some (.int (oRead w x q).2.1) ∧ V' 20 0 0 0 = nI (oRead w x q).1 ∧ MOk V' (oRead w x q).2.2 ∧ mmod V V') := by
  refine gM_of (own := RX8) (L := [(0, .ref (B.2.1 20 0 0)), (1, .int x), (2, .int q)]) (by decide +kernel) rfl hI (Nat.le_of_ble_eq_true rfl) rfl ?_
  intro Z hnL hR X F
  refine g_aload_n X 0 rfl dX8_read_0 ?_
  refine g_iconst X 0 (by decide) dX8_read_1 ?_
  refine gp_X8_thrown X ⟨by decide, by decide⟩ fX8_41 dX8_read_2 ?_
  refine gG_nm (fun V1 hV1 => ?_)
  have hM1 : MOk V1 w := by rw [hV1]; exact hM.thr 0
  have hm1 : mmod V V1 := by rw [hV1]; exact mmod.rf.up (by decide) (by decide)
  rcases i32c x with hx | ⟨n, hn, hxn⟩
  · skip
    refine g_iload_n X 1 rfl dX8_read_5 ?_
    refine g_if_eq X 24 (by decide) dX8_read_6 (fun c2 => ?_) (fun c2 => ?_)
    · first | exact absurd (fun z => absurd hx (by rw [z]; decide)) c2 | exact absurd c2 (fun z => absurd hx (by rw [z]; decide))
    · refine g_iload_n X 1 rfl dX8_read_9 ?_
      refine g_bipush X 9 (by decide) dX8_read_10 ?_
      refine g_callS X hR (As := [.int x, .int 9]) (rest := []) mX8_isRow lX8_55 (k_isRowNeg hI V1 x 9 hx) rfl rfl (Nat.le_of_ble_eq_true rfl) ⟨Nat.le_of_ble_eq_true rfl, Nat.le_of_ble_eq_true rfl, Nat.le_of_ble_eq_true rfl, Nat.le_of_ble_eq_true rfl⟩ dX8_read_12 (fun r3 V4 hz_5 => ?_)
      refine gG_ret hz_5.1 hz_5.2 ?_
      refine gG_st [.int 0] rfl ?_
      refine g_if_ne X 24 (by decide) dX8_read_15 (fun c6 => ?_) (fun c6 => ?_)
      ·  exact absurd c6 (by decide)
      · refine g_aload_n X 0 rfl dX8_read_18 ?_
        refine g_iconst X 1 (by decide) dX8_read_19 ?_
        refine g_callV X hR (rest := []) mX8_no lX8_59 (k_no hI V1 1 ) rfl rfl (Nat.le_of_ble_eq_true rfl) ⟨by decide, by decide⟩ rfl rfl rfl ⟨Nat.le_of_ble_eq_true rfl, Nat.le_of_ble_eq_true rfl, Nat.le_of_ble_eq_true rfl, Nat.le_of_ble_eq_true rfl⟩ dX8_read_20 (fun r7 V8 hz_9 => ?_)
        refine gG_rv hz_9.1 ?_
        have hV8 := hz_9.2
        refine gG_st [.int 0] rfl ?_
        refine g_iret X F ?_ rfl dX8_read_23
        rw [show oRead w x q = (1, 0, w) from if_neg (fun z => z.elim (fun z => absurd hx (by rw [z]; decide)) (fun z => by rw [rowX_neg hx] at z; cases z))]
        exact ⟨rfl, by rw [hV8, gup_eq]; rfl, by rw [hV8]; exact hM1.thr _, by rw [hV8]; exact hm1.up (by decide) (by decide)⟩
  · subst hxn
    refine g_iload_n X 1 rfl dX8_read_5 ?_
    by_cases hz0 : n = 0
    · skip
      refine g_if_eq X 24 (by decide) dX8_read_6 (fun c10 => ?_) (fun c10 => ?_)
      · have hok : nOk n = true ∧ nLen n ≤ 9 := by rw [hz0, nOk_0, nLen_0]; exact ⟨rfl, by decide⟩
        have hxr : nI n = 0 ∨ rowX (nI n) 9 = true := Or.inl (by rw [hz0]; rfl)
        refine g_iload_n X 2 rfl dX8_read_24 ?_
        refine g_iconst X 0 (by decide) dX8_read_25 ?_
        refine g_iconst X 2 (by decide) dX8_read_26 ?_
        refine g_callS X hR (As := [.int q, .int 0, .int 2]) (rest := []) mX8_isIn lX8_48 (k_isIn hI V1 q 0 2 ) rfl rfl (Nat.le_of_ble_eq_true rfl) ⟨Nat.le_of_ble_eq_true rfl, Nat.le_of_ble_eq_true rfl, Nat.le_of_ble_eq_true rfl, Nat.le_of_ble_eq_true rfl⟩ dX8_read_27 (fun r11 V12 hz_13 => ?_)
        refine gG_ret hz_13.1 hz_13.2 ?_
        refine gG_st [.int (if inB q 0 2 then 1 else 0)] rfl ?_
        by_cases hQ : inB q 0 2
        · refine gG_top 1 (if_pos (hQ)) ?_
          refine g_if_ne X 39 (by decide) dX8_read_30 (fun c14 => ?_) (fun c14 => ?_)
          · obtain ⟨z, -, hz, hyz⟩ := (inB_iff (a := 0) (n := 2) (by decide) (by decide)).mp hQ
            subst hyz
            refine g_iconst X 0 (by decide) dX8_read_39 ?_
            refine g_istore_n X rfl dX8_read_40 [(3, .int 0), (0, .ref (B.2.1 20 0 0)), (1, .int (nI n)), (2, .int (nI z))] rfl (gnl_lt hnL (by decide)) ?_
            refine g_iconst X (-1) (by decide) dX8_read_41 ?_
            refine g_istore X dX8_read_42 [(4, .int ((-1))), (3, .int 0), (0, .ref (B.2.1 20 0 0)), (1, .int (nI n)), (2, .int (nI z))] rfl (gnl_lt hnL (by decide)) ?_
            refine g_iload_n X 3 rfl dX8_read_44 ?_
            refine g_istore X dX8_read_45 [(5, .int (nI n)), (4, .int ((-1))), (3, .int 0), (0, .ref (B.2.1 20 0 0)), (1, .int (nI n)), (2, .int (nI z))] rfl (gnl_lt hnL (by decide)) ?_
            refine g_aload_n X 3 rfl dX8_read_47 ?_
            refine g_iload X 0 rfl dX8_read_48 ?_
            refine g_callV X hR (rest := []) mX8_beginning lX8_68 (k_beginning hI V1 w.2.1 n hM1.2.1 hw.2.1 hn hok.2) rfl rfl (Nat.le_of_ble_eq_true rfl) ⟨by decide, by decide⟩ rfl rfl rfl ⟨Nat.le_of_ble_eq_true rfl, Nat.le_of_ble_eq_true rfl, Nat.le_of_ble_eq_true rfl, Nat.le_of_ble_eq_true rfl⟩ dX8_read_50 (fun r15 V16 hz_17 => ?_)
            refine gG_ret hz_17.1 hz_17.2 ?_
            refine gG_st [.int (cFindI w.2.1 n)] rfl ?_
            refine g_istore X dX8_read_53 [(6, .int (cFindI w.2.1 n)), (5, .int (nI n)), (4, .int ((-1))), (3, .int 0), (0, .ref (B.2.1 20 0 0)), (1, .int (nI n)), (2, .int (nI z))] rfl (gnl_lt hnL (by decide)) ?_
            refine gG_L [4, 5, 6, 3, 2, 1, 0] (L' := [(0, .ref (B.2.1 20 0 0)), (1, .int (nI n)), (2, .int (nI z)), (3, .int 0), (4, .int ((-1))), (5, .int (nI n)), (6, .int (cFindI w.2.1 n))]) rfl ?_
            have loop : ∀ (f m : Nat) (la : Int32) (le : Nat), nLen le ≤ f → f ≤ 9 → cRd w.2.1 9 0 (-1) n = cRd w.2.1 f m la le → nOk le = true → le < 2 ^ 31 → gG Z B (0, 0) V1 55 [(0, .ref (B.2.1 20 0 0)), (1, .int (nI n)), (2, .int (nI z)), (3, .int (nI m)), (4, .int la), (5, .int (nI le)), (6, .int (cFindI w.2.1 le))] [] := by
              intro f
              induction f with
              | zero =>
                intro m la le hl hf9 hRd ho hle
                have hle0 : le = 0 := Classical.byContradiction (fun q => by have := nLen_pos q; omega)
                have hcf : cFind w.2.1 le = none := by rw [hle0]; exact cFind_0 hw.2.1
                have hfin : cRd w.2.1 9 0 (-1) n = (m, la, le) := by rw [hRd]; rfl
                refine gG_Le [(0, .ref (B.2.1 20 0 0)), (1, .int (nI n)), (2, .int (nI z)), (3, .int (nI m)), (4, .int la), (5, .int (nI le)), (6, .int ((-1)))] (by unfold cFindI; rw [hcf]) ?_
                refine g_iload X 6 rfl dX8_read_55 ?_
                refine g_iconst X (-1) (by decide) dX8_read_57 ?_
                refine g_icmp_eq X 89 (by decide) dX8_read_58 (fun c18 => ?_) (fun c18 => ?_)
                · rcases (show z = 0 ∨ z = 1 ∨ z = 2 by omega) with rfl | rfl | rfl
                  · refine gG_Le [(0, .ref (B.2.1 20 0 0)), (1, .int (nI n)), (2, .int 0), (3, .int (nI m)), (4, .int la), (5, .int (nI le)), (6, .int ((-1)))] rfl ?_
                    refine g_iload_n X 2 rfl dX8_read_89 ?_
                    refine g_if_ne X 97 (by decide) dX8_read_90 (fun c19 => ?_) (fun c19 => ?_)
                    ·  exact absurd c19 (by decide)
                    · refine g_iload_n X 3 rfl dX8_read_93 ?_
                      refine g_goto X 112 (by decide) dX8_read_94 ?_
                      refine g_iret X F ?_ rfl dX8_read_112
                      have hval : cRead w.2.1 n 0 = nI m := by unfold cRead; rw [hfin]; exact rfl
                      rw [show oRead w (nI n) (nI 0) = (0, nI m, w) from by unfold oRead; rw [if_pos hxr, if_pos hQ, nI_clamp hn, nI_clamp (by decide), hval]]
                      exact ⟨rfl, by rw [hV1, gup_eq]; rfl, hM1, hm1⟩
                  · refine gG_Le [(0, .ref (B.2.1 20 0 0)), (1, .int (nI n)), (2, .int 1), (3, .int (nI m)), (4, .int la), (5, .int (nI le)), (6, .int ((-1)))] rfl ?_
                    refine g_iload_n X 2 rfl dX8_read_89 ?_
                    refine g_if_ne X 97 (by decide) dX8_read_90 (fun c20 => ?_) (fun c20 => ?_)
                    · refine g_iload_n X 2 rfl dX8_read_97 ?_
                      refine g_iconst X 1 (by decide) dX8_read_98 ?_
                      refine g_icmp_ne X 107 (by decide) dX8_read_99 (fun c21 => ?_) (fun c21 => ?_)
                      ·  exact absurd c21 (by decide)
                      · refine g_iload X 4 rfl dX8_read_102 ?_
                        refine g_goto X 112 (by decide) dX8_read_104 ?_
                        refine g_iret X F ?_ rfl dX8_read_112
                        have hval : cRead w.2.1 n 1 = la := by unfold cRead; rw [hfin]; exact rfl
                        rw [show oRead w (nI n) (nI 1) = (0, la, w) from by unfold oRead; rw [if_pos hxr, if_pos hQ, nI_clamp hn, nI_clamp (by decide), hval]]
                        exact ⟨rfl, by rw [hV1, gup_eq]; rfl, hM1, hm1⟩
                    ·  exact absurd c20 (by decide)
                  · refine gG_Le [(0, .ref (B.2.1 20 0 0)), (1, .int (nI n)), (2, .int 2), (3, .int (nI m)), (4, .int la), (5, .int (nI le)), (6, .int ((-1)))] rfl ?_
                    refine g_iload_n X 2 rfl dX8_read_89 ?_
                    refine g_if_ne X 97 (by decide) dX8_read_90 (fun c22 => ?_) (fun c22 => ?_)
                    · refine g_iload_n X 2 rfl dX8_read_97 ?_
                      refine g_iconst X 1 (by decide) dX8_read_98 ?_
                      refine g_icmp_ne X 107 (by decide) dX8_read_99 (fun c23 => ?_) (fun c23 => ?_)
                      · refine g_iload X 5 rfl dX8_read_107 ?_
                        refine g_callS X hR (As := [.int (nI le)]) (rest := []) mX8_length lX8_44 (k_mlen hI V1 le hle) rfl rfl (Nat.le_of_ble_eq_true rfl) ⟨Nat.le_of_ble_eq_true rfl, Nat.le_of_ble_eq_true rfl, Nat.le_of_ble_eq_true rfl, Nat.le_of_ble_eq_true rfl⟩ dX8_read_109 (fun r24 V25 hz_26 => ?_)
                        refine gG_ret hz_26.1 hz_26.2 ?_
                        refine gG_st [.int (nI (nLen le))] rfl ?_
                        refine g_iret X F ?_ rfl dX8_read_112
                        have hval : cRead w.2.1 n 2 = nI (nLen le) := by unfold cRead; rw [hfin]; exact rfl
                        rw [show oRead w (nI n) (nI 2) = (0, nI (nLen le), w) from by unfold oRead; rw [if_pos hxr, if_pos hQ, nI_clamp hn, nI_clamp (by decide), hval]]
                        exact ⟨rfl, by rw [hV1, gup_eq]; rfl, hM1, hm1⟩
                      ·  exact absurd c23 (by decide)
                    ·  exact absurd c22 (by decide)
                ·  exact absurd c18 (by decide)
              | succ f ih =>
                intro m la le hl hf9 hRd ho hle
                cases hcf : cFind w.2.1 le with
                | none =>
                  have hfin : cRd w.2.1 9 0 (-1) n = (m, la, le) := by rw [hRd]; exact cRd_none hcf _ _ _
                  refine gG_Le [(0, .ref (B.2.1 20 0 0)), (1, .int (nI n)), (2, .int (nI z)), (3, .int (nI m)), (4, .int la), (5, .int (nI le)), (6, .int ((-1)))] (by unfold cFindI; rw [hcf]) ?_
                  refine g_iload X 6 rfl dX8_read_55 ?_
                  refine g_iconst X (-1) (by decide) dX8_read_57 ?_
                  refine g_icmp_eq X 89 (by decide) dX8_read_58 (fun c27 => ?_) (fun c27 => ?_)
                  · rcases (show z = 0 ∨ z = 1 ∨ z = 2 by omega) with rfl | rfl | rfl
                    · refine gG_Le [(0, .ref (B.2.1 20 0 0)), (1, .int (nI n)), (2, .int 0), (3, .int (nI m)), (4, .int la), (5, .int (nI le)), (6, .int ((-1)))] rfl ?_
                      refine g_iload_n X 2 rfl dX8_read_89 ?_
                      refine g_if_ne X 97 (by decide) dX8_read_90 (fun c28 => ?_) (fun c28 => ?_)
                      ·  exact absurd c28 (by decide)
                      · refine g_iload_n X 3 rfl dX8_read_93 ?_
                        refine g_goto X 112 (by decide) dX8_read_94 ?_
                        refine g_iret X F ?_ rfl dX8_read_112
                        have hval : cRead w.2.1 n 0 = nI m := by unfold cRead; rw [hfin]; exact rfl
                        rw [show oRead w (nI n) (nI 0) = (0, nI m, w) from by unfold oRead; rw [if_pos hxr, if_pos hQ, nI_clamp hn, nI_clamp (by decide), hval]]
                        exact ⟨rfl, by rw [hV1, gup_eq]; rfl, hM1, hm1⟩
                    · refine gG_Le [(0, .ref (B.2.1 20 0 0)), (1, .int (nI n)), (2, .int 1), (3, .int (nI m)), (4, .int la), (5, .int (nI le)), (6, .int ((-1)))] rfl ?_
                      refine g_iload_n X 2 rfl dX8_read_89 ?_
                      refine g_if_ne X 97 (by decide) dX8_read_90 (fun c29 => ?_) (fun c29 => ?_)
                      · refine g_iload_n X 2 rfl dX8_read_97 ?_
                        refine g_iconst X 1 (by decide) dX8_read_98 ?_
                        refine g_icmp_ne X 107 (by decide) dX8_read_99 (fun c30 => ?_) (fun c30 => ?_)
                        ·  exact absurd c30 (by decide)
                        · refine g_iload X 4 rfl dX8_read_102 ?_
                          refine g_goto X 112 (by decide) dX8_read_104 ?_
                          refine g_iret X F ?_ rfl dX8_read_112
                          have hval : cRead w.2.1 n 1 = la := by unfold cRead; rw [hfin]; exact rfl
                          rw [show oRead w (nI n) (nI 1) = (0, la, w) from by unfold oRead; rw [if_pos hxr, if_pos hQ, nI_clamp hn, nI_clamp (by decide), hval]]
                          exact ⟨rfl, by rw [hV1, gup_eq]; rfl, hM1, hm1⟩
                      ·  exact absurd c29 (by decide)
                    · refine gG_Le [(0, .ref (B.2.1 20 0 0)), (1, .int (nI n)), (2, .int 2), (3, .int (nI m)), (4, .int la), (5, .int (nI le)), (6, .int ((-1)))] rfl ?_
                      refine g_iload_n X 2 rfl dX8_read_89 ?_
                      refine g_if_ne X 97 (by decide) dX8_read_90 (fun c31 => ?_) (fun c31 => ?_)
                      · refine g_iload_n X 2 rfl dX8_read_97 ?_
                        refine g_iconst X 1 (by decide) dX8_read_98 ?_
                        refine g_icmp_ne X 107 (by decide) dX8_read_99 (fun c32 => ?_) (fun c32 => ?_)
                        · refine g_iload X 5 rfl dX8_read_107 ?_
                          refine g_callS X hR (As := [.int (nI le)]) (rest := []) mX8_length lX8_44 (k_mlen hI V1 le hle) rfl rfl (Nat.le_of_ble_eq_true rfl) ⟨Nat.le_of_ble_eq_true rfl, Nat.le_of_ble_eq_true rfl, Nat.le_of_ble_eq_true rfl, Nat.le_of_ble_eq_true rfl⟩ dX8_read_109 (fun r33 V34 hz_35 => ?_)
                          refine gG_ret hz_35.1 hz_35.2 ?_
                          refine gG_st [.int (nI (nLen le))] rfl ?_
                          refine g_iret X F ?_ rfl dX8_read_112
                          have hval : cRead w.2.1 n 2 = nI (nLen le) := by unfold cRead; rw [hfin]; exact rfl
                          rw [show oRead w (nI n) (nI 2) = (0, nI (nLen le), w) from by unfold oRead; rw [if_pos hxr, if_pos hQ, nI_clamp hn, nI_clamp (by decide), hval]]
                          exact ⟨rfl, by rw [hV1, gup_eq]; rfl, hM1, hm1⟩
                        ·  exact absurd c32 (by decide)
                      ·  exact absurd c31 (by decide)
                  ·  exact absurd c27 (by decide)
                | some k =>
                  obtain ⟨hkn, hbg⟩ := cFind_mem hcf
                  obtain ⟨b1, b2, b3, b4⟩ := beh_ok hw.2.1 ho hcf
                  have h8 := hw.2.1.1
                  refine gG_Le [(0, .ref (B.2.1 20 0 0)), (1, .int (nI n)), (2, .int (nI z)), (3, .int (nI m)), (4, .int la), (5, .int (nI le)), (6, .int (nI k))] (by unfold cFindI; rw [hcf]) ?_
                  refine g_iload X 6 rfl dX8_read_55 ?_
                  refine g_iconst X (-1) (by decide) dX8_read_57 ?_
                  refine g_icmp_eq X 89 (by decide) dX8_read_58 (fun c36 => ?_) (fun c36 => ?_)
                  · first | exact absurd (nI_ne_m1 (by omega)) c36 | exact absurd c36 (nI_ne_m1 (by omega))
                  · refine g_aload_n X 0 rfl dX8_read_61 ?_
                    refine g_iload X 5 rfl dX8_read_62 ?_
                    refine g_iload X 6 rfl dX8_read_64 ?_
                    refine g_callV X hR (rest := []) mX8_behind lX8_71 (k_behind hI V1 w.2.1 le k hM1.2.1 hw.2.1 hle (by omega) hkn b4) rfl rfl (Nat.le_of_ble_eq_true rfl) ⟨by decide, by decide⟩ rfl rfl rfl ⟨Nat.le_of_ble_eq_true rfl, Nat.le_of_ble_eq_true rfl, Nat.le_of_ble_eq_true rfl, Nat.le_of_ble_eq_true rfl⟩ dX8_read_66 (fun r37 V38 hz_39 => ?_)
                    refine gG_ret hz_39.1 hz_39.2 ?_
                    refine gG_st [.int (nI (le % 10 ^ (nLen le - nLen (w.2.1.2 k))))] rfl ?_
                    refine g_istore X dX8_read_69 [(5, .int (nI (le % 10 ^ (nLen le - nLen (w.2.1.2 k))))), (0, .ref (B.2.1 20 0 0)), (1, .int (nI n)), (2, .int (nI z)), (3, .int (nI m)), (4, .int la), (6, .int (nI k))] rfl (gnl_lt hnL (by decide)) ?_
                    refine g_iload X 6 rfl dX8_read_71 ?_
                    refine g_istore X dX8_read_73 [(4, .int (nI k)), (5, .int (nI (le % 10 ^ (nLen le - nLen (w.2.1.2 k))))), (0, .ref (B.2.1 20 0 0)), (1, .int (nI n)), (2, .int (nI z)), (3, .int (nI m)), (6, .int (nI k))] rfl (gnl_lt hnL (by decide)) ?_
                    refine g_iinc X 5 rfl (nI (m + 1)) (iinc_1 _) dX8_read_75 [(3, .int (nI (m + 1))), (4, .int (nI k)), (5, .int (nI (le % 10 ^ (nLen le - nLen (w.2.1.2 k))))), (0, .ref (B.2.1 20 0 0)), (1, .int (nI n)), (2, .int (nI z)), (6, .int (nI k))] rfl (gnl_lt hnL (by decide)) ?_
                    refine g_aload_n X 3 rfl dX8_read_78 ?_
                    refine g_iload X 2 rfl dX8_read_79 ?_
                    refine g_callV X hR (rest := []) mX8_beginning lX8_68 (k_beginning hI V1 w.2.1 (le % 10 ^ (nLen le - nLen (w.2.1.2 k))) hM1.2.1 hw.2.1 (by omega) (by omega)) rfl rfl (Nat.le_of_ble_eq_true rfl) ⟨by decide, by decide⟩ rfl rfl rfl ⟨Nat.le_of_ble_eq_true rfl, Nat.le_of_ble_eq_true rfl, Nat.le_of_ble_eq_true rfl, Nat.le_of_ble_eq_true rfl⟩ dX8_read_81 (fun r40 V41 hz_42 => ?_)
                    refine gG_ret hz_42.1 hz_42.2 ?_
                    refine gG_st [.int (cFindI w.2.1 (le % 10 ^ (nLen le - nLen (w.2.1.2 k))))] rfl ?_
                    refine g_istore X dX8_read_84 [(6, .int (cFindI w.2.1 (le % 10 ^ (nLen le - nLen (w.2.1.2 k))))), (3, .int (nI (m + 1))), (4, .int (nI k)), (5, .int (nI (le % 10 ^ (nLen le - nLen (w.2.1.2 k))))), (0, .ref (B.2.1 20 0 0)), (1, .int (nI n)), (2, .int (nI z))] rfl (gnl_lt hnL (by decide)) ?_
                    refine g_goto X 55 (by decide) dX8_read_86 ?_
                    refine gG_L [4, 5, 6, 1, 2, 3, 0] (L' := [(0, .ref (B.2.1 20 0 0)), (1, .int (nI n)), (2, .int (nI z)), (3, .int (nI (m + 1))), (4, .int (nI k)), (5, .int (nI (le % 10 ^ (nLen le - nLen (w.2.1.2 k))))), (6, .int (cFindI w.2.1 (le % 10 ^ (nLen le - nLen (w.2.1.2 k)))))]) rfl ?_
                    exact ih (m + 1) (nI k) _ (by omega) (by omega) (by rw [hRd, cRd_some hcf]) b1 (by omega)
            exact loop 9 0 (-1) n hok.2 (Nat.le_refl _) rfl hok.1 hn
          ·  exact absurd c14 (by decide)
        · refine gG_top 0 (if_neg (hQ)) ?_
          refine g_if_ne X 39 (by decide) dX8_read_30 (fun c43 => ?_) (fun c43 => ?_)
          ·  exact absurd c43 (by decide)
          · refine g_aload_n X 0 rfl dX8_read_33 ?_
            refine g_iconst X 2 (by decide) dX8_read_34 ?_
            refine g_callV X hR (rest := []) mX8_no lX8_59 (k_no hI V1 2 ) rfl rfl (Nat.le_of_ble_eq_true rfl) ⟨by decide, by decide⟩ rfl rfl rfl ⟨Nat.le_of_ble_eq_true rfl, Nat.le_of_ble_eq_true rfl, Nat.le_of_ble_eq_true rfl, Nat.le_of_ble_eq_true rfl⟩ dX8_read_35 (fun r44 V45 hz_46 => ?_)
            refine gG_rv hz_46.1 ?_
            have hV45 := hz_46.2
            refine gG_st [.int 0] rfl ?_
            refine g_iret X F ?_ rfl dX8_read_38
            rw [show oRead w (nI n) q = (2, 0, w) from (if_pos hxr).trans (if_neg hQ)]
            exact ⟨rfl, by rw [hV45, gup_eq]; rfl, by rw [hV45]; exact hM1.thr _, by rw [hV45]; exact hm1.up (by decide) (by decide)⟩
      · first | exact absurd (by rw [hz0]; rfl) c10 | exact absurd c10 (by rw [hz0]; rfl)
    · skip
      refine g_if_eq X 24 (by decide) dX8_read_6 (fun c47 => ?_) (fun c47 => ?_)
      · first | exact absurd (nI_ne0 (Nat.pos_of_ne_zero hz0) hn) c47 | exact absurd c47 (nI_ne0 (Nat.pos_of_ne_zero hz0) hn)
      · refine g_iload_n X 1 rfl dX8_read_9 ?_
        refine g_bipush X 9 (by decide) dX8_read_10 ?_
        refine g_callS X hR (As := [.int (nI n), .int 9]) (rest := []) mX8_isRow lX8_55 (k_isRow hI V1 n 9 hn (by decide)) rfl rfl (Nat.le_of_ble_eq_true rfl) ⟨Nat.le_of_ble_eq_true rfl, Nat.le_of_ble_eq_true rfl, Nat.le_of_ble_eq_true rfl, Nat.le_of_ble_eq_true rfl⟩ dX8_read_12 (fun r48 V49 hz_50 => ?_)
        refine gG_ret hz_50.1 hz_50.2 ?_
        refine gG_st [.int (if rowB n 9 = true then 1 else 0)] rfl ?_
        by_cases hP : rowB n 9 = true
        · refine gG_top 1 (if_pos (hP)) ?_
          refine g_if_ne X 24 (by decide) dX8_read_15 (fun c51 => ?_) (fun c51 => ?_)
          · obtain ⟨r1, r2, r3⟩ := rowB_iff.mp hP
            have hok : nOk n = true ∧ nLen n ≤ 9 := ⟨r3, r2⟩
            have hxr : nI n = 0 ∨ rowX (nI n) 9 = true := Or.inr (by rw [rowX_nI hn]; exact hP)
            refine g_iload_n X 2 rfl dX8_read_24 ?_
            refine g_iconst X 0 (by decide) dX8_read_25 ?_
            refine g_iconst X 2 (by decide) dX8_read_26 ?_
            refine g_callS X hR (As := [.int q, .int 0, .int 2]) (rest := []) mX8_isIn lX8_48 (k_isIn hI V1 q 0 2 ) rfl rfl (Nat.le_of_ble_eq_true rfl) ⟨Nat.le_of_ble_eq_true rfl, Nat.le_of_ble_eq_true rfl, Nat.le_of_ble_eq_true rfl, Nat.le_of_ble_eq_true rfl⟩ dX8_read_27 (fun r52 V53 hz_54 => ?_)
            refine gG_ret hz_54.1 hz_54.2 ?_
            refine gG_st [.int (if inB q 0 2 then 1 else 0)] rfl ?_
            by_cases hQ : inB q 0 2
            · refine gG_top 1 (if_pos (hQ)) ?_
              refine g_if_ne X 39 (by decide) dX8_read_30 (fun c55 => ?_) (fun c55 => ?_)
              · obtain ⟨z, -, hz, hyz⟩ := (inB_iff (a := 0) (n := 2) (by decide) (by decide)).mp hQ
                subst hyz
                refine g_iconst X 0 (by decide) dX8_read_39 ?_
                refine g_istore_n X rfl dX8_read_40 [(3, .int 0), (0, .ref (B.2.1 20 0 0)), (1, .int (nI n)), (2, .int (nI z))] rfl (gnl_lt hnL (by decide)) ?_
                refine g_iconst X (-1) (by decide) dX8_read_41 ?_
                refine g_istore X dX8_read_42 [(4, .int ((-1))), (3, .int 0), (0, .ref (B.2.1 20 0 0)), (1, .int (nI n)), (2, .int (nI z))] rfl (gnl_lt hnL (by decide)) ?_
                refine g_iload_n X 3 rfl dX8_read_44 ?_
                refine g_istore X dX8_read_45 [(5, .int (nI n)), (4, .int ((-1))), (3, .int 0), (0, .ref (B.2.1 20 0 0)), (1, .int (nI n)), (2, .int (nI z))] rfl (gnl_lt hnL (by decide)) ?_
                refine g_aload_n X 3 rfl dX8_read_47 ?_
                refine g_iload X 0 rfl dX8_read_48 ?_
                refine g_callV X hR (rest := []) mX8_beginning lX8_68 (k_beginning hI V1 w.2.1 n hM1.2.1 hw.2.1 hn hok.2) rfl rfl (Nat.le_of_ble_eq_true rfl) ⟨by decide, by decide⟩ rfl rfl rfl ⟨Nat.le_of_ble_eq_true rfl, Nat.le_of_ble_eq_true rfl, Nat.le_of_ble_eq_true rfl, Nat.le_of_ble_eq_true rfl⟩ dX8_read_50 (fun r56 V57 hz_58 => ?_)
                refine gG_ret hz_58.1 hz_58.2 ?_
                refine gG_st [.int (cFindI w.2.1 n)] rfl ?_
                refine g_istore X dX8_read_53 [(6, .int (cFindI w.2.1 n)), (5, .int (nI n)), (4, .int ((-1))), (3, .int 0), (0, .ref (B.2.1 20 0 0)), (1, .int (nI n)), (2, .int (nI z))] rfl (gnl_lt hnL (by decide)) ?_
                refine gG_L [4, 5, 6, 3, 2, 1, 0] (L' := [(0, .ref (B.2.1 20 0 0)), (1, .int (nI n)), (2, .int (nI z)), (3, .int 0), (4, .int ((-1))), (5, .int (nI n)), (6, .int (cFindI w.2.1 n))]) rfl ?_
                have loop : ∀ (f m : Nat) (la : Int32) (le : Nat), nLen le ≤ f → f ≤ 9 → cRd w.2.1 9 0 (-1) n = cRd w.2.1 f m la le → nOk le = true → le < 2 ^ 31 → gG Z B (0, 0) V1 55 [(0, .ref (B.2.1 20 0 0)), (1, .int (nI n)), (2, .int (nI z)), (3, .int (nI m)), (4, .int la), (5, .int (nI le)), (6, .int (cFindI w.2.1 le))] [] := by
                  intro f
                  induction f with
                  | zero =>
                    intro m la le hl hf9 hRd ho hle
                    have hle0 : le = 0 := Classical.byContradiction (fun q => by have := nLen_pos q; omega)
                    have hcf : cFind w.2.1 le = none := by rw [hle0]; exact cFind_0 hw.2.1
                    have hfin : cRd w.2.1 9 0 (-1) n = (m, la, le) := by rw [hRd]; rfl
                    refine gG_Le [(0, .ref (B.2.1 20 0 0)), (1, .int (nI n)), (2, .int (nI z)), (3, .int (nI m)), (4, .int la), (5, .int (nI le)), (6, .int ((-1)))] (by unfold cFindI; rw [hcf]) ?_
                    refine g_iload X 6 rfl dX8_read_55 ?_
                    refine g_iconst X (-1) (by decide) dX8_read_57 ?_
                    refine g_icmp_eq X 89 (by decide) dX8_read_58 (fun c59 => ?_) (fun c59 => ?_)
                    · rcases (show z = 0 ∨ z = 1 ∨ z = 2 by omega) with rfl | rfl | rfl
                      · refine gG_Le [(0, .ref (B.2.1 20 0 0)), (1, .int (nI n)), (2, .int 0), (3, .int (nI m)), (4, .int la), (5, .int (nI le)), (6, .int ((-1)))] rfl ?_
                        refine g_iload_n X 2 rfl dX8_read_89 ?_
                        refine g_if_ne X 97 (by decide) dX8_read_90 (fun c60 => ?_) (fun c60 => ?_)
                        ·  exact absurd c60 (by decide)
                        · refine g_iload_n X 3 rfl dX8_read_93 ?_
                          refine g_goto X 112 (by decide) dX8_read_94 ?_
                          refine g_iret X F ?_ rfl dX8_read_112
                          have hval : cRead w.2.1 n 0 = nI m := by unfold cRead; rw [hfin]; exact rfl
                          rw [show oRead w (nI n) (nI 0) = (0, nI m, w) from by unfold oRead; rw [if_pos hxr, if_pos hQ, nI_clamp hn, nI_clamp (by decide), hval]]
                          exact ⟨rfl, by rw [hV1, gup_eq]; rfl, hM1, hm1⟩
                      · refine gG_Le [(0, .ref (B.2.1 20 0 0)), (1, .int (nI n)), (2, .int 1), (3, .int (nI m)), (4, .int la), (5, .int (nI le)), (6, .int ((-1)))] rfl ?_
                        refine g_iload_n X 2 rfl dX8_read_89 ?_
                        refine g_if_ne X 97 (by decide) dX8_read_90 (fun c61 => ?_) (fun c61 => ?_)
                        · refine g_iload_n X 2 rfl dX8_read_97 ?_
                          refine g_iconst X 1 (by decide) dX8_read_98 ?_
                          refine g_icmp_ne X 107 (by decide) dX8_read_99 (fun c62 => ?_) (fun c62 => ?_)
                          ·  exact absurd c62 (by decide)
                          · refine g_iload X 4 rfl dX8_read_102 ?_
                            refine g_goto X 112 (by decide) dX8_read_104 ?_
                            refine g_iret X F ?_ rfl dX8_read_112
                            have hval : cRead w.2.1 n 1 = la := by unfold cRead; rw [hfin]; exact rfl
                            rw [show oRead w (nI n) (nI 1) = (0, la, w) from by unfold oRead; rw [if_pos hxr, if_pos hQ, nI_clamp hn, nI_clamp (by decide), hval]]
                            exact ⟨rfl, by rw [hV1, gup_eq]; rfl, hM1, hm1⟩
                        ·  exact absurd c61 (by decide)
                      · refine gG_Le [(0, .ref (B.2.1 20 0 0)), (1, .int (nI n)), (2, .int 2), (3, .int (nI m)), (4, .int la), (5, .int (nI le)), (6, .int ((-1)))] rfl ?_
                        refine g_iload_n X 2 rfl dX8_read_89 ?_
                        refine g_if_ne X 97 (by decide) dX8_read_90 (fun c63 => ?_) (fun c63 => ?_)
                        · refine g_iload_n X 2 rfl dX8_read_97 ?_
                          refine g_iconst X 1 (by decide) dX8_read_98 ?_
                          refine g_icmp_ne X 107 (by decide) dX8_read_99 (fun c64 => ?_) (fun c64 => ?_)
                          · refine g_iload X 5 rfl dX8_read_107 ?_
                            refine g_callS X hR (As := [.int (nI le)]) (rest := []) mX8_length lX8_44 (k_mlen hI V1 le hle) rfl rfl (Nat.le_of_ble_eq_true rfl) ⟨Nat.le_of_ble_eq_true rfl, Nat.le_of_ble_eq_true rfl, Nat.le_of_ble_eq_true rfl, Nat.le_of_ble_eq_true rfl⟩ dX8_read_109 (fun r65 V66 hz_67 => ?_)
                            refine gG_ret hz_67.1 hz_67.2 ?_
                            refine gG_st [.int (nI (nLen le))] rfl ?_
                            refine g_iret X F ?_ rfl dX8_read_112
                            have hval : cRead w.2.1 n 2 = nI (nLen le) := by unfold cRead; rw [hfin]; exact rfl
                            rw [show oRead w (nI n) (nI 2) = (0, nI (nLen le), w) from by unfold oRead; rw [if_pos hxr, if_pos hQ, nI_clamp hn, nI_clamp (by decide), hval]]
                            exact ⟨rfl, by rw [hV1, gup_eq]; rfl, hM1, hm1⟩
                          ·  exact absurd c64 (by decide)
                        ·  exact absurd c63 (by decide)
                    ·  exact absurd c59 (by decide)
                  | succ f ih =>
                    intro m la le hl hf9 hRd ho hle
                    cases hcf : cFind w.2.1 le with
                    | none =>
                      have hfin : cRd w.2.1 9 0 (-1) n = (m, la, le) := by rw [hRd]; exact cRd_none hcf _ _ _
                      refine gG_Le [(0, .ref (B.2.1 20 0 0)), (1, .int (nI n)), (2, .int (nI z)), (3, .int (nI m)), (4, .int la), (5, .int (nI le)), (6, .int ((-1)))] (by unfold cFindI; rw [hcf]) ?_
                      refine g_iload X 6 rfl dX8_read_55 ?_
                      refine g_iconst X (-1) (by decide) dX8_read_57 ?_
                      refine g_icmp_eq X 89 (by decide) dX8_read_58 (fun c68 => ?_) (fun c68 => ?_)
                      · rcases (show z = 0 ∨ z = 1 ∨ z = 2 by omega) with rfl | rfl | rfl
                        · refine gG_Le [(0, .ref (B.2.1 20 0 0)), (1, .int (nI n)), (2, .int 0), (3, .int (nI m)), (4, .int la), (5, .int (nI le)), (6, .int ((-1)))] rfl ?_
                          refine g_iload_n X 2 rfl dX8_read_89 ?_
                          refine g_if_ne X 97 (by decide) dX8_read_90 (fun c69 => ?_) (fun c69 => ?_)
                          ·  exact absurd c69 (by decide)
                          · refine g_iload_n X 3 rfl dX8_read_93 ?_
                            refine g_goto X 112 (by decide) dX8_read_94 ?_
                            refine g_iret X F ?_ rfl dX8_read_112
                            have hval : cRead w.2.1 n 0 = nI m := by unfold cRead; rw [hfin]; exact rfl
                            rw [show oRead w (nI n) (nI 0) = (0, nI m, w) from by unfold oRead; rw [if_pos hxr, if_pos hQ, nI_clamp hn, nI_clamp (by decide), hval]]
                            exact ⟨rfl, by rw [hV1, gup_eq]; rfl, hM1, hm1⟩
                        · refine gG_Le [(0, .ref (B.2.1 20 0 0)), (1, .int (nI n)), (2, .int 1), (3, .int (nI m)), (4, .int la), (5, .int (nI le)), (6, .int ((-1)))] rfl ?_
                          refine g_iload_n X 2 rfl dX8_read_89 ?_
                          refine g_if_ne X 97 (by decide) dX8_read_90 (fun c70 => ?_) (fun c70 => ?_)
                          · refine g_iload_n X 2 rfl dX8_read_97 ?_
                            refine g_iconst X 1 (by decide) dX8_read_98 ?_
                            refine g_icmp_ne X 107 (by decide) dX8_read_99 (fun c71 => ?_) (fun c71 => ?_)
                            ·  exact absurd c71 (by decide)
                            · refine g_iload X 4 rfl dX8_read_102 ?_
                              refine g_goto X 112 (by decide) dX8_read_104 ?_
                              refine g_iret X F ?_ rfl dX8_read_112
                              have hval : cRead w.2.1 n 1 = la := by unfold cRead; rw [hfin]; exact rfl
                              rw [show oRead w (nI n) (nI 1) = (0, la, w) from by unfold oRead; rw [if_pos hxr, if_pos hQ, nI_clamp hn, nI_clamp (by decide), hval]]
                              exact ⟨rfl, by rw [hV1, gup_eq]; rfl, hM1, hm1⟩
                          ·  exact absurd c70 (by decide)
                        · refine gG_Le [(0, .ref (B.2.1 20 0 0)), (1, .int (nI n)), (2, .int 2), (3, .int (nI m)), (4, .int la), (5, .int (nI le)), (6, .int ((-1)))] rfl ?_
                          refine g_iload_n X 2 rfl dX8_read_89 ?_
                          refine g_if_ne X 97 (by decide) dX8_read_90 (fun c72 => ?_) (fun c72 => ?_)
                          · refine g_iload_n X 2 rfl dX8_read_97 ?_
                            refine g_iconst X 1 (by decide) dX8_read_98 ?_
                            refine g_icmp_ne X 107 (by decide) dX8_read_99 (fun c73 => ?_) (fun c73 => ?_)
                            · refine g_iload X 5 rfl dX8_read_107 ?_
                              refine g_callS X hR (As := [.int (nI le)]) (rest := []) mX8_length lX8_44 (k_mlen hI V1 le hle) rfl rfl (Nat.le_of_ble_eq_true rfl) ⟨Nat.le_of_ble_eq_true rfl, Nat.le_of_ble_eq_true rfl, Nat.le_of_ble_eq_true rfl, Nat.le_of_ble_eq_true rfl⟩ dX8_read_109 (fun r74 V75 hz_76 => ?_)
                              refine gG_ret hz_76.1 hz_76.2 ?_
                              refine gG_st [.int (nI (nLen le))] rfl ?_
                              refine g_iret X F ?_ rfl dX8_read_112
                              have hval : cRead w.2.1 n 2 = nI (nLen le) := by unfold cRead; rw [hfin]; exact rfl
                              rw [show oRead w (nI n) (nI 2) = (0, nI (nLen le), w) from by unfold oRead; rw [if_pos hxr, if_pos hQ, nI_clamp hn, nI_clamp (by decide), hval]]
                              exact ⟨rfl, by rw [hV1, gup_eq]; rfl, hM1, hm1⟩
                            ·  exact absurd c73 (by decide)
                          ·  exact absurd c72 (by decide)
                      ·  exact absurd c68 (by decide)
                    | some k =>
                      obtain ⟨hkn, hbg⟩ := cFind_mem hcf
                      obtain ⟨b1, b2, b3, b4⟩ := beh_ok hw.2.1 ho hcf
                      have h8 := hw.2.1.1
                      refine gG_Le [(0, .ref (B.2.1 20 0 0)), (1, .int (nI n)), (2, .int (nI z)), (3, .int (nI m)), (4, .int la), (5, .int (nI le)), (6, .int (nI k))] (by unfold cFindI; rw [hcf]) ?_
                      refine g_iload X 6 rfl dX8_read_55 ?_
                      refine g_iconst X (-1) (by decide) dX8_read_57 ?_
                      refine g_icmp_eq X 89 (by decide) dX8_read_58 (fun c77 => ?_) (fun c77 => ?_)
                      · first | exact absurd (nI_ne_m1 (by omega)) c77 | exact absurd c77 (nI_ne_m1 (by omega))
                      · refine g_aload_n X 0 rfl dX8_read_61 ?_
                        refine g_iload X 5 rfl dX8_read_62 ?_
                        refine g_iload X 6 rfl dX8_read_64 ?_
                        refine g_callV X hR (rest := []) mX8_behind lX8_71 (k_behind hI V1 w.2.1 le k hM1.2.1 hw.2.1 hle (by omega) hkn b4) rfl rfl (Nat.le_of_ble_eq_true rfl) ⟨by decide, by decide⟩ rfl rfl rfl ⟨Nat.le_of_ble_eq_true rfl, Nat.le_of_ble_eq_true rfl, Nat.le_of_ble_eq_true rfl, Nat.le_of_ble_eq_true rfl⟩ dX8_read_66 (fun r78 V79 hz_80 => ?_)
                        refine gG_ret hz_80.1 hz_80.2 ?_
                        refine gG_st [.int (nI (le % 10 ^ (nLen le - nLen (w.2.1.2 k))))] rfl ?_
                        refine g_istore X dX8_read_69 [(5, .int (nI (le % 10 ^ (nLen le - nLen (w.2.1.2 k))))), (0, .ref (B.2.1 20 0 0)), (1, .int (nI n)), (2, .int (nI z)), (3, .int (nI m)), (4, .int la), (6, .int (nI k))] rfl (gnl_lt hnL (by decide)) ?_
                        refine g_iload X 6 rfl dX8_read_71 ?_
                        refine g_istore X dX8_read_73 [(4, .int (nI k)), (5, .int (nI (le % 10 ^ (nLen le - nLen (w.2.1.2 k))))), (0, .ref (B.2.1 20 0 0)), (1, .int (nI n)), (2, .int (nI z)), (3, .int (nI m)), (6, .int (nI k))] rfl (gnl_lt hnL (by decide)) ?_
                        refine g_iinc X 5 rfl (nI (m + 1)) (iinc_1 _) dX8_read_75 [(3, .int (nI (m + 1))), (4, .int (nI k)), (5, .int (nI (le % 10 ^ (nLen le - nLen (w.2.1.2 k))))), (0, .ref (B.2.1 20 0 0)), (1, .int (nI n)), (2, .int (nI z)), (6, .int (nI k))] rfl (gnl_lt hnL (by decide)) ?_
                        refine g_aload_n X 3 rfl dX8_read_78 ?_
                        refine g_iload X 2 rfl dX8_read_79 ?_
                        refine g_callV X hR (rest := []) mX8_beginning lX8_68 (k_beginning hI V1 w.2.1 (le % 10 ^ (nLen le - nLen (w.2.1.2 k))) hM1.2.1 hw.2.1 (by omega) (by omega)) rfl rfl (Nat.le_of_ble_eq_true rfl) ⟨by decide, by decide⟩ rfl rfl rfl ⟨Nat.le_of_ble_eq_true rfl, Nat.le_of_ble_eq_true rfl, Nat.le_of_ble_eq_true rfl, Nat.le_of_ble_eq_true rfl⟩ dX8_read_81 (fun r81 V82 hz_83 => ?_)
                        refine gG_ret hz_83.1 hz_83.2 ?_
                        refine gG_st [.int (cFindI w.2.1 (le % 10 ^ (nLen le - nLen (w.2.1.2 k))))] rfl ?_
                        refine g_istore X dX8_read_84 [(6, .int (cFindI w.2.1 (le % 10 ^ (nLen le - nLen (w.2.1.2 k))))), (3, .int (nI (m + 1))), (4, .int (nI k)), (5, .int (nI (le % 10 ^ (nLen le - nLen (w.2.1.2 k))))), (0, .ref (B.2.1 20 0 0)), (1, .int (nI n)), (2, .int (nI z))] rfl (gnl_lt hnL (by decide)) ?_
                        refine g_goto X 55 (by decide) dX8_read_86 ?_
                        refine gG_L [4, 5, 6, 1, 2, 3, 0] (L' := [(0, .ref (B.2.1 20 0 0)), (1, .int (nI n)), (2, .int (nI z)), (3, .int (nI (m + 1))), (4, .int (nI k)), (5, .int (nI (le % 10 ^ (nLen le - nLen (w.2.1.2 k))))), (6, .int (cFindI w.2.1 (le % 10 ^ (nLen le - nLen (w.2.1.2 k)))))]) rfl ?_
                        exact ih (m + 1) (nI k) _ (by omega) (by omega) (by rw [hRd, cRd_some hcf]) b1 (by omega)
                exact loop 9 0 (-1) n hok.2 (Nat.le_refl _) rfl hok.1 hn
              ·  exact absurd c55 (by decide)
            · refine gG_top 0 (if_neg (hQ)) ?_
              refine g_if_ne X 39 (by decide) dX8_read_30 (fun c84 => ?_) (fun c84 => ?_)
              ·  exact absurd c84 (by decide)
              · refine g_aload_n X 0 rfl dX8_read_33 ?_
                refine g_iconst X 2 (by decide) dX8_read_34 ?_
                refine g_callV X hR (rest := []) mX8_no lX8_59 (k_no hI V1 2 ) rfl rfl (Nat.le_of_ble_eq_true rfl) ⟨by decide, by decide⟩ rfl rfl rfl ⟨Nat.le_of_ble_eq_true rfl, Nat.le_of_ble_eq_true rfl, Nat.le_of_ble_eq_true rfl, Nat.le_of_ble_eq_true rfl⟩ dX8_read_35 (fun r85 V86 hz_87 => ?_)
                refine gG_rv hz_87.1 ?_
                have hV86 := hz_87.2
                refine gG_st [.int 0] rfl ?_
                refine g_iret X F ?_ rfl dX8_read_38
                rw [show oRead w (nI n) q = (2, 0, w) from (if_pos hxr).trans (if_neg hQ)]
                exact ⟨rfl, by rw [hV86, gup_eq]; rfl, by rw [hV86]; exact hM1.thr _, by rw [hV86]; exact hm1.up (by decide) (by decide)⟩
          ·  exact absurd c51 (by decide)
        · refine gG_top 0 (if_neg (hP)) ?_
          refine g_if_ne X 24 (by decide) dX8_read_15 (fun c88 => ?_) (fun c88 => ?_)
          ·  exact absurd c88 (by decide)
          · refine g_aload_n X 0 rfl dX8_read_18 ?_
            refine g_iconst X 1 (by decide) dX8_read_19 ?_
            refine g_callV X hR (rest := []) mX8_no lX8_59 (k_no hI V1 1 ) rfl rfl (Nat.le_of_ble_eq_true rfl) ⟨by decide, by decide⟩ rfl rfl rfl ⟨Nat.le_of_ble_eq_true rfl, Nat.le_of_ble_eq_true rfl, Nat.le_of_ble_eq_true rfl, Nat.le_of_ble_eq_true rfl⟩ dX8_read_20 (fun r89 V90 hz_91 => ?_)
            refine gG_rv hz_91.1 ?_
            have hV90 := hz_91.2
            refine gG_st [.int 0] rfl ?_
            refine g_iret X F ?_ rfl dX8_read_23
            rw [show oRead w (nI n) q = (1, 0, w) from if_neg (fun z => z.elim (fun z => nI_ne0 (Nat.pos_of_ne_zero hz0) hn z) (fun z => hP (by rw [rowX_nI hn] at z; exact z)))]
            exact ⟨rfl, by rw [hV90, gup_eq]; rfl, by rw [hV90]; exact hM1.thr _, by rw [hV90]; exact hm1.up (by decide) (by decide)⟩

