/-! a cart comes, in the reference -/
/-- a cart's ten numbers laid into the state -/
def layN (V : gMem) (n : Nat) (f : Nat → Int32) : gMem := fun K b i j => if K = 24 ∧ b = 0 ∧ i = 0 ∧ 10 * n ≤ j ∧ j < 10 * n + 10 then f (j - 10 * n) else V K b i j
theorem layN_off {V : gMem} {n : Nat} {f : Nat → Int32} {K b i : Nat} (h : ¬ (K = 24 ∧ b = 0 ∧ i = 0)) : layN V n f K b i = V K b i := by
  funext j
  exact if_neg (fun q => h ⟨q.1, q.2.1, q.2.2.1⟩)
theorem layN_in {V : gMem} {n : Nat} {f : Nat → Int32} {x : Nat} (h : x < 10) : layN V n f 24 0 0 (10 * n + x) = f x := by
  show (if _ then _ else _) = _
  rw [if_pos ⟨rfl, rfl, rfl, by omega, by omega⟩]
  exact congrArg f (by omega)
theorem layN_out {V : gMem} {n : Nat} {f : Nat → Int32} {j : Nat} (h : ¬ (10 * n ≤ j ∧ j < 10 * n + 10)) : layN V n f 24 0 0 j = V 24 0 0 j := if_neg (fun q => h q.2.2.2)
theorem layN_is {V V1 : gMem} {n : Nat} {f g : Nat → Int32} (hm : m29 V V1) (hg : ∀ x, x < 10 → g x = f x) : ∀ K, K ≠ 29 → gset V1 24 0 0 (va_cpy g (V1 24 0 0) 0 (10 * n) 10) K = layN V n f K := by
  intro K hK
  funext b i j
  by_cases h : K = 24 ∧ b = 0 ∧ i = 0
  · obtain ⟨rfl, rfl, rfl⟩ := h
    rw [gset_eq]
    by_cases hj : 10 * n ≤ j ∧ j < 10 * n + 10
    · rw [pk_cpy_in hj.1 hj.2, show layN V n f 24 0 0 j = f (j - 10 * n) from if_pos ⟨rfl, rfl, rfl, hj.1, hj.2⟩, Nat.zero_add]
      exact hg _ (by omega)
    · rw [pk_cpy_out (by omega), layN_out hj, hm.dr (by decide)]
  · rw [gset_ne h, layN_off h, hm.dr hK]
theorem AbsM.lay {V : gMem} {S : gSt} {f : Nat → Int32} (h : AbsM V 0 S) : AbsM (layN V (S.1 6) f) 0 S := by
  obtain ⟨a, b, c, d, y, z⟩ := h
  refine ⟨by rw [layN_off (by simp)]; exact a, fun i hi g hg => by rw [layN_out (by omega)]; exact b i hi g hg, ⟨fun i hi h8 => by rw [layN_off (by simp)]; exact c.1 i hi h8, fun p hp hn => by rw [layN_off (by simp)]; exact c.2 p hp hn⟩, fun x hx => ?_, fun x hx => by rw [layN_off (by simp)]; exact y x hx, ?_⟩
  · have q := d x hx
    exact ⟨by rw [layN_off (by simp)]; exact q.1, q.2.1, fun j hj => by rw [layN_off (by simp)]; exact q.2.2 j hj⟩
  · unfold NumM
    rw [layN_off (by simp)]; exact z
theorem WF.qlen {S : gSt} (h : WF S) {e : Nat} (he : e < 2) : (S.2.1 e).length ≤ S.1 6 := nodup_le (S.1 6) _ (h.2.2.1 e he).1 (fun x hx => (h.qmem he hx).1)

abbrev rmX8_come : Room := { frames := 2, cells := 1, slots := 10, locals := 64 }
set_option maxRecDepth 20000 in
theorem k_Mcome {l : Launch} {B : gB} (hI : gI B) (V : gMem) (w : gWd) (e : Int32) (ax : Int32) (wt : Int32) (pc : Int32) (cn : Int32) (c : Nat) (hM : MOk V w) (hw : wOk w) (hc : c ≤ 1) (h0 : B.2.2.2.2 = 0) : gM l B yX8_come cX8_come 8 (some .int) rmX8_come [.ref (B.2.1 20 0 0), .int e, .int ax, .int wt, .int pc, .int cn, .int (nI c)] V (fun v V' => v = some (.int (oCome w e ax wt pc cn (nI c)).2.1) ∧ V' 20 0 0 0 = nI (oCome w e ax wt pc cn (nI c)).1 ∧ MOk V' (oCome w e ax wt pc cn (nI c)).2.2 ∧ mmod V V') := by
  refine gM_of (own := RX8) (L := [(0, .ref (B.2.1 20 0 0)), (1, .int e), (2, .int ax), (3, .int wt), (4, .int pc), (5, .int cn), (6, .int (nI c))]) (by decide +kernel) rfl hI (Nat.le_of_ble_eq_true rfl) rfl ?_
  intro Z hnL hR X F
  have hN : w.1.1 6 ≤ 16 := hw.1.1.2.2.2.2.2
  refine g_aload_n X 0 rfl dX8_come_0 ?_
  refine g_iconst X 0 (by decide) dX8_come_1 ?_
  refine gp_X8_thrown X ⟨by decide, by decide⟩ fX8_41 dX8_come_2 ?_
  refine gG_nm (fun V1 hV1 => ?_)
  have hM1 : MOk V1 w := by rw [hV1]; exact hM.thr 0
  have hm1 : mmod V V1 := by rw [hV1]; exact mmod.rf.up (by decide) (by decide)
  refine g_iload_n X 1 rfl dX8_come_5 ?_
  refine g_iconst X 0 (by decide) dX8_come_6 ?_
  refine g_iconst X 1 (by decide) dX8_come_7 ?_
  refine g_callS X hR (As := [.int e, .int 0, .int 1]) (rest := []) mX8_isIn lX8_48 (k_isIn hI V1 e 0 1 ) rfl rfl (Nat.le_of_ble_eq_true rfl) ⟨Nat.le_of_ble_eq_true rfl, Nat.le_of_ble_eq_true rfl, Nat.le_of_ble_eq_true rfl, Nat.le_of_ble_eq_true rfl⟩ dX8_come_8 (fun r2 V3 hz_4 => ?_)
  refine gG_ret hz_4.1 hz_4.2 ?_
  refine gG_st [.int (if inB e 0 1 then 1 else 0)] rfl ?_
  by_cases h1 : ixB e 2
  · refine gG_top 1 (if_pos ((inB_ix (n := 1) (by decide)).mpr h1)) ?_
    refine g_if_eq X 55 (by decide) dX8_come_11 (fun c5 => ?_) (fun c5 => ?_)
    ·  exact absurd c5 (by decide)
    · refine g_iload_n X 2 rfl dX8_come_14 ?_
      refine g_iconst X 1 (by decide) dX8_come_15 ?_
      refine g_iconst X 4 (by decide) dX8_come_16 ?_
      refine g_callS X hR (As := [.int ax, .int 1, .int 4]) (rest := []) mX8_isIn lX8_48 (k_isIn hI V1 ax 1 4 ) rfl rfl (Nat.le_of_ble_eq_true rfl) ⟨Nat.le_of_ble_eq_true rfl, Nat.le_of_ble_eq_true rfl, Nat.le_of_ble_eq_true rfl, Nat.le_of_ble_eq_true rfl⟩ dX8_come_17 (fun r6 V7 hz_8 => ?_)
      refine gG_ret hz_8.1 hz_8.2 ?_
      refine gG_st [.int (if inB ax 1 4 then 1 else 0)] rfl ?_
      by_cases h2 : inB ax 1 4
      · refine gG_top 1 (if_pos (h2)) ?_
        refine g_if_eq X 55 (by decide) dX8_come_20 (fun c9 => ?_) (fun c9 => ?_)
        ·  exact absurd c9 (by decide)
        · refine g_iload_n X 3 rfl dX8_come_23 ?_
          refine g_iconst X 1 (by decide) dX8_come_24 ?_
          refine g_sipush X 200 (by decide) dX8_come_25 ?_
          refine g_callS X hR (As := [.int wt, .int 1, .int 200]) (rest := []) mX8_isIn lX8_48 (k_isIn hI V1 wt 1 200 ) rfl rfl (Nat.le_of_ble_eq_true rfl) ⟨Nat.le_of_ble_eq_true rfl, Nat.le_of_ble_eq_true rfl, Nat.le_of_ble_eq_true rfl, Nat.le_of_ble_eq_true rfl⟩ dX8_come_28 (fun r10 V11 hz_12 => ?_)
          refine gG_ret hz_12.1 hz_12.2 ?_
          refine gG_st [.int (if inB wt 1 200 then 1 else 0)] rfl ?_
          by_cases h3 : inB wt 1 200
          · refine gG_top 1 (if_pos (h3)) ?_
            refine g_if_eq X 55 (by decide) dX8_come_31 (fun c13 => ?_) (fun c13 => ?_)
            ·  exact absurd c13 (by decide)
            · refine g_iload X 4 rfl dX8_come_34 ?_
              refine g_iconst X 1 (by decide) dX8_come_36 ?_
              refine g_iconst X 3 (by decide) dX8_come_37 ?_
              refine g_callS X hR (As := [.int pc, .int 1, .int 3]) (rest := []) mX8_isIn lX8_48 (k_isIn hI V1 pc 1 3 ) rfl rfl (Nat.le_of_ble_eq_true rfl) ⟨Nat.le_of_ble_eq_true rfl, Nat.le_of_ble_eq_true rfl, Nat.le_of_ble_eq_true rfl, Nat.le_of_ble_eq_true rfl⟩ dX8_come_38 (fun r14 V15 hz_16 => ?_)
              refine gG_ret hz_16.1 hz_16.2 ?_
              refine gG_st [.int (if inB pc 1 3 then 1 else 0)] rfl ?_
              by_cases h4 : inB pc 1 3
              · refine gG_top 1 (if_pos (h4)) ?_
                refine g_if_eq X 55 (by decide) dX8_come_41 (fun c17 => ?_) (fun c17 => ?_)
                ·  exact absurd c17 (by decide)
                · refine g_iload X 5 rfl dX8_come_44 ?_
                  refine g_iconst X 0 (by decide) dX8_come_46 ?_
                  refine g_bipush X 100 (by decide) dX8_come_47 ?_
                  refine g_callS X hR (As := [.int cn, .int 0, .int 100]) (rest := []) mX8_isIn lX8_48 (k_isIn hI V1 cn 0 100 ) rfl rfl (Nat.le_of_ble_eq_true rfl) ⟨Nat.le_of_ble_eq_true rfl, Nat.le_of_ble_eq_true rfl, Nat.le_of_ble_eq_true rfl, Nat.le_of_ble_eq_true rfl⟩ dX8_come_49 (fun r18 V19 hz_20 => ?_)
                  refine gG_ret hz_20.1 hz_20.2 ?_
                  refine gG_st [.int (if inB cn 0 100 then 1 else 0)] rfl ?_
                  by_cases h5 : inB cn 0 100
                  · refine gG_top 1 (if_pos (h5)) ?_
                    refine g_if_ne X 61 (by decide) dX8_come_52 (fun c21 => ?_) (fun c21 => ?_)
                    · obtain ⟨j1, a1, q1⟩ := (ixB_iff (n := 2) (by decide)).mp h1
                      obtain ⟨j2, b1, b2, q2⟩ := (inB_iff (a := 1) (n := 4) (by decide) (by decide)).mp h2
                      obtain ⟨j3, c1, c2, q3⟩ := (inB_iff (a := 1) (n := 200) (by decide) (by decide)).mp h3
                      obtain ⟨j4, d1, d2, q4⟩ := (inB_iff (a := 1) (n := 3) (by decide) (by decide)).mp h4
                      obtain ⟨j5, e1, e2, q5⟩ := (inB_iff (a := 0) (n := 100) (by decide) (by decide)).mp h5
                      subst q1; subst q2; subst q3; subst q4; subst q5
                      refine g_aload_n X 0 rfl dX8_come_61 ?_
                      refine gg_X8_s X ⟨by decide, by decide⟩ fX8_34 dX8_come_62 ?_
                      refine gg_X7_carts X ⟨by decide, by decide⟩ fX8_91 dX8_come_65 ?_
                      refine gG_top (nI (w.1.1 6)) (hM1.1.1.2.2) ?_
                      refine g_bipush X 16 (by decide) dX8_come_68 ?_
                      by_cases h16 : w.1.1 6 = 16
                      · skip
                        refine g_icmp_ne X 79 (by decide) dX8_come_70 (fun c22 => ?_) (fun c22 => ?_)
                        · first | exact absurd (fun z => z (by rw [h16]; rfl)) c22 | exact absurd c22 (fun z => z (by rw [h16]; rfl))
                        · refine g_aload_n X 0 rfl dX8_come_73 ?_
                          refine g_iconst X 2 (by decide) dX8_come_74 ?_
                          refine g_callV X hR (rest := []) mX8_no lX8_59 (k_no hI V1 2 ) rfl rfl (Nat.le_of_ble_eq_true rfl) ⟨by decide, by decide⟩ rfl rfl rfl ⟨Nat.le_of_ble_eq_true rfl, Nat.le_of_ble_eq_true rfl, Nat.le_of_ble_eq_true rfl, Nat.le_of_ble_eq_true rfl⟩ dX8_come_75 (fun r23 V24 hz_25 => ?_)
                          refine gG_rv hz_25.1 ?_
                          have hV24 := hz_25.2
                          refine gG_st [.int 0] rfl ?_
                          refine g_widen (1, 10) (by first | decide | omega) (by first | decide | omega) ?_
                          refine g_iret X F ?_ rfl dX8_come_78
                          rw [show oCome w (nI j1) (nI j2) (nI j3) (nI j4) (nI j5) (nI c) = (2, 0, w) from (if_pos ⟨h1, h2, h3, h4, h5⟩).trans (if_pos h16)]
                          exact ⟨rfl, by rw [hV24, gup_eq]; rfl, by rw [hV24]; exact hM1.thr _, by rw [hV24]; exact hm1.up (by decide) (by decide)⟩
                      · skip
                        refine g_icmp_ne X 79 (by decide) dX8_come_70 (fun c26 => ?_) (fun c26 => ?_)
                        · refine g_bipush X 10 (by decide) dX8_come_79 ?_
                          have X0 := X
                          have hI0 := hI
                          refine g_newS X hR 10 rfl (by decide) (by decide) h0 ⟨Nat.le_of_ble_eq_true rfl, Nat.le_of_ble_eq_true rfl⟩ dX8_come_81 (fun a9 ha9 X => ?_)
                          have hI := gX_I X
                          refine gG_n (1, 10) rfl ?_
                          refine gG_Le [(0, .ref ((gBs B a9 10).2.1 20 0 0)), (1, .int (nI j1)), (2, .int (nI j2)), (3, .int (nI j3)), (4, .int (nI j4)), (5, .int (nI j5)), (6, .int (nI c))] rfl ?_
                          refine gG_st [.ref ((gBs B a9 10).2.1 29 0 0)] rfl ?_
                          refine gG_nm (fun V27 hV27 => ?_)
                          have mV27 : m29 V1 V27 := by rw [hV27]; exact m29.gz
                          refine g_dup X rfl dX8_come_83 ?_
                          refine g_iconst X 0 (by decide) dX8_come_84 ?_
                          refine g_iload_n X 2 rfl dX8_come_85 ?_
                          refine g_iastNX X (N := 10) (0) (by decide) (by decide) (by decide) (gPs (by decide)) (fun _ => rfl) dX8_come_86 ?_
                          refine gG_nm (fun V28 hV28 => ?_)
                          have mV28 : m29 V1 V28 := by rw [hV28]; exact mV27.up
                          refine g_dup X rfl dX8_come_87 ?_
                          refine g_iconst X 1 (by decide) dX8_come_88 ?_
                          refine g_iload_n X 3 rfl dX8_come_89 ?_
                          refine g_iastNX X (N := 10) (1) (by decide) (by decide) (by decide) (gPs (by decide)) (fun _ => rfl) dX8_come_90 ?_
                          refine gG_nm (fun V29 hV29 => ?_)
                          have mV29 : m29 V1 V29 := by rw [hV29]; exact mV28.up
                          refine g_dup X rfl dX8_come_91 ?_
                          refine g_iconst X 2 (by decide) dX8_come_92 ?_
                          refine g_iload X 4 rfl dX8_come_93 ?_
                          refine g_iastNX X (N := 10) (2) (by decide) (by decide) (by decide) (gPs (by decide)) (fun _ => rfl) dX8_come_95 ?_
                          refine gG_nm (fun V30 hV30 => ?_)
                          have mV30 : m29 V1 V30 := by rw [hV30]; exact mV29.up
                          refine g_dup X rfl dX8_come_96 ?_
                          refine g_iconst X 3 (by decide) dX8_come_97 ?_
                          refine g_iload X 5 rfl dX8_come_98 ?_
                          refine g_iastNX X (N := 10) (3) (by decide) (by decide) (by decide) (gPs (by decide)) (fun _ => rfl) dX8_come_100 ?_
                          refine gG_nm (fun V31 hV31 => ?_)
                          have mV31 : m29 V1 V31 := by rw [hV31]; exact mV30.up
                          refine g_dup X rfl dX8_come_101 ?_
                          refine g_iconst X 4 (by decide) dX8_come_102 ?_
                          refine g_iload_n X 1 rfl dX8_come_103 ?_
                          refine g_iastNX X (N := 10) (4) (by decide) (by decide) (by decide) (gPs (by decide)) (fun _ => rfl) dX8_come_104 ?_
                          refine gG_nm (fun V32 hV32 => ?_)
                          have mV32 : m29 V1 V32 := by rw [hV32]; exact mV31.up
                          refine g_dup X rfl dX8_come_105 ?_
                          refine g_iconst X 5 (by decide) dX8_come_106 ?_
                          refine g_iconst X 0 (by decide) dX8_come_107 ?_
                          refine g_iastNX X (N := 10) (5) (by decide) (by decide) (by decide) (gPs (by decide)) (fun _ => rfl) dX8_come_108 ?_
                          refine gG_nm (fun V33 hV33 => ?_)
                          have mV33 : m29 V1 V33 := by rw [hV33]; exact mV32.up
                          refine g_dup X rfl dX8_come_109 ?_
                          refine g_bipush X 6 (by decide) dX8_come_110 ?_
                          refine g_iconst X (-1) (by decide) dX8_come_112 ?_
                          refine g_iastNX X (N := 10) (6) (by decide) (by decide) (by decide) (gPs (by decide)) (fun _ => rfl) dX8_come_113 ?_
                          refine gG_nm (fun V34 hV34 => ?_)
                          have mV34 : m29 V1 V34 := by rw [hV34]; exact mV33.up
                          refine g_dup X rfl dX8_come_114 ?_
                          refine g_bipush X 7 (by decide) dX8_come_115 ?_
                          refine g_iload X 6 rfl dX8_come_117 ?_
                          rcases (show c = 0 ∨ c = 1 by omega) with rfl | rfl
                          · refine gG_top 0 rfl ?_
                            refine g_if_eq X 126 (by decide) dX8_come_119 (fun c35 => ?_) (fun c35 => ?_)
                            · refine g_iconst X 0 (by decide) dX8_come_126 ?_
                              refine g_iastNX X (N := 10) (7) (by decide) (by decide) (by decide) (gPs (by decide)) (fun _ => rfl) dX8_come_127 ?_
                              refine gG_nm (fun V36 hV36 => ?_)
                              have mV36 : m29 V1 V36 := by rw [hV36]; exact mV34.up
                              refine g_dup X rfl dX8_come_128 ?_
                              refine g_bipush X 8 (by decide) dX8_come_129 ?_
                              refine g_iconst X (-1) (by decide) dX8_come_131 ?_
                              refine g_iastNX X (N := 10) (8) (by decide) (by decide) (by decide) (gPs (by decide)) (fun _ => rfl) dX8_come_132 ?_
                              refine gG_nm (fun V37 hV37 => ?_)
                              have mV37 : m29 V1 V37 := by rw [hV37]; exact mV36.up
                              refine g_dup X rfl dX8_come_133 ?_
                              refine g_bipush X 9 (by decide) dX8_come_134 ?_
                              refine g_iconst X 0 (by decide) dX8_come_136 ?_
                              refine g_iastNX X (N := 10) (9) (by decide) (by decide) (by decide) (gPs (by decide)) (fun _ => rfl) dX8_come_137 ?_
                              refine gG_nm (fun V38 hV38 => ?_)
                              have mV38 : m29 V1 V38 := by rw [hV38]; exact mV37.up
                              refine g_astore X dX8_come_138 [(7, .ref ((gBs B a9 10).2.1 29 0 0)), (0, .ref ((gBs B a9 10).2.1 20 0 0)), (1, .int (nI j1)), (2, .int (nI j2)), (3, .int (nI j3)), (4, .int (nI j4)), (5, .int (nI j5)), (6, .int (nI 0))] rfl (gnl_lt hnL (by decide)) ?_
                              refine g_aload X 0 rfl dX8_come_140 ?_
                              refine g_iconst X 0 (by decide) dX8_come_142 ?_
                              refine g_aload_n X 1 rfl dX8_come_143 ?_
                              refine gg_X8_s X ⟨by decide, by decide⟩ fX8_34 dX8_come_144 ?_
                              refine gg_X7_of X ⟨by decide, by decide⟩ fX8_94 dX8_come_147 ?_
                              refine g_bipush X 10 (by decide) dX8_come_150 ?_
                              refine g_aload_n X 1 rfl dX8_come_152 ?_
                              refine gg_X8_s X ⟨by decide, by decide⟩ fX8_34 dX8_come_153 ?_
                              refine gg_X7_carts X ⟨by decide, by decide⟩ fX8_91 dX8_come_156 ?_
                              refine gG_top (nI (w.1.1 6)) ((hM1.m29 mV38).1.1.2.2) ?_
                              refine g_imul X dX8_come_159 ?_
                              refine gG_top (nI (10 * (w.1.1 6))) (pk_mul 10 (w.1.1 6)) ?_
                              refine g_bipush X 10 (by decide) dX8_come_160 ?_
                              refine g_copyX X hR (N := 10) (N2 := 160) (sp := 0) (dp := (10 * w.1.1 6)) (len := 10) qL_X8_97 rfl rfl rfl (gPs (by decide)) (gPX_in ⟨by decide, by decide⟩) (fun _ => rfl) (fun _ => rfl) (by decide) (by decide) (by decide) (by omega) ⟨Nat.le_of_ble_eq_true rfl, Nat.le_of_ble_eq_true rfl⟩ (Nat.le_of_ble_eq_true rfl) dX8_come_162 ?_
                              refine gG_nm (fun V39 hV39 => ?_)
                              obtain ⟨Vd, hVd⟩ : ∃ y, y = layN V1 (w.1.1 6) (nwM j1 j2 j3 j4 j5 0) := ⟨_, rfl⟩
                              refine gG_L [1, 2, 3, 4, 5, 6, 7] (L' := [(0, .ref ((gBs B a9 10).2.1 20 0 0)), (1, .int (nI j1)), (2, .int (nI j2)), (3, .int (nI j3)), (4, .int (nI j4)), (5, .int (nI j5)), (6, .int (nI 0))]) rfl ?_
                              refine g_drop Vd h0 (by decide) ha9 (fun K hK => by rw [hVd, hV39]; exact layN_is mV38 (fun x hx => by
                                rcases (show x = 0 ∨ x = 1 ∨ x = 2 ∨ x = 3 ∨ x = 4 ∨ x = 5 ∨ x = 6 ∨ x = 7 ∨ x = 8 ∨ x = 9 by omega) with rfl | rfl | rfl | rfl | rfl | rfl | rfl | rfl | rfl | rfl
                                all_goals (rw [hV38, hV37, hV36, hV34, hV33, hV32, hV31, hV30, hV29, hV28, hV27]; first | (simp [gup, nwM]; done) | (simp [gup, nwM]; decide))) K hK) ?_
                              have X := X0
                              have hI := hI0
                              refine gG_Le [(0, .ref (B.2.1 20 0 0)), (1, .int (nI j1)), (2, .int (nI j2)), (3, .int (nI j3)), (4, .int (nI j4)), (5, .int (nI j5)), (6, .int (nI 0))] rfl ?_
                              refine gG_st [] rfl ?_
                              have hMd : AbsM Vd 0 w.1 := by rw [hVd]; exact hM1.1.lay
                              have hql := hw.1.qlen a1
                              refine g_aload_n X 0 rfl dX8_come_165 ?_
                              refine gg_X8_s X ⟨by decide, by decide⟩ fX8_34 dX8_come_166 ?_
                              refine g_aload_n X 0 rfl dX8_come_169 ?_
                              refine gg_X8_s X ⟨by decide, by decide⟩ fX8_34 dX8_come_170 ?_
                              refine gg_X7_carts X ⟨by decide, by decide⟩ fX8_91 dX8_come_173 ?_
                              refine gG_top (nI (w.1.1 6)) (hMd.1.2.2) ?_
                              refine g_iload_n X 1 rfl dX8_come_176 ?_
                              refine g_aload_n X 0 rfl dX8_come_177 ?_
                              refine gg_X8_s X ⟨by decide, by decide⟩ fX8_34 dX8_come_178 ?_
                              refine gg_X7_box X ⟨by decide, by decide⟩ fX8_103 dX8_come_181 ?_
                              refine g_iconst X 5 (by decide) dX8_come_184 ?_
                              refine g_iload_n X 1 rfl dX8_come_185 ?_
                              refine g_imul X dX8_come_186 ?_
                              refine gG_top (nI (5 * j1)) (pk_mul 5 j1) ?_
                              refine g_iconst X 3 (by decide) dX8_come_187 ?_
                              refine g_iadd X dX8_come_188 ?_
                              refine gG_top (nI ((5 * j1) + 3)) (nI_add (5 * j1) 3) ?_
                              refine g_ialdN X ((5 * j1 + 3)) rfl (by omega) (by decide) ⟨by decide, by decide⟩ rfl dX8_come_189 ?_
                              refine gG_top (nI (w.1.2.1 j1).length) ((hMd.2.2.2.1 j1 a1).1) ?_
                              refine g_callV X hR (rest := []) mX7_line lX8_106 (k_lineL hI Vd 0 j1 (w.1.1 6) (w.1.2.1 j1) (by decide) a1 (by omega) (hMd.2.2.2.1 j1 a1) (by omega)) rfl rfl (Nat.le_of_ble_eq_true rfl) ⟨by decide, by decide⟩ rfl rfl rfl ⟨Nat.le_of_ble_eq_true rfl, Nat.le_of_ble_eq_true rfl, Nat.le_of_ble_eq_true rfl, Nat.le_of_ble_eq_true rfl⟩ dX8_come_190 (fun r40 V41 hz_42 => ?_)
                              refine gG_rv hz_42.1 ?_
                              obtain ⟨-, Vx, hx1, hx2, hx3⟩ := hz_42
                              have h23 : ∀ j, V41 23 0 0 j = Vd 23 0 0 j := fun j => by rw [hx3, gup_ne (by simp), gup_ne (by simp), hx2.1 23 0 0 (by simp)]
                              refine gG_st [] rfl ?_
                              refine g_aload_n X 0 rfl dX8_come_193 ?_
                              refine gg_X8_s X ⟨by decide, by decide⟩ fX8_34 dX8_come_194 ?_
                              refine g_dup X rfl dX8_come_197 ?_
                              refine gg_X7_carts X ⟨by decide, by decide⟩ fX8_91 dX8_come_198 ?_
                              refine gG_top (nI (w.1.1 6)) (by rw [h23]; exact hMd.1.2.2) ?_
                              refine g_iconst X 1 (by decide) dX8_come_201 ?_
                              refine g_iadd X dX8_come_202 ?_
                              refine gG_top (nI ((w.1.1 6) + 1)) (nI_1 _) ?_
                              refine gp_X7_carts X ⟨by decide, by decide⟩ fX8_91 dX8_come_203 ?_
                              refine gG_nm (fun V43 hV43 => ?_)
                              refine g_aload_n X 0 rfl dX8_come_206 ?_
                              refine gg_X8_s X ⟨by decide, by decide⟩ fX8_34 dX8_come_207 ?_
                              refine gg_X7_carts X ⟨by decide, by decide⟩ fX8_91 dX8_come_210 ?_
                              refine gG_top (nI (w.1.1 6 + 1)) (by rw [hV43, gup_eq]) ?_
                              refine g_iconst X 1 (by decide) dX8_come_213 ?_
                              refine g_isub X dX8_come_214 ?_
                              refine gG_top (nI (w.1.1 6)) (nI_pred _) ?_
                              refine g_iret X F ?_ rfl dX8_come_215
                              have hop : oCome w (nI j1) (nI j2) (nI j3) (nI j4) (nI j5) (nI 0) = (0, nI (w.1.1 6), (sNew w.1 j1 j2 j3 j4 j5 0, w.2)) := by
                                unfold oCome
                                rw [if_pos ⟨h1, h2, h3, h4, h5⟩, if_neg h16, nI_clamp (by omega), nI_clamp (by omega), nI_clamp (by omega), nI_clamp (by omega), nI_clamp (by omega), nI_clamp (by omega)]
                              rw [hop]
                              have k24 : ∀ j, V43 24 0 0 j = if j = 10 * w.1.1 6 + 6 then -1 else if j = 10 * w.1.1 6 + 5 then 0 else Vd 24 0 0 j := fun j => by
                                rw [hV43, gup_ne (by simp), hx3]
                                by_cases hj6 : j = 10 * w.1.1 6 + 6
                                · rw [hj6, gup_eq, if_pos rfl]
                                · rw [gup_ne (by simpa using hj6), if_neg hj6]
                                  by_cases hj5 : j = 10 * w.1.1 6 + 5
                                  · rw [hj5, gup_eq, if_pos rfl]
                                  · rw [gup_ne (by simpa using hj5), if_neg hj5, hx2.1 24 0 0 (by simp)]
                              have kf : ∀ K, K ≠ 23 → K ≠ 24 → V43 K = Vx K := fun K k1 k2 => by
                                funext b i
                                rw [hV43, gup_off _ _ (fun q => k1 q.1), hx3, gup_off _ _ (fun q => k2 q.1), gup_off _ _ (fun q => k2 q.1)]
                              have kx : ∀ K b i, ¬ ((K = 26 ∨ K = 27) ∧ b = 0 ∧ i = 0) → K ≠ 24 → Vx K b i = V1 K b i := fun K b i k1 k2 => by
                                rw [hx2.1 K b i k1, hVd, layN_off (fun q => k2 q.1)]
                              have row : ∀ x xs, RowM Vx 0 x xs → RowM V43 0 x xs := fun x xs q => ⟨by rw [kf 27 (by decide) (by decide)]; exact q.1, q.2.1, fun j hj => by rw [kf 26 (by decide) (by decide)]; exact q.2.2 j hj⟩
                              have hfin : AbsM V43 0 (sNew w.1 j1 j2 j3 j4 j5 0) := by
                                refine hM1.1.new hw.1 (by omega) a1 ⟨?_, ?_, ?_⟩ (fun f hf => ?_) (fun j hj => ?_) ?_ (row _ _ hx1) (fun x hx hxe => row _ _ (RowM.mod (hMd.2.2.2.1 x hx) hx2 hxe)) (fun x hx => ?_) (fun j hj => ?_)
                                · rw [hV43, gup_ne (by simp), h23, hVd, layN_off (by simp)]
                                · rw [hV43, gup_ne (by simp), h23, hVd, layN_off (by simp)]
                                · rw [hV43, gup_eq]
                                · rw [k24]
                                  by_cases h6 : f = 6
                                  · rw [h6, if_pos rfl]; rfl
                                  · rw [if_neg (by omega)]
                                    by_cases h55 : f = 5
                                    · rw [h55, if_pos rfl]; rfl
                                    · rw [if_neg (by omega), hVd, layN_in hf]
                                · rw [k24, if_neg (by omega), if_neg (by omega), hVd, layN_out hj]
                                · rw [kf 25 (by decide) (by decide), kx 25 0 0 (by simp) (by decide)]
                                · have e1 : ∀ j, j ≠ 5 * j1 + 3 → V43 27 0 0 j = V1 27 0 0 j := fun j hj => by rw [kf 27 (by decide) (by decide), hx2.2.1 j hj, hVd, layN_off (by simp)]
                                  exact ⟨e1 _ (by omega), e1 _ (by omega), e1 _ (by omega), e1 _ (by omega)⟩
                                · rw [kf 20 (by decide) (by decide), kx 20 0 0 (by simp) (by decide)]
                              refine ⟨rfl, ?_, ⟨hfin, ⟨?_, fun k hk => ?_⟩, fun k hk => ?_⟩, fun K b i hn => ?_⟩
                              · rw [kf 20 (by decide) (by decide), kx 20 0 0 (by simp) (by decide), hV1, gup_eq]; rfl
                              · rw [kf 20 (by decide) (by decide), kx 20 0 0 (by simp) (by decide)]; exact hM1.2.1.1
                              · rw [kf 21 (by decide) (by decide), kx 21 0 0 (by simp) (by decide)]; exact hM1.2.1.2 k hk
                              · rw [kf 22 (by decide) (by decide), kx 22 0 0 (by simp) (by decide)]; exact hM1.2.2 k hk
                              · rw [kf K (by omega) (by omega), kx K b i (by omega) (by omega)]; exact hm1 K b i hn
                            ·  exact absurd c35 (by decide)
                          · refine gG_top 1 rfl ?_
                            refine g_if_eq X 126 (by decide) dX8_come_119 (fun c44 => ?_) (fun c44 => ?_)
                            ·  exact absurd c44 (by decide)
                            · refine g_iconst X 1 (by decide) dX8_come_122 ?_
                              refine g_goto X 127 (by decide) dX8_come_123 ?_
                              refine g_iastNX X (N := 10) (7) (by decide) (by decide) (by decide) (gPs (by decide)) (fun _ => rfl) dX8_come_127 ?_
                              refine gG_nm (fun V45 hV45 => ?_)
                              have mV45 : m29 V1 V45 := by rw [hV45]; exact mV34.up
                              refine g_dup X rfl dX8_come_128 ?_
                              refine g_bipush X 8 (by decide) dX8_come_129 ?_
                              refine g_iconst X (-1) (by decide) dX8_come_131 ?_
                              refine g_iastNX X (N := 10) (8) (by decide) (by decide) (by decide) (gPs (by decide)) (fun _ => rfl) dX8_come_132 ?_
                              refine gG_nm (fun V46 hV46 => ?_)
                              have mV46 : m29 V1 V46 := by rw [hV46]; exact mV45.up
                              refine g_dup X rfl dX8_come_133 ?_
                              refine g_bipush X 9 (by decide) dX8_come_134 ?_
                              refine g_iconst X 0 (by decide) dX8_come_136 ?_
                              refine g_iastNX X (N := 10) (9) (by decide) (by decide) (by decide) (gPs (by decide)) (fun _ => rfl) dX8_come_137 ?_
                              refine gG_nm (fun V47 hV47 => ?_)
                              have mV47 : m29 V1 V47 := by rw [hV47]; exact mV46.up
                              refine g_astore X dX8_come_138 [(7, .ref ((gBs B a9 10).2.1 29 0 0)), (0, .ref ((gBs B a9 10).2.1 20 0 0)), (1, .int (nI j1)), (2, .int (nI j2)), (3, .int (nI j3)), (4, .int (nI j4)), (5, .int (nI j5)), (6, .int (nI 1))] rfl (gnl_lt hnL (by decide)) ?_
                              refine g_aload X 0 rfl dX8_come_140 ?_
                              refine g_iconst X 0 (by decide) dX8_come_142 ?_
                              refine g_aload_n X 1 rfl dX8_come_143 ?_
                              refine gg_X8_s X ⟨by decide, by decide⟩ fX8_34 dX8_come_144 ?_
                              refine gg_X7_of X ⟨by decide, by decide⟩ fX8_94 dX8_come_147 ?_
                              refine g_bipush X 10 (by decide) dX8_come_150 ?_
                              refine g_aload_n X 1 rfl dX8_come_152 ?_
                              refine gg_X8_s X ⟨by decide, by decide⟩ fX8_34 dX8_come_153 ?_
                              refine gg_X7_carts X ⟨by decide, by decide⟩ fX8_91 dX8_come_156 ?_
                              refine gG_top (nI (w.1.1 6)) ((hM1.m29 mV47).1.1.2.2) ?_
                              refine g_imul X dX8_come_159 ?_
                              refine gG_top (nI (10 * (w.1.1 6))) (pk_mul 10 (w.1.1 6)) ?_
                              refine g_bipush X 10 (by decide) dX8_come_160 ?_
                              refine g_copyX X hR (N := 10) (N2 := 160) (sp := 0) (dp := (10 * w.1.1 6)) (len := 10) qL_X8_97 rfl rfl rfl (gPs (by decide)) (gPX_in ⟨by decide, by decide⟩) (fun _ => rfl) (fun _ => rfl) (by decide) (by decide) (by decide) (by omega) ⟨Nat.le_of_ble_eq_true rfl, Nat.le_of_ble_eq_true rfl⟩ (Nat.le_of_ble_eq_true rfl) dX8_come_162 ?_
                              refine gG_nm (fun V48 hV48 => ?_)
                              obtain ⟨Vd, hVd⟩ : ∃ y, y = layN V1 (w.1.1 6) (nwM j1 j2 j3 j4 j5 1) := ⟨_, rfl⟩
                              refine gG_L [1, 2, 3, 4, 5, 6, 7] (L' := [(0, .ref ((gBs B a9 10).2.1 20 0 0)), (1, .int (nI j1)), (2, .int (nI j2)), (3, .int (nI j3)), (4, .int (nI j4)), (5, .int (nI j5)), (6, .int (nI 1))]) rfl ?_
                              refine g_drop Vd h0 (by decide) ha9 (fun K hK => by rw [hVd, hV48]; exact layN_is mV47 (fun x hx => by
                                rcases (show x = 0 ∨ x = 1 ∨ x = 2 ∨ x = 3 ∨ x = 4 ∨ x = 5 ∨ x = 6 ∨ x = 7 ∨ x = 8 ∨ x = 9 by omega) with rfl | rfl | rfl | rfl | rfl | rfl | rfl | rfl | rfl | rfl
                                all_goals (rw [hV47, hV46, hV45, hV34, hV33, hV32, hV31, hV30, hV29, hV28, hV27]; first | (simp [gup, nwM]; done) | (simp [gup, nwM]; decide))) K hK) ?_
                              have X := X0
                              have hI := hI0
                              refine gG_Le [(0, .ref (B.2.1 20 0 0)), (1, .int (nI j1)), (2, .int (nI j2)), (3, .int (nI j3)), (4, .int (nI j4)), (5, .int (nI j5)), (6, .int (nI 1))] rfl ?_
                              refine gG_st [] rfl ?_
                              have hMd : AbsM Vd 0 w.1 := by rw [hVd]; exact hM1.1.lay
                              have hql := hw.1.qlen a1
                              refine g_aload_n X 0 rfl dX8_come_165 ?_
                              refine gg_X8_s X ⟨by decide, by decide⟩ fX8_34 dX8_come_166 ?_
                              refine g_aload_n X 0 rfl dX8_come_169 ?_
                              refine gg_X8_s X ⟨by decide, by decide⟩ fX8_34 dX8_come_170 ?_
                              refine gg_X7_carts X ⟨by decide, by decide⟩ fX8_91 dX8_come_173 ?_
                              refine gG_top (nI (w.1.1 6)) (hMd.1.2.2) ?_
                              refine g_iload_n X 1 rfl dX8_come_176 ?_
                              refine g_aload_n X 0 rfl dX8_come_177 ?_
                              refine gg_X8_s X ⟨by decide, by decide⟩ fX8_34 dX8_come_178 ?_
                              refine gg_X7_box X ⟨by decide, by decide⟩ fX8_103 dX8_come_181 ?_
                              refine g_iconst X 5 (by decide) dX8_come_184 ?_
                              refine g_iload_n X 1 rfl dX8_come_185 ?_
                              refine g_imul X dX8_come_186 ?_
                              refine gG_top (nI (5 * j1)) (pk_mul 5 j1) ?_
                              refine g_iconst X 3 (by decide) dX8_come_187 ?_
                              refine g_iadd X dX8_come_188 ?_
                              refine gG_top (nI ((5 * j1) + 3)) (nI_add (5 * j1) 3) ?_
                              refine g_ialdN X ((5 * j1 + 3)) rfl (by omega) (by decide) ⟨by decide, by decide⟩ rfl dX8_come_189 ?_
                              refine gG_top (nI (w.1.2.1 j1).length) ((hMd.2.2.2.1 j1 a1).1) ?_
                              refine g_callV X hR (rest := []) mX7_line lX8_106 (k_lineL hI Vd 0 j1 (w.1.1 6) (w.1.2.1 j1) (by decide) a1 (by omega) (hMd.2.2.2.1 j1 a1) (by omega)) rfl rfl (Nat.le_of_ble_eq_true rfl) ⟨by decide, by decide⟩ rfl rfl rfl ⟨Nat.le_of_ble_eq_true rfl, Nat.le_of_ble_eq_true rfl, Nat.le_of_ble_eq_true rfl, Nat.le_of_ble_eq_true rfl⟩ dX8_come_190 (fun r49 V50 hz_51 => ?_)
                              refine gG_rv hz_51.1 ?_
                              obtain ⟨-, Vx, hx1, hx2, hx3⟩ := hz_51
                              have h23 : ∀ j, V50 23 0 0 j = Vd 23 0 0 j := fun j => by rw [hx3, gup_ne (by simp), gup_ne (by simp), hx2.1 23 0 0 (by simp)]
                              refine gG_st [] rfl ?_
                              refine g_aload_n X 0 rfl dX8_come_193 ?_
                              refine gg_X8_s X ⟨by decide, by decide⟩ fX8_34 dX8_come_194 ?_
                              refine g_dup X rfl dX8_come_197 ?_
                              refine gg_X7_carts X ⟨by decide, by decide⟩ fX8_91 dX8_come_198 ?_
                              refine gG_top (nI (w.1.1 6)) (by rw [h23]; exact hMd.1.2.2) ?_
                              refine g_iconst X 1 (by decide) dX8_come_201 ?_
                              refine g_iadd X dX8_come_202 ?_
                              refine gG_top (nI ((w.1.1 6) + 1)) (nI_1 _) ?_
                              refine gp_X7_carts X ⟨by decide, by decide⟩ fX8_91 dX8_come_203 ?_
                              refine gG_nm (fun V52 hV52 => ?_)
                              refine g_aload_n X 0 rfl dX8_come_206 ?_
                              refine gg_X8_s X ⟨by decide, by decide⟩ fX8_34 dX8_come_207 ?_
                              refine gg_X7_carts X ⟨by decide, by decide⟩ fX8_91 dX8_come_210 ?_
                              refine gG_top (nI (w.1.1 6 + 1)) (by rw [hV52, gup_eq]) ?_
                              refine g_iconst X 1 (by decide) dX8_come_213 ?_
                              refine g_isub X dX8_come_214 ?_
                              refine gG_top (nI (w.1.1 6)) (nI_pred _) ?_
                              refine g_iret X F ?_ rfl dX8_come_215
                              have hop : oCome w (nI j1) (nI j2) (nI j3) (nI j4) (nI j5) (nI 1) = (0, nI (w.1.1 6), (sNew w.1 j1 j2 j3 j4 j5 1, w.2)) := by
                                unfold oCome
                                rw [if_pos ⟨h1, h2, h3, h4, h5⟩, if_neg h16, nI_clamp (by omega), nI_clamp (by omega), nI_clamp (by omega), nI_clamp (by omega), nI_clamp (by omega), nI_clamp (by omega)]
                              rw [hop]
                              have k24 : ∀ j, V52 24 0 0 j = if j = 10 * w.1.1 6 + 6 then -1 else if j = 10 * w.1.1 6 + 5 then 0 else Vd 24 0 0 j := fun j => by
                                rw [hV52, gup_ne (by simp), hx3]
                                by_cases hj6 : j = 10 * w.1.1 6 + 6
                                · rw [hj6, gup_eq, if_pos rfl]
                                · rw [gup_ne (by simpa using hj6), if_neg hj6]
                                  by_cases hj5 : j = 10 * w.1.1 6 + 5
                                  · rw [hj5, gup_eq, if_pos rfl]
                                  · rw [gup_ne (by simpa using hj5), if_neg hj5, hx2.1 24 0 0 (by simp)]
                              have kf : ∀ K, K ≠ 23 → K ≠ 24 → V52 K = Vx K := fun K k1 k2 => by
                                funext b i
                                rw [hV52, gup_off _ _ (fun q => k1 q.1), hx3, gup_off _ _ (fun q => k2 q.1), gup_off _ _ (fun q => k2 q.1)]
                              have kx : ∀ K b i, ¬ ((K = 26 ∨ K = 27) ∧ b = 0 ∧ i = 0) → K ≠ 24 → Vx K b i = V1 K b i := fun K b i k1 k2 => by
                                rw [hx2.1 K b i k1, hVd, layN_off (fun q => k2 q.1)]
                              have row : ∀ x xs, RowM Vx 0 x xs → RowM V52 0 x xs := fun x xs q => ⟨by rw [kf 27 (by decide) (by decide)]; exact q.1, q.2.1, fun j hj => by rw [kf 26 (by decide) (by decide)]; exact q.2.2 j hj⟩
                              have hfin : AbsM V52 0 (sNew w.1 j1 j2 j3 j4 j5 1) := by
                                refine hM1.1.new hw.1 (by omega) a1 ⟨?_, ?_, ?_⟩ (fun f hf => ?_) (fun j hj => ?_) ?_ (row _ _ hx1) (fun x hx hxe => row _ _ (RowM.mod (hMd.2.2.2.1 x hx) hx2 hxe)) (fun x hx => ?_) (fun j hj => ?_)
                                · rw [hV52, gup_ne (by simp), h23, hVd, layN_off (by simp)]
                                · rw [hV52, gup_ne (by simp), h23, hVd, layN_off (by simp)]
                                · rw [hV52, gup_eq]
                                · rw [k24]
                                  by_cases h6 : f = 6
                                  · rw [h6, if_pos rfl]; rfl
                                  · rw [if_neg (by omega)]
                                    by_cases h55 : f = 5
                                    · rw [h55, if_pos rfl]; rfl
                                    · rw [if_neg (by omega), hVd, layN_in hf]
                                · rw [k24, if_neg (by omega), if_neg (by omega), hVd, layN_out hj]
                                · rw [kf 25 (by decide) (by decide), kx 25 0 0 (by simp) (by decide)]
                                · have e1 : ∀ j, j ≠ 5 * j1 + 3 → V52 27 0 0 j = V1 27 0 0 j := fun j hj => by rw [kf 27 (by decide) (by decide), hx2.2.1 j hj, hVd, layN_off (by simp)]
                                  exact ⟨e1 _ (by omega), e1 _ (by omega), e1 _ (by omega), e1 _ (by omega)⟩
                                · rw [kf 20 (by decide) (by decide), kx 20 0 0 (by simp) (by decide)]
                              refine ⟨rfl, ?_, ⟨hfin, ⟨?_, fun k hk => ?_⟩, fun k hk => ?_⟩, fun K b i hn => ?_⟩
                              · rw [kf 20 (by decide) (by decide), kx 20 0 0 (by simp) (by decide), hV1, gup_eq]; rfl
                              · rw [kf 20 (by decide) (by decide), kx 20 0 0 (by simp) (by decide)]; exact hM1.2.1.1
                              · rw [kf 21 (by decide) (by decide), kx 21 0 0 (by simp) (by decide)]; exact hM1.2.1.2 k hk
                              · rw [kf 22 (by decide) (by decide), kx 22 0 0 (by simp) (by decide)]; exact hM1.2.2 k hk
                              · rw [kf K (by omega) (by omega), kx K b i (by omega) (by omega)]; exact hm1 K b i hn
                        · first | exact absurd (fun z => h16 ((nI_eq (b := 16) (by omega) (by decide)).mp z)) c26 | exact absurd c26 (fun z => h16 ((nI_eq (b := 16) (by omega) (by decide)).mp z))
                    ·  exact absurd c21 (by decide)
                  · refine gG_top 0 (if_neg (h5)) ?_
                    refine g_if_ne X 61 (by decide) dX8_come_52 (fun c53 => ?_) (fun c53 => ?_)
                    ·  exact absurd c53 (by decide)
                    · refine g_aload_n X 0 rfl dX8_come_55 ?_
                      refine g_iconst X 1 (by decide) dX8_come_56 ?_
                      refine g_callV X hR (rest := []) mX8_no lX8_59 (k_no hI V1 1 ) rfl rfl (Nat.le_of_ble_eq_true rfl) ⟨by decide, by decide⟩ rfl rfl rfl ⟨Nat.le_of_ble_eq_true rfl, Nat.le_of_ble_eq_true rfl, Nat.le_of_ble_eq_true rfl, Nat.le_of_ble_eq_true rfl⟩ dX8_come_57 (fun r54 V55 hz_56 => ?_)
                      refine gG_rv hz_56.1 ?_
                      have hV55 := hz_56.2
                      refine gG_st [.int 0] rfl ?_
                      refine g_widen (1, 10) (by first | decide | omega) (by first | decide | omega) ?_
                      refine g_iret X F ?_ rfl dX8_come_60
                      rw [show oCome w e ax wt pc cn (nI c) = (1, 0, w) from if_neg (fun z => h5 z.2.2.2.2)]
                      exact ⟨rfl, by rw [hV55, gup_eq]; rfl, by rw [hV55]; exact hM1.thr _, by rw [hV55]; exact hm1.up (by decide) (by decide)⟩
              · refine gG_top 0 (if_neg (h4)) ?_
                refine g_if_eq X 55 (by decide) dX8_come_41 (fun c57 => ?_) (fun c57 => ?_)
                · refine g_aload_n X 0 rfl dX8_come_55 ?_
                  refine g_iconst X 1 (by decide) dX8_come_56 ?_
                  refine g_callV X hR (rest := []) mX8_no lX8_59 (k_no hI V1 1 ) rfl rfl (Nat.le_of_ble_eq_true rfl) ⟨by decide, by decide⟩ rfl rfl rfl ⟨Nat.le_of_ble_eq_true rfl, Nat.le_of_ble_eq_true rfl, Nat.le_of_ble_eq_true rfl, Nat.le_of_ble_eq_true rfl⟩ dX8_come_57 (fun r58 V59 hz_60 => ?_)
                  refine gG_rv hz_60.1 ?_
                  have hV59 := hz_60.2
                  refine gG_st [.int 0] rfl ?_
                  refine g_widen (1, 10) (by first | decide | omega) (by first | decide | omega) ?_
                  refine g_iret X F ?_ rfl dX8_come_60
                  rw [show oCome w e ax wt pc cn (nI c) = (1, 0, w) from if_neg (fun z => h4 z.2.2.2.1)]
                  exact ⟨rfl, by rw [hV59, gup_eq]; rfl, by rw [hV59]; exact hM1.thr _, by rw [hV59]; exact hm1.up (by decide) (by decide)⟩
                ·  exact absurd c57 (by decide)
          · refine gG_top 0 (if_neg (h3)) ?_
            refine g_if_eq X 55 (by decide) dX8_come_31 (fun c61 => ?_) (fun c61 => ?_)
            · refine g_aload_n X 0 rfl dX8_come_55 ?_
              refine g_iconst X 1 (by decide) dX8_come_56 ?_
              refine g_callV X hR (rest := []) mX8_no lX8_59 (k_no hI V1 1 ) rfl rfl (Nat.le_of_ble_eq_true rfl) ⟨by decide, by decide⟩ rfl rfl rfl ⟨Nat.le_of_ble_eq_true rfl, Nat.le_of_ble_eq_true rfl, Nat.le_of_ble_eq_true rfl, Nat.le_of_ble_eq_true rfl⟩ dX8_come_57 (fun r62 V63 hz_64 => ?_)
              refine gG_rv hz_64.1 ?_
              have hV63 := hz_64.2
              refine gG_st [.int 0] rfl ?_
              refine g_widen (1, 10) (by first | decide | omega) (by first | decide | omega) ?_
              refine g_iret X F ?_ rfl dX8_come_60
              rw [show oCome w e ax wt pc cn (nI c) = (1, 0, w) from if_neg (fun z => h3 z.2.2.1)]
              exact ⟨rfl, by rw [hV63, gup_eq]; rfl, by rw [hV63]; exact hM1.thr _, by rw [hV63]; exact hm1.up (by decide) (by decide)⟩
            ·  exact absurd c61 (by decide)
      · refine gG_top 0 (if_neg (h2)) ?_
        refine g_if_eq X 55 (by decide) dX8_come_20 (fun c65 => ?_) (fun c65 => ?_)
        · refine g_aload_n X 0 rfl dX8_come_55 ?_
          refine g_iconst X 1 (by decide) dX8_come_56 ?_
          refine g_callV X hR (rest := []) mX8_no lX8_59 (k_no hI V1 1 ) rfl rfl (Nat.le_of_ble_eq_true rfl) ⟨by decide, by decide⟩ rfl rfl rfl ⟨Nat.le_of_ble_eq_true rfl, Nat.le_of_ble_eq_true rfl, Nat.le_of_ble_eq_true rfl, Nat.le_of_ble_eq_true rfl⟩ dX8_come_57 (fun r66 V67 hz_68 => ?_)
          refine gG_rv hz_68.1 ?_
          have hV67 := hz_68.2
          refine gG_st [.int 0] rfl ?_
          refine g_widen (1, 10) (by first | decide | omega) (by first | decide | omega) ?_
          refine g_iret X F ?_ rfl dX8_come_60
          rw [show oCome w e ax wt pc cn (nI c) = (1, 0, w) from if_neg (fun z => h2 z.2.1)]
          exact ⟨rfl, by rw [hV67, gup_eq]; rfl, by rw [hV67]; exact hM1.thr _, by rw [hV67]; exact hm1.up (by decide) (by decide)⟩
        ·  exact absurd c65 (by decide)
  · refine gG_top 0 (if_neg (fun z => h1 ((inB_ix (n := 1) (by decide)).mp z))) ?_
    refine g_if_eq X 55 (by decide) dX8_come_11 (fun c69 => ?_) (fun c69 => ?_)
    · refine g_aload_n X 0 rfl dX8_come_55 ?_
      refine g_iconst X 1 (by decide) dX8_come_56 ?_
      refine g_callV X hR (rest := []) mX8_no lX8_59 (k_no hI V1 1 ) rfl rfl (Nat.le_of_ble_eq_true rfl) ⟨by decide, by decide⟩ rfl rfl rfl ⟨Nat.le_of_ble_eq_true rfl, Nat.le_of_ble_eq_true rfl, Nat.le_of_ble_eq_true rfl, Nat.le_of_ble_eq_true rfl⟩ dX8_come_57 (fun r70 V71 hz_72 => ?_)
      refine gG_rv hz_72.1 ?_
      have hV71 := hz_72.2
      refine gG_st [.int 0] rfl ?_
      refine g_widen (1, 10) (by first | decide | omega) (by first | decide | omega) ?_
      refine g_iret X F ?_ rfl dX8_come_60
      rw [show oCome w e ax wt pc cn (nI c) = (1, 0, w) from if_neg (fun z => h1 z.1)]
      exact ⟨rfl, by rw [hV71, gup_eq]; rfl, by rw [hV71]; exact hM1.thr _, by rw [hV71]; exact hm1.up (by decide) (by decide)⟩
    ·  exact absurd c69 (by decide)

