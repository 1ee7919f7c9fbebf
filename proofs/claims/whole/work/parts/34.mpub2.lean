/-! the reference's public methods, on -/
theorem AbsM.build {V : gMem} {k p q : Nat} {S : gSt} (h : AbsM V k S) (hno : ∀ i, i < S.1 6 → S.2.2.2.1 i 8 ≠ 1) : AbsM (gup (gup V 20 0 0 4 (nI p)) 20 0 0 5 (nI q)) k (sPB S p q) := by
  have e6 : (sPB S p q).1 6 = S.1 6 := rfl
  obtain ⟨⟨a1, a2, a3⟩, b, c, d, y, z⟩ := h
  refine ⟨⟨?_, ?_, ?_⟩, fun i hi f hf => ?_, ⟨fun i hi h8 => absurd h8 (hno i hi), fun r hr hn => ?_⟩, fun e he => ?_, fun e he => ?_, ?_⟩
  · rw [gup_off _ _ (by simp), gup_off _ _ (by simp), a1]; rfl
  · rw [gup_off _ _ (by simp), gup_off _ _ (by simp), a2]; rfl
  · rw [gup_off _ _ (by simp), gup_off _ _ (by simp), a3]; rfl
  · rw [gup_ne (by simp), gup_ne (by simp), b i hi f hf]
    have hpl : sPlc (sPB S p q) i = sPlc S i := by rw [sPlc_off (hno i hi), sPlc_off (show (sPB S p q).2.2.2.1 i 8 ≠ 1 from hno i hi)]
    unfold mF
    split <;> first | rfl | exact hpl.symm
  · rw [gup_ne (by simp), gup_ne (by simp)]
    exact c.2 r hr (fun i hi h8 => absurd h8 (hno i hi))
  · have w := d e he
    exact ⟨by rw [gup_ne (by simp), gup_ne (by simp)]; exact w.1, w.2.1, fun j hj => by rw [gup_ne (by simp), gup_ne (by simp)]; exact w.2.2 j hj⟩
  · rw [gup_off _ _ (by simp), gup_off _ _ (by simp)]; exact y e he
  · obtain ⟨z1, z2, z3, z4⟩ := z
    refine ⟨?_, ?_, ?_, ?_⟩
    · rw [gup_ne (by simp), gup_eq]; rfl
    · rw [gup_eq]; rfl
    · rw [gup_ne (by simp), gup_ne (by simp), z3]; rfl
    · rw [gup_ne (by simp), gup_ne (by simp), z4]; rfl
theorem AbsM.toll {V : gMem} {k p q : Nat} {S : gSt} (h : AbsM V k S) : AbsM (gup (gup V 20 0 0 6 (nI p)) 20 0 0 7 (nI q)) k (sN (sN S 4 p) 5 q) := by
  obtain ⟨⟨a1, a2, a3⟩, b, c, d, y, z⟩ := h
  refine ⟨⟨?_, ?_, ?_⟩, fun i hi f hf => ?_, ⟨fun i hi h8 => ?_, fun r hr hn => ?_⟩, fun e he => ?_, fun e he => ?_, ?_⟩
  · rw [gup_off _ _ (by simp), gup_off _ _ (by simp), a1]; rfl
  · rw [gup_off _ _ (by simp), gup_off _ _ (by simp), a2]; rfl
  · rw [gup_off _ _ (by simp), gup_off _ _ (by simp), a3]; rfl
  · rw [gup_ne (by simp), gup_ne (by simp), b i hi f hf]
    unfold mF
    split <;> rfl
  · rw [gup_ne (by simp), gup_ne (by simp)]; exact c.1 i hi h8
  · rw [gup_ne (by simp), gup_ne (by simp)]; exact c.2 r hr hn
  · have w := d e he
    exact ⟨by rw [gup_ne (by simp), gup_ne (by simp)]; exact w.1, w.2.1, fun j hj => by rw [gup_ne (by simp), gup_ne (by simp)]; exact w.2.2 j hj⟩
  · rw [gup_off _ _ (by simp), gup_off _ _ (by simp)]; exact y e he
  · obtain ⟨z1, z2, z3, z4⟩ := z
    refine ⟨?_, ?_, ?_, ?_⟩
    · rw [gup_ne (by simp), gup_ne (by simp), z1]; rfl
    · rw [gup_ne (by simp), gup_ne (by simp), z2]; rfl
    · rw [gup_ne (by simp), gup_eq]; rfl
    · rw [gup_eq]; rfl
theorem cntF_0 {f : Nat → Bool} : ∀ {n : Nat}, cntF f n = 0 → ∀ i, i < n → f i = false
  | 0, _, i, hi => by omega
  | n + 1, h, i, hi => by
    unfold cntF at h
    by_cases hin : i = n
    · rw [hin]
      by_cases hf : f n = true
      · rw [if_pos hf] at h; omega
      · simpa using hf
    · exact cntF_0 (n := n) (by omega) i (by omega)
theorem cntF_none {f : Nat → Bool} : ∀ {n : Nat}, (∀ i, i < n → f i = false) → cntF f n = 0
  | 0, _ => rfl
  | n + 1, h => by
    unfold cntF
    rw [cntF_none (fun i hi => h i (by omega)), h n (by omega)]
    rfl
theorem on_none {S : gSt} (h : WF S) : S.2.1 2 = [] ↔ sCnt S 1 = 0 := by
  constructor
  · intro q
    refine cntF_none (fun i hi => decide_eq_false (fun h8 => ?_))
    have := h.on hi h8
    rw [q] at this
    cases this
  · intro q
    cases hl : S.2.1 2 with
    | nil => rfl
    | cons i is =>
      have hi : i ∈ S.2.1 2 := by rw [hl]; exact List.mem_cons_self
      obtain ⟨h1, h2⟩ := (h.2.2.2.2.1 i).mp hi
      have := of_decide_eq_false (cntF_0 q i h1)
      exact absurd h2 this

abbrev rmX8_rebuild : Room := { frames := 2, cells := 0, slots := 0, locals := 45 }
set_option maxRecDepth 20000 in
theorem k_Mrebuild {l : Launch} {B : gB} (hI : gI B) (V : gMem) (w : gWd) (p : Int32) (q : Int32) (hM : MOk V w) (hw : wOk w) : gM l B yX8_rebuild cX8_rebuild 4 (some .int) rmX8_rebuild [.ref (B.2.1 20 0 0), .int p, .int q] V (fun v V' => v = some (.int (oBuild w p q).2.1) ∧ V' 20 0 0 0 = nI (oBuild w p q).1 ∧ MOk V' (oBuild w p q).2.2 ∧ mmod V V') := by
  refine gM_of (own := RX8) (L := [(0, .ref (B.2.1 20 0 0)), (1, .int p), (2, .int q)]) (by decide +kernel) rfl hI (Nat.le_of_ble_eq_true rfl) rfl ?_
  intro Z hnL hR X F
  refine g_aload_n X 0 rfl dX8_rebuild_0 ?_
  refine g_iconst X 0 (by decide) dX8_rebuild_1 ?_
  refine gp_X8_thrown X ⟨by decide, by decide⟩ fX8_41 dX8_rebuild_2 ?_
  refine gG_nm (fun V1 hV1 => ?_)
  have hM1 : MOk V1 w := by rw [hV1]; exact hM.thr 0
  have hm1 : mmod V V1 := by rw [hV1]; exact mmod.rf.up (by decide) (by decide)
  refine g_iload_n X 1 rfl dX8_rebuild_5 ?_
  refine g_iconst X 4 (by decide) dX8_rebuild_6 ?_
  refine g_bipush X 30 (by decide) dX8_rebuild_7 ?_
  refine g_callS X hR (As := [.int p, .int 4, .int 30]) (rest := []) mX8_isIn lX8_48 (k_isIn hI V1 p 4 30 ) rfl rfl (Nat.le_of_ble_eq_true rfl) ⟨Nat.le_of_ble_eq_true rfl, Nat.le_of_ble_eq_true rfl, Nat.le_of_ble_eq_true rfl, Nat.le_of_ble_eq_true rfl⟩ dX8_rebuild_9 (fun r2 V3 hz_4 => ?_)
  refine gG_ret hz_4.1 hz_4.2 ?_
  refine gG_st [.int (if inB p 4 30 then 1 else 0)] rfl ?_
  by_cases hP : inB p 4 30
  · refine gG_top 1 (if_pos (hP)) ?_
    refine g_if_eq X 27 (by decide) dX8_rebuild_12 (fun c5 => ?_) (fun c5 => ?_)
    ·  exact absurd c5 (by decide)
    · refine g_iload_n X 2 rfl dX8_rebuild_15 ?_
      refine g_bipush X 10 (by decide) dX8_rebuild_16 ?_
      refine g_sipush X 500 (by decide) dX8_rebuild_18 ?_
      refine g_callS X hR (As := [.int q, .int 10, .int 500]) (rest := []) mX8_isIn lX8_48 (k_isIn hI V1 q 10 500 ) rfl rfl (Nat.le_of_ble_eq_true rfl) ⟨Nat.le_of_ble_eq_true rfl, Nat.le_of_ble_eq_true rfl, Nat.le_of_ble_eq_true rfl, Nat.le_of_ble_eq_true rfl⟩ dX8_rebuild_21 (fun r6 V7 hz_8 => ?_)
      refine gG_ret hz_8.1 hz_8.2 ?_
      refine gG_st [.int (if inB q 10 500 then 1 else 0)] rfl ?_
      by_cases hQ : inB q 10 500
      · refine gG_top 1 (if_pos (hQ)) ?_
        refine g_if_ne X 33 (by decide) dX8_rebuild_24 (fun c9 => ?_) (fun c9 => ?_)
        · obtain ⟨j, j1, j2, j3⟩ := (inB_iff (a := 4) (n := 30) (by decide) (by decide)).mp hP
          obtain ⟨z, z1, z2, z3⟩ := (inB_iff (a := 10) (n := 500) (by decide) (by decide)).mp hQ
          refine g_aload_n X 0 rfl dX8_rebuild_33 ?_
          refine gg_X8_s X ⟨by decide, by decide⟩ fX8_34 dX8_rebuild_34 ?_
          refine g_iconst X 1 (by decide) dX8_rebuild_37 ?_
          refine g_callV X hR (rest := []) mX7_how lX8_85 (k_how hI V1 0 w.1 1 (by first | assumption | decide | omega) hM1.1 hw.1.1.2.2.2.2.2 (fun i hi => (hw.1.2.1 i hi).2.2.2.2.2.2.2) (by first | assumption | decide | omega)) rfl rfl (Nat.le_of_ble_eq_true rfl) ⟨by decide, by decide⟩ rfl rfl rfl ⟨Nat.le_of_ble_eq_true rfl, Nat.le_of_ble_eq_true rfl, Nat.le_of_ble_eq_true rfl, Nat.le_of_ble_eq_true rfl⟩ dX8_rebuild_38 (fun r10 V11 hz_12 => ?_)
          refine gG_ret hz_12.1 hz_12.2 ?_
          refine gG_st [.int (nI (sCnt w.1 1))] rfl ?_
          by_cases hon : sCnt w.1 1 = 0
          · skip
            refine g_if_le X 50 (by decide) dX8_rebuild_41 (fun c13 => ?_) (fun c13 => ?_)
            · refine g_aload_n X 0 rfl dX8_rebuild_50 ?_
              refine gg_X8_bears X ⟨by decide, by decide⟩ fX8_20 dX8_rebuild_51 ?_
              refine gG_top (nI (w.1.1 3)) (hM1.1.2.2.2.2.2.2.1) ?_
              refine g_istore_n X rfl dX8_rebuild_54 [(3, .int (nI (w.1.1 3))), (0, .ref (B.2.1 20 0 0)), (1, .int p), (2, .int q)] rfl (gnl_lt hnL (by decide)) ?_
              refine g_aload_n X 1 rfl dX8_rebuild_55 ?_
              refine g_iload_n X 2 rfl dX8_rebuild_56 ?_
              refine gp_X8_places X ⟨by decide, by decide⟩ fX8_16 dX8_rebuild_57 ?_
              refine gG_nm (fun V14 hV14 => ?_)
              refine g_aload_n X 1 rfl dX8_rebuild_60 ?_
              refine g_iload_n X 3 rfl dX8_rebuild_61 ?_
              refine gp_X8_bears X ⟨by decide, by decide⟩ fX8_20 dX8_rebuild_62 ?_
              refine gG_nm (fun V15 hV15 => ?_)
              refine g_iload_n X 0 rfl dX8_rebuild_65 ?_
              refine g_iret X F ?_ rfl dX8_rebuild_66
              rw [show oBuild w p q = (0, nI (w.1.1 3), (sPB w.1 j z, w.2)) from by
                unfold oBuild
                rw [if_pos ⟨hP, hQ⟩, if_pos ((on_none hw.1).mpr hon), j3, z3, nI_clamp (by omega), nI_clamp (by omega)]]
              refine ⟨rfl, by rw [hV15, gup_ne (by simp), hV14, gup_ne (by simp), hV1, gup_eq]; rfl, ⟨by rw [hV15, hV14, j3, z3]; exact hM1.1.build (fun i hi => of_decide_eq_false (cntF_0 hon i hi)), ⟨by rw [hV15, gup_ne (by simp), hV14, gup_ne (by simp)]; exact hM1.2.1.1, fun k hk => by rw [hV15, gup_ne (by simp), hV14, gup_ne (by simp)]; exact hM1.2.1.2 k hk⟩, fun k hk => by rw [hV15, gup_ne (by simp), hV14, gup_ne (by simp)]; exact hM1.2.2 k hk⟩, by rw [hV15, hV14]; exact (hm1.up (by decide) (by decide)).up (by decide) (by decide)⟩
            · first | exact absurd (by rw [hon]; decide) c13 | exact absurd c13 (by rw [hon]; decide)
          · skip
            refine g_if_le X 50 (by decide) dX8_rebuild_41 (fun c16 => ?_) (fun c16 => ?_)
            · first | exact absurd (nI_nle (Nat.pos_of_ne_zero hon) (by have := cntF_le (fun i => decide (w.1.2.2.2.1 i 8 = 1)) (w.1.1 6); have := hw.1.1.2.2.2.2.2; unfold sCnt; omega)) c16 | exact absurd c16 (nI_nle (Nat.pos_of_ne_zero hon) (by have := cntF_le (fun i => decide (w.1.2.2.2.1 i 8 = 1)) (w.1.1 6); have := hw.1.1.2.2.2.2.2; unfold sCnt; omega))
            · refine g_aload_n X 0 rfl dX8_rebuild_44 ?_
              refine g_iconst X 2 (by decide) dX8_rebuild_45 ?_
              refine g_callV X hR (rest := []) mX8_no lX8_59 (k_no hI V1 2 ) rfl rfl (Nat.le_of_ble_eq_true rfl) ⟨by decide, by decide⟩ rfl rfl rfl ⟨Nat.le_of_ble_eq_true rfl, Nat.le_of_ble_eq_true rfl, Nat.le_of_ble_eq_true rfl, Nat.le_of_ble_eq_true rfl⟩ dX8_rebuild_46 (fun r17 V18 hz_19 => ?_)
              refine gG_rv hz_19.1 ?_
              have hV18 := hz_19.2
              refine gG_st [.int 0] rfl ?_
              refine g_iret X F ?_ rfl dX8_rebuild_49
              rw [show oBuild w p q = (2, 0, w) from (if_pos ⟨hP, hQ⟩).trans (if_neg (fun z => hon ((on_none hw.1).mp z)))]
              exact ⟨rfl, by rw [hV18, gup_eq]; rfl, by rw [hV18]; exact hM1.thr _, by rw [hV18]; exact hm1.up (by decide) (by decide)⟩
        ·  exact absurd c9 (by decide)
      · refine gG_top 0 (if_neg (hQ)) ?_
        refine g_if_ne X 33 (by decide) dX8_rebuild_24 (fun c20 => ?_) (fun c20 => ?_)
        ·  exact absurd c20 (by decide)
        · refine g_aload_n X 0 rfl dX8_rebuild_27 ?_
          refine g_iconst X 1 (by decide) dX8_rebuild_28 ?_
          refine g_callV X hR (rest := []) mX8_no lX8_59 (k_no hI V1 1 ) rfl rfl (Nat.le_of_ble_eq_true rfl) ⟨by decide, by decide⟩ rfl rfl rfl ⟨Nat.le_of_ble_eq_true rfl, Nat.le_of_ble_eq_true rfl, Nat.le_of_ble_eq_true rfl, Nat.le_of_ble_eq_true rfl⟩ dX8_rebuild_29 (fun r21 V22 hz_23 => ?_)
          refine gG_rv hz_23.1 ?_
          have hV22 := hz_23.2
          refine gG_st [.int 0] rfl ?_
          refine g_iret X F ?_ rfl dX8_rebuild_32
          rw [show oBuild w p q = (1, 0, w) from if_neg (fun z => hQ z.2)]
          exact ⟨rfl, by rw [hV22, gup_eq]; rfl, by rw [hV22]; exact hM1.thr _, by rw [hV22]; exact hm1.up (by decide) (by decide)⟩
  · refine gG_top 0 (if_neg (hP)) ?_
    refine g_if_eq X 27 (by decide) dX8_rebuild_12 (fun c24 => ?_) (fun c24 => ?_)
    · refine g_aload_n X 0 rfl dX8_rebuild_27 ?_
      refine g_iconst X 1 (by decide) dX8_rebuild_28 ?_
      refine g_callV X hR (rest := []) mX8_no lX8_59 (k_no hI V1 1 ) rfl rfl (Nat.le_of_ble_eq_true rfl) ⟨by decide, by decide⟩ rfl rfl rfl ⟨Nat.le_of_ble_eq_true rfl, Nat.le_of_ble_eq_true rfl, Nat.le_of_ble_eq_true rfl, Nat.le_of_ble_eq_true rfl⟩ dX8_rebuild_29 (fun r25 V26 hz_27 => ?_)
      refine gG_rv hz_27.1 ?_
      have hV26 := hz_27.2
      refine gG_st [.int 0] rfl ?_
      refine g_iret X F ?_ rfl dX8_rebuild_32
      rw [show oBuild w p q = (1, 0, w) from if_neg (fun z => hP z.1)]
      exact ⟨rfl, by rw [hV26, gup_eq]; rfl, by rw [hV26]; exact hM1.thr _, by rw [hV26]; exact hm1.up (by decide) (by decide)⟩
    ·  exact absurd c24 (by decide)

abbrev rmX8_setToll : Room := { frames := 1, cells := 0, slots := 0, locals := 22 }
set_option maxRecDepth 20000 in
theorem k_MsetToll {l : Launch} {B : gB} (hI : gI B) (V : gMem) (w : gWd) (p : Int32) (q : Int32) (hM : MOk V w) (hw : wOk w) : gM l B yX8_setToll cX8_setToll 4 (some .int) rmX8_setToll [.ref (B.2.1 20 0 0), .int p, .int q] V (fun v V' => v = some (.int (oToll w p q).2.1) ∧ V' 20 0 0 0 = nI (oToll w p q).1 ∧ MOk V' (oToll w p q).2.2 ∧ mmod V V') := by
  refine gM_of (own := RX8) (L := [(0, .ref (B.2.1 20 0 0)), (1, .int p), (2, .int q)]) (by decide +kernel) rfl hI (Nat.le_of_ble_eq_true rfl) rfl ?_
  intro Z hnL hR X F
  refine g_aload_n X 0 rfl dX8_setToll_0 ?_
  refine g_iconst X 0 (by decide) dX8_setToll_1 ?_
  refine gp_X8_thrown X ⟨by decide, by decide⟩ fX8_41 dX8_setToll_2 ?_
  refine gG_nm (fun V1 hV1 => ?_)
  have hM1 : MOk V1 w := by rw [hV1]; exact hM.thr 0
  have hm1 : mmod V V1 := by rw [hV1]; exact mmod.rf.up (by decide) (by decide)
  refine g_iload_n X 1 rfl dX8_setToll_5 ?_
  refine g_iconst X 0 (by decide) dX8_setToll_6 ?_
  refine g_bipush X 9 (by decide) dX8_setToll_7 ?_
  refine g_callS X hR (As := [.int p, .int 0, .int 9]) (rest := []) mX8_isIn lX8_48 (k_isIn hI V1 p 0 9 ) rfl rfl (Nat.le_of_ble_eq_true rfl) ⟨Nat.le_of_ble_eq_true rfl, Nat.le_of_ble_eq_true rfl, Nat.le_of_ble_eq_true rfl, Nat.le_of_ble_eq_true rfl⟩ dX8_setToll_9 (fun r2 V3 hz_4 => ?_)
  refine gG_ret hz_4.1 hz_4.2 ?_
  refine gG_st [.int (if inB p 0 9 then 1 else 0)] rfl ?_
  by_cases hP : inB p 0 9
  · refine gG_top 1 (if_pos (hP)) ?_
    refine g_if_eq X 25 (by decide) dX8_setToll_12 (fun c5 => ?_) (fun c5 => ?_)
    ·  exact absurd c5 (by decide)
    · refine g_iload_n X 2 rfl dX8_setToll_15 ?_
      refine g_iconst X 0 (by decide) dX8_setToll_16 ?_
      refine g_bipush X 9 (by decide) dX8_setToll_17 ?_
      refine g_callS X hR (As := [.int q, .int 0, .int 9]) (rest := []) mX8_isIn lX8_48 (k_isIn hI V1 q 0 9 ) rfl rfl (Nat.le_of_ble_eq_true rfl) ⟨Nat.le_of_ble_eq_true rfl, Nat.le_of_ble_eq_true rfl, Nat.le_of_ble_eq_true rfl, Nat.le_of_ble_eq_true rfl⟩ dX8_setToll_19 (fun r6 V7 hz_8 => ?_)
      refine gG_ret hz_8.1 hz_8.2 ?_
      refine gG_st [.int (if inB q 0 9 then 1 else 0)] rfl ?_
      by_cases hQ : inB q 0 9
      · refine gG_top 1 (if_pos (hQ)) ?_
        refine g_if_ne X 31 (by decide) dX8_setToll_22 (fun c9 => ?_) (fun c9 => ?_)
        · obtain ⟨j, j1, j2, j3⟩ := (inB_iff (a := 0) (n := 9) (by decide) (by decide)).mp hP
          obtain ⟨z, z1, z2, z3⟩ := (inB_iff (a := 0) (n := 9) (by decide) (by decide)).mp hQ
          refine g_bipush X 10 (by decide) dX8_setToll_31 ?_
          refine g_aload_n X 0 rfl dX8_setToll_33 ?_
          refine gg_X8_axleToll X ⟨by decide, by decide⟩ fX8_23 dX8_setToll_34 ?_
          refine gG_top (nI (w.1.1 4)) (hM1.1.2.2.2.2.2.2.2.1) ?_
          refine g_imul X dX8_setToll_37 ?_
          refine gG_top (nI (10 * (w.1.1 4))) (pk_mul 10 (w.1.1 4)) ?_
          refine g_aload_n X 0 rfl dX8_setToll_38 ?_
          refine gg_X8_tenToll X ⟨by decide, by decide⟩ fX8_26 dX8_setToll_39 ?_
          refine gG_top (nI (w.1.1 5)) (hM1.1.2.2.2.2.2.2.2.2) ?_
          refine g_iadd X dX8_setToll_42 ?_
          refine gG_top (nI ((10 * (w.1.1 4)) + (w.1.1 5))) (nI_add (10 * (w.1.1 4)) (w.1.1 5)) ?_
          refine g_istore_n X rfl dX8_setToll_43 [(3, .int (nI ((10 * (w.1.1 4)) + (w.1.1 5)))), (0, .ref (B.2.1 20 0 0)), (1, .int p), (2, .int q)] rfl (gnl_lt hnL (by decide)) ?_
          refine g_aload_n X 1 rfl dX8_setToll_44 ?_
          refine g_iload_n X 2 rfl dX8_setToll_45 ?_
          refine gp_X8_axleToll X ⟨by decide, by decide⟩ fX8_23 dX8_setToll_46 ?_
          refine gG_nm (fun V10 hV10 => ?_)
          refine g_aload_n X 1 rfl dX8_setToll_49 ?_
          refine g_iload_n X 3 rfl dX8_setToll_50 ?_
          refine gp_X8_tenToll X ⟨by decide, by decide⟩ fX8_26 dX8_setToll_51 ?_
          refine gG_nm (fun V11 hV11 => ?_)
          refine g_iload_n X 0 rfl dX8_setToll_54 ?_
          refine g_iret X F ?_ rfl dX8_setToll_55
          rw [show oToll w p q = (0, nI (10 * w.1.1 4 + w.1.1 5), (sN (sN w.1 4 j) 5 z, w.2)) from by
            unfold oToll
            rw [if_pos ⟨hP, hQ⟩, j3, z3, nI_clamp (by omega), nI_clamp (by omega)]]
          refine ⟨rfl, by rw [hV11, gup_ne (by simp), hV10, gup_ne (by simp), hV1, gup_eq]; rfl, ⟨by rw [hV11, hV10, j3, z3]; exact hM1.1.toll, ⟨by rw [hV11, gup_ne (by simp), hV10, gup_ne (by simp)]; exact hM1.2.1.1, fun k hk => by rw [hV11, gup_ne (by simp), hV10, gup_ne (by simp)]; exact hM1.2.1.2 k hk⟩, fun k hk => by rw [hV11, gup_ne (by simp), hV10, gup_ne (by simp)]; exact hM1.2.2 k hk⟩, by rw [hV11, hV10]; exact (hm1.up (by decide) (by decide)).up (by decide) (by decide)⟩
        ·  exact absurd c9 (by decide)
      · refine gG_top 0 (if_neg (hQ)) ?_
        refine g_if_ne X 31 (by decide) dX8_setToll_22 (fun c12 => ?_) (fun c12 => ?_)
        ·  exact absurd c12 (by decide)
        · refine g_aload_n X 0 rfl dX8_setToll_25 ?_
          refine g_iconst X 1 (by decide) dX8_setToll_26 ?_
          refine g_callV X hR (rest := []) mX8_no lX8_59 (k_no hI V1 1 ) rfl rfl (Nat.le_of_ble_eq_true rfl) ⟨by decide, by decide⟩ rfl rfl rfl ⟨Nat.le_of_ble_eq_true rfl, Nat.le_of_ble_eq_true rfl, Nat.le_of_ble_eq_true rfl, Nat.le_of_ble_eq_true rfl⟩ dX8_setToll_27 (fun r13 V14 hz_15 => ?_)
          refine gG_rv hz_15.1 ?_
          have hV14 := hz_15.2
          refine gG_st [.int 0] rfl ?_
          refine g_iret X F ?_ rfl dX8_setToll_30
          rw [show oToll w p q = (1, 0, w) from if_neg (fun z => hQ z.2)]
          exact ⟨rfl, by rw [hV14, gup_eq]; rfl, by rw [hV14]; exact hM1.thr _, by rw [hV14]; exact hm1.up (by decide) (by decide)⟩
  · refine gG_top 0 (if_neg (hP)) ?_
    refine g_if_eq X 25 (by decide) dX8_setToll_12 (fun c16 => ?_) (fun c16 => ?_)
    · refine g_aload_n X 0 rfl dX8_setToll_25 ?_
      refine g_iconst X 1 (by decide) dX8_setToll_26 ?_
      refine g_callV X hR (rest := []) mX8_no lX8_59 (k_no hI V1 1 ) rfl rfl (Nat.le_of_ble_eq_true rfl) ⟨by decide, by decide⟩ rfl rfl rfl ⟨Nat.le_of_ble_eq_true rfl, Nat.le_of_ble_eq_true rfl, Nat.le_of_ble_eq_true rfl, Nat.le_of_ble_eq_true rfl⟩ dX8_setToll_27 (fun r17 V18 hz_19 => ?_)
      refine gG_rv hz_19.1 ?_
      have hV18 := hz_19.2
      refine gG_st [.int 0] rfl ?_
      refine g_iret X F ?_ rfl dX8_setToll_30
      rw [show oToll w p q = (1, 0, w) from if_neg (fun z => hP z.1)]
      exact ⟨rfl, by rw [hV18, gup_eq]; rfl, by rw [hV18]; exact hM1.thr _, by rw [hV18]; exact hm1.up (by decide) (by decide)⟩
    ·  exact absurd c16 (by decide)

abbrev rmX8_change : Room := { frames := 0, cells := 0, slots := 0, locals := 0 }
set_option maxRecDepth 20000 in
theorem k_Mchange {l : Launch} {B : gB} (hI : gI B) (V : gMem) (w : gWd) (hM : MOk V w) (hw : wOk w) : gM l B yX8_change cX8_change 1 (some .int) rmX8_change [.ref (B.2.1 20 0 0)] V (fun v V' => v = some (.int (nI (1 - w.1.1 1))) ∧ MOk V' (sTurn w.1, w.2) ∧ mmod V V') := by
  refine gM_of (own := RX8) (L := [(0, .ref (B.2.1 20 0 0))]) (by decide +kernel) rfl hI (Nat.le_of_ble_eq_true rfl) rfl ?_
  intro Z hnL hR X F
  refine g_aload_n X 0 rfl dX8_change_0 ?_
  refine g_iconst X 0 (by decide) dX8_change_1 ?_
  refine gp_X8_thrown X ⟨by decide, by decide⟩ fX8_41 dX8_change_2 ?_
  refine gG_nm (fun V1 hV1 => ?_)
  have hM1 : MOk V1 w := by rw [hV1]; exact hM.thr 0
  have hm1 : mmod V V1 := by rw [hV1]; exact mmod.rf.up (by decide) (by decide)
  refine g_aload_n X 0 rfl dX8_change_5 ?_
  refine gg_X8_s X ⟨by decide, by decide⟩ fX8_34 dX8_change_6 ?_
  refine g_iconst X 1 (by decide) dX8_change_9 ?_
  refine g_aload_n X 0 rfl dX8_change_10 ?_
  refine gg_X8_s X ⟨by decide, by decide⟩ fX8_34 dX8_change_11 ?_
  refine gg_X7_open X ⟨by decide, by decide⟩ fX8_88 dX8_change_14 ?_
  refine gG_top (nI (w.1.1 1)) (hM1.1.1.2.1) ?_
  refine g_isub X dX8_change_17 ?_
  refine gG_top (nI (1 - w.1.1 1)) (pk_sub (a := 1) hw.1.1.1) ?_
  refine gp_X7_open X ⟨by decide, by decide⟩ fX8_88 dX8_change_18 ?_
  refine gG_nm (fun V2 hV2 => ?_)
  refine g_aload_n X 0 rfl dX8_change_21 ?_
  refine gg_X8_s X ⟨by decide, by decide⟩ fX8_34 dX8_change_22 ?_
  refine gg_X7_open X ⟨by decide, by decide⟩ fX8_88 dX8_change_25 ?_
  refine gG_top (nI (1 - w.1.1 1)) (by rw [hV2, gup_eq]) ?_
  refine g_iret X F ?_ rfl dX8_change_28
  refine ⟨rfl, hM1.st (by rw [hV2]; exact stmod.rf.up (by decide) (by decide)) (by rw [hV2]; exact hM1.1.setN 1 _ (by decide)), by rw [hV2]; exact hm1.up (by decide) (by decide)⟩

abbrev rmX8_cartTold : Room := { frames := 1, cells := 0, slots := 0, locals := 22 }
set_option maxRecDepth 20000 in
theorem k_cartTold {l : Launch} {B : gB} (hI : gI B) (V : gMem) (S : gSt) (i : Nat) (f : Nat) (hA : AbsM V 0 S) (hn : sNumOk S) (hc : sCartOk S i) (hi : i < S.1 6) (hf : f < 9) : gM l B yX8_cartTold cX8_cartTold 3 (some .int) rmX8_cartTold [.ref (B.2.1 20 0 0), .int (nI i), .int (nI f)] V (fun v V' => v = some (.int (sTell S i f)) ∧ V' = V) := by
  refine gM_of (own := RX8) (L := [(0, .ref (B.2.1 20 0 0)), (1, .int (nI i)), (2, .int (nI f))]) (by decide +kernel) rfl hI (Nat.le_of_ble_eq_true rfl) rfl ?_
  intro Z hnL hR X F
  have hN : S.1 6 ≤ 16 := hn.2.2.2.2.2
  refine g_iload_n X 2 rfl dX8_cartTold_0 ?_
  refine g_bipush X 7 (by decide) dX8_cartTold_1 ?_
  by_cases hf7 : f = 7
  · skip
    refine g_icmp_ne X 41 (by decide) dX8_cartTold_3 (fun c1 => ?_) (fun c1 => ?_)
    · first | exact absurd (fun z => z (by rw [hf7]; rfl)) c1 | exact absurd c1 (fun z => z (by rw [hf7]; rfl))
    · refine g_aload_n X 0 rfl dX8_cartTold_6 ?_
      refine gg_X8_s X ⟨by decide, by decide⟩ fX8_34 dX8_cartTold_7 ?_
      refine g_iload_n X 1 rfl dX8_cartTold_10 ?_
      refine g_iconst X 0 (by decide) dX8_cartTold_11 ?_
      refine g_callV X hR (rest := []) mX7_own lX8_110 (k_ownM hI V 0 S i 0 (by first | assumption | decide | omega) hA (by first | assumption | decide | omega) (by first | assumption | decide | omega) (by decide)) rfl rfl (Nat.le_of_ble_eq_true rfl) ⟨by decide, by decide⟩ rfl rfl rfl ⟨Nat.le_of_ble_eq_true rfl, Nat.le_of_ble_eq_true rfl, Nat.le_of_ble_eq_true rfl, Nat.le_of_ble_eq_true rfl⟩ dX8_cartTold_12 (fun r2 V3 hz_4 => ?_)
      refine gG_ret hz_4.1 hz_4.2 ?_
      refine gG_st [.int (nI (S.2.2.2.1 i 2))] rfl ?_
      refine g_aload_n X 0 rfl dX8_cartTold_15 ?_
      refine gg_X8_axleToll X ⟨by decide, by decide⟩ fX8_23 dX8_cartTold_16 ?_
      refine gG_top (nI (S.1 4)) (hA.2.2.2.2.2.2.2.1) ?_
      refine g_imul X dX8_cartTold_19 ?_
      refine gG_top (nI ((S.2.2.2.1 i 2) * (S.1 4))) (pk_mul (S.2.2.2.1 i 2) (S.1 4)) ?_
      refine g_aload_n X 0 rfl dX8_cartTold_20 ?_
      refine gg_X8_s X ⟨by decide, by decide⟩ fX8_34 dX8_cartTold_21 ?_
      refine g_iload_n X 1 rfl dX8_cartTold_24 ?_
      refine g_iconst X 1 (by decide) dX8_cartTold_25 ?_
      refine g_callV X hR (rest := [.int (nI ((S.2.2.2.1 i 2) * (S.1 4)))]) mX7_own lX8_110 (k_ownM hI V 0 S i 1 (by first | assumption | decide | omega) hA (by first | assumption | decide | omega) (by first | assumption | decide | omega) (by decide)) rfl rfl (Nat.le_of_ble_eq_true rfl) ⟨by decide, by decide⟩ rfl rfl rfl ⟨Nat.le_of_ble_eq_true rfl, Nat.le_of_ble_eq_true rfl, Nat.le_of_ble_eq_true rfl, Nat.le_of_ble_eq_true rfl⟩ dX8_cartTold_26 (fun r5 V6 hz_7 => ?_)
      refine gG_ret hz_7.1 hz_7.2 ?_
      refine gG_st [.int (nI (S.2.2.2.1 i 3)), .int (nI ((S.2.2.2.1 i 2) * (S.1 4)))] rfl ?_
      refine g_bipush X 10 (by decide) dX8_cartTold_29 ?_
      refine g_idiv X (by decide) dX8_cartTold_31 ?_
      refine gG_top (nI (S.2.2.2.1 i 3 / 10)) (pk_div (d := 10) (by have := hc.2.2.1; omega) (by decide) (by decide)) ?_
      refine g_aload_n X 0 rfl dX8_cartTold_32 ?_
      refine gg_X8_tenToll X ⟨by decide, by decide⟩ fX8_26 dX8_cartTold_33 ?_
      refine gG_top (nI (S.1 5)) (hA.2.2.2.2.2.2.2.2) ?_
      refine g_imul X dX8_cartTold_36 ?_
      refine gG_top (nI ((S.2.2.2.1 i 3 / 10) * (S.1 5))) (pk_mul (S.2.2.2.1 i 3 / 10) (S.1 5)) ?_
      refine g_iadd X dX8_cartTold_37 ?_
      refine gG_top (nI (((S.2.2.2.1 i 2) * (S.1 4)) + ((S.2.2.2.1 i 3 / 10) * (S.1 5)))) (nI_add ((S.2.2.2.1 i 2) * (S.1 4)) ((S.2.2.2.1 i 3 / 10) * (S.1 5))) ?_
      refine g_goto X 50 (by decide) dX8_cartTold_38 ?_
      refine gG_top (sTell S i f) (by rw [hf7]; rfl) ?_
      refine g_iret X F ?_ rfl dX8_cartTold_50
      exact ⟨rfl, rfl⟩
  · skip
    refine g_icmp_ne X 41 (by decide) dX8_cartTold_3 (fun c8 => ?_) (fun c8 => ?_)
    · refine g_aload_n X 0 rfl dX8_cartTold_41 ?_
      refine gg_X8_s X ⟨by decide, by decide⟩ fX8_34 dX8_cartTold_42 ?_
      refine g_iload_n X 1 rfl dX8_cartTold_45 ?_
      refine g_iload_n X 2 rfl dX8_cartTold_46 ?_
      refine g_callV X hR (rest := []) mX7_own lX8_110 (k_own hI V 0 i f (by decide) (by omega) (by omega)) rfl rfl (Nat.le_of_ble_eq_true rfl) ⟨by decide, by decide⟩ rfl rfl rfl ⟨Nat.le_of_ble_eq_true rfl, Nat.le_of_ble_eq_true rfl, Nat.le_of_ble_eq_true rfl, Nat.le_of_ble_eq_true rfl⟩ dX8_cartTold_47 (fun r9 V10 hz_11 => ?_)
      refine gG_ret hz_11.1 hz_11.2 ?_
      refine gG_st [.int (V 24 0 0 (10 * i + f))] rfl ?_
      refine gG_top (sTell S i f) (by
        rw [hA.2.1 i hi f (by omega)]
        rcases (show f = 0 ∨ f = 1 ∨ f = 2 ∨ f = 3 ∨ f = 4 ∨ f = 5 ∨ f = 6 ∨ f = 8 by omega) with rfl | rfl | rfl | rfl | rfl | rfl | rfl | rfl <;> rfl) ?_
      refine g_iret X F ?_ rfl dX8_cartTold_50
      exact ⟨rfl, rfl⟩
    · first | exact absurd (fun z => hf7 ((nI_eq (b := 7) (by omega) (by decide)).mp z)) c8 | exact absurd c8 (fun z => hf7 ((nI_eq (b := 7) (by omega) (by decide)).mp z))

abbrev rmX8_isCart : Room := { frames := 1, cells := 0, slots := 0, locals := 22 }
set_option maxRecDepth 20000 in
theorem k_isCart {l : Launch} {B : gB} (hI : gI B) (V : gMem) (S : gSt) (x : Int32) (hA : AbsM V 0 S) (hn : S.1 6 ≤ 16) : gM l B yX8_isCart cX8_isCart 2 (some .boolean) rmX8_isCart [.ref (B.2.1 20 0 0), .int x] V (fun v V' => v = some (.int (if ixB x (nI (S.1 6)) then 1 else 0)) ∧ V' = V) := by
  refine gM_of (own := RX8) (L := [(0, .ref (B.2.1 20 0 0)), (1, .int x)]) (by decide +kernel) rfl hI (Nat.le_of_ble_eq_true rfl) rfl ?_
  intro Z hnL hR X F
  refine g_iload_n X 1 rfl dX8_isCart_0 ?_
  refine g_iconst X 0 (by decide) dX8_isCart_1 ?_
  refine g_aload_n X 0 rfl dX8_isCart_2 ?_
  refine gg_X8_s X ⟨by decide, by decide⟩ fX8_34 dX8_isCart_3 ?_
  refine gg_X7_carts X ⟨by decide, by decide⟩ fX8_91 dX8_isCart_6 ?_
  refine gG_top (nI (S.1 6)) (hA.1.2.2) ?_
  refine g_iconst X 1 (by decide) dX8_isCart_9 ?_
  refine g_isub X dX8_isCart_10 ?_
  refine g_callS X hR (As := [.int x, .int 0, .int ((nI (S.1 6)) - 1)]) (rest := []) mX8_isIn lX8_48 (k_isIn hI V x 0 ((nI (S.1 6)) - 1) ) rfl rfl (Nat.le_of_ble_eq_true rfl) ⟨Nat.le_of_ble_eq_true rfl, Nat.le_of_ble_eq_true rfl, Nat.le_of_ble_eq_true rfl, Nat.le_of_ble_eq_true rfl⟩ dX8_isCart_11 (fun r1 V2 hz_3 => ?_)
  refine gG_ret hz_3.1 hz_3.2 ?_
  refine gG_st [.int (if inB x 0 ((nI (S.1 6)) - 1) then 1 else 0)] rfl ?_
  refine gG_top (if ixB x (nI (S.1 6)) then 1 else 0) (sig_if (by omega)) ?_
  refine g_zret X F (by first | assumption | (split <;> rfl)) ?_ rfl dX8_isCart_14
  exact ⟨rfl, rfl⟩

abbrev rmX8_cart : Room := { frames := 2, cells := 0, slots := 0, locals := 44 }
set_option maxRecDepth 20000 in
theorem k_Mcart {l : Launch} {B : gB} (hI : gI B) (V : gMem) (w : gWd) (p : Int32) (q : Int32) (hM : MOk V w) (hw : wOk w) : gM l B yX8_cart cX8_cart 3 (some .int) rmX8_cart [.ref (B.2.1 20 0 0), .int p, .int q] V (fun v V' => v = some (.int (oCart w p q).2.1) ∧ V' 20 0 0 0 = nI (oCart w p q).1 ∧ MOk V' (oCart w p q).2.2 ∧ mmod V V') := by
  refine gM_of (own := RX8) (L := [(0, .ref (B.2.1 20 0 0)), (1, .int p), (2, .int q)]) (by decide +kernel) rfl hI (Nat.le_of_ble_eq_true rfl) rfl ?_
  intro Z hnL hR X F
  have hN : w.1.1 6 ≤ 16 := hw.1.1.2.2.2.2.2
  refine g_aload_n X 0 rfl dX8_cart_0 ?_
  refine g_iconst X 0 (by decide) dX8_cart_1 ?_
  refine gp_X8_thrown X ⟨by decide, by decide⟩ fX8_41 dX8_cart_2 ?_
  refine gG_nm (fun V1 hV1 => ?_)
  have hM1 : MOk V1 w := by rw [hV1]; exact hM.thr 0
  have hm1 : mmod V V1 := by rw [hV1]; exact mmod.rf.up (by decide) (by decide)
  refine g_aload_n X 0 rfl dX8_cart_5 ?_
  refine g_iload_n X 1 rfl dX8_cart_6 ?_
  refine g_callV X hR (rest := []) mX8_isCart lX8_113 (k_isCart hI V1 w.1 p hM1.1 hw.1.1.2.2.2.2.2) rfl rfl (Nat.le_of_ble_eq_true rfl) ⟨by decide, by decide⟩ rfl rfl rfl ⟨Nat.le_of_ble_eq_true rfl, Nat.le_of_ble_eq_true rfl, Nat.le_of_ble_eq_true rfl, Nat.le_of_ble_eq_true rfl⟩ dX8_cart_7 (fun r2 V3 hz_4 => ?_)
  refine gG_ret hz_4.1 hz_4.2 ?_
  refine gG_st [.int (if ixB p (nI (w.1.1 6)) then 1 else 0)] rfl ?_
  by_cases hP : ixB p (nI (w.1.1 6))
  · refine gG_top 1 (if_pos (hP)) ?_
    refine g_if_eq X 32 (by decide) dX8_cart_10 (fun c5 => ?_) (fun c5 => ?_)
    ·  exact absurd c5 (by decide)
    · refine g_iload_n X 2 rfl dX8_cart_13 ?_
      refine g_iconst X 0 (by decide) dX8_cart_14 ?_
      refine g_bipush X 8 (by decide) dX8_cart_15 ?_
      refine g_callS X hR (As := [.int q, .int 0, .int 8]) (rest := []) mX8_isIn lX8_48 (k_isIn hI V1 q 0 8 ) rfl rfl (Nat.le_of_ble_eq_true rfl) ⟨Nat.le_of_ble_eq_true rfl, Nat.le_of_ble_eq_true rfl, Nat.le_of_ble_eq_true rfl, Nat.le_of_ble_eq_true rfl⟩ dX8_cart_17 (fun r6 V7 hz_8 => ?_)
      refine gG_ret hz_8.1 hz_8.2 ?_
      refine gG_st [.int (if inB q 0 8 then 1 else 0)] rfl ?_
      by_cases hQ : ixB q 9
      · refine gG_top 1 (if_pos ((inB_ix (n := 8) (by decide)).mpr hQ)) ?_
        refine g_if_eq X 32 (by decide) dX8_cart_20 (fun c9 => ?_) (fun c9 => ?_)
        ·  exact absurd c9 (by decide)
        · obtain ⟨j, hj, hxj⟩ := (ixB_iff (n := w.1.1 6) (by omega)).mp hP
          obtain ⟨z, hz, hyz⟩ := (ixB_iff (n := 9) (by decide)).mp hQ
          subst hxj
          subst hyz
          refine g_aload_n X 0 rfl dX8_cart_23 ?_
          refine g_iload_n X 1 rfl dX8_cart_24 ?_
          refine g_iload_n X 2 rfl dX8_cart_25 ?_
          refine g_callV X hR (rest := []) mX8_cartTold lX8_116 (k_cartTold hI V1 w.1 j z hM1.1 hw.1.1 (hw.1.2.1 j hj) (by first | assumption | decide | omega) (by first | assumption | decide | omega)) rfl rfl (Nat.le_of_ble_eq_true rfl) ⟨by decide, by decide⟩ rfl rfl rfl ⟨Nat.le_of_ble_eq_true rfl, Nat.le_of_ble_eq_true rfl, Nat.le_of_ble_eq_true rfl, Nat.le_of_ble_eq_true rfl⟩ dX8_cart_26 (fun r10 V11 hz_12 => ?_)
          refine gG_ret hz_12.1 hz_12.2 ?_
          refine gG_st [.int (sTell w.1 j z)] rfl ?_
          refine g_goto X 37 (by decide) dX8_cart_29 ?_
          refine g_iret X F ?_ rfl dX8_cart_37
          rw [show oCart w (nI j) (nI z) = (0, sTell w.1 j z, w) from by unfold oCart; rw [if_pos ⟨hP, hQ⟩, nI_clamp (by omega), nI_clamp (by omega)]]
          exact ⟨rfl, by rw [hV1, gup_eq]; rfl, hM1, hm1⟩
      · refine gG_top 0 (if_neg (fun z => hQ ((inB_ix (n := 8) (by decide)).mp z))) ?_
        refine g_if_eq X 32 (by decide) dX8_cart_20 (fun c13 => ?_) (fun c13 => ?_)
        · refine g_aload_n X 0 rfl dX8_cart_32 ?_
          refine g_iconst X 1 (by decide) dX8_cart_33 ?_
          refine g_callV X hR (rest := []) mX8_no lX8_59 (k_no hI V1 1 ) rfl rfl (Nat.le_of_ble_eq_true rfl) ⟨by decide, by decide⟩ rfl rfl rfl ⟨Nat.le_of_ble_eq_true rfl, Nat.le_of_ble_eq_true rfl, Nat.le_of_ble_eq_true rfl, Nat.le_of_ble_eq_true rfl⟩ dX8_cart_34 (fun r14 V15 hz_16 => ?_)
          refine gG_rv hz_16.1 ?_
          have hV15 := hz_16.2
          refine gG_st [.int 0] rfl ?_
          refine g_iret X F ?_ rfl dX8_cart_37
          rw [show oCart w p q = (1, 0, w) from if_neg (fun z => hQ z.2)]
          exact ⟨rfl, by rw [hV15, gup_eq]; rfl, by rw [hV15]; exact hM1.thr _, by rw [hV15]; exact hm1.up (by decide) (by decide)⟩
        ·  exact absurd c13 (by decide)
  · refine gG_top 0 (if_neg (hP)) ?_
    refine g_if_eq X 32 (by decide) dX8_cart_10 (fun c17 => ?_) (fun c17 => ?_)
    · refine g_aload_n X 0 rfl dX8_cart_32 ?_
      refine g_iconst X 1 (by decide) dX8_cart_33 ?_
      refine g_callV X hR (rest := []) mX8_no lX8_59 (k_no hI V1 1 ) rfl rfl (Nat.le_of_ble_eq_true rfl) ⟨by decide, by decide⟩ rfl rfl rfl ⟨Nat.le_of_ble_eq_true rfl, Nat.le_of_ble_eq_true rfl, Nat.le_of_ble_eq_true rfl, Nat.le_of_ble_eq_true rfl⟩ dX8_cart_34 (fun r18 V19 hz_20 => ?_)
      refine gG_rv hz_20.1 ?_
      have hV19 := hz_20.2
      refine gG_st [.int 0] rfl ?_
      refine g_iret X F ?_ rfl dX8_cart_37
      rw [show oCart w p q = (1, 0, w) from if_neg (fun z => hP z.1)]
      exact ⟨rfl, by rw [hV19, gup_eq]; rfl, by rw [hV19]; exact hM1.thr _, by rw [hV19]; exact hm1.up (by decide) (by decide)⟩
    ·  exact absurd c17 (by decide)

