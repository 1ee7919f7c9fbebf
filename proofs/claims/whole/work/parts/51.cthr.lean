/-! the class's calls that may throw: what they answer, and who is thrown -/
abbrev opo (w : gWd) (o : gOu) (V : gMem) : Option Value → gMem → Prop := fun v V' => v = some (.int o.2.1) ∧ o.1 = 0 ∧ COk V' o.2.2 ∧ N15 V' ∧ cmod V V'
abbrev xpo (w : gWd) (o : gOu) (V : gMem) (c1 c2 : String) : String → gMem → Prop := fun E V' => V' = V ∧ o.2.2 = w ∧ ((E = c1 ∧ o.1 = 1) ∨ (E = c2 ∧ o.1 = 2))
theorem AbsC.fr {V V' : gMem} {S : gSt} (h : AbsC V 0 S) (hm : ∀ K b i, 10 ≤ K → K ≤ 15 → V' K b i = V K b i) : AbsC V' 0 S :=
  ⟨fun k hk => by rw [hm 10 0 0 (by decide) (by decide)]; exact h.1 k hk, fun r hr => (h.2.1 r hr).same (hm _ _ _ (by decide) (by decide)) (hm _ _ _ (by decide) (by decide)), fun x hx k h1 h2 => by rw [hm 12 0 x (by decide) (by decide)]; exact h.2.2.1 x hx k h1 h2, fun i hi k h1 h2 => by rw [hm 15 0 i (by decide) (by decide)]; exact h.2.2.2.1 i hi k h1 h2, fun i hi => by rw [hm 15 0 i (by decide) (by decide)]; exact h.2.2.2.2.1 i hi, fun i hi => by rw [hm 15 0 i (by decide) (by decide)]; exact h.2.2.2.2.2.1 i hi, fun h0 i h1 h2 => by rw [hm 15 0 i (by decide) (by decide)]; exact h.2.2.2.2.2.2 h0 i h1 h2⟩
theorem N15.fr {V V' : gMem} (h : N15 V) (hm : ∀ b i, V' 15 b i = V 15 b i) : N15 V' := fun b hb j hj => by rw [hm]; exact h b hb j hj
theorem cL_in {n a m : Nat} (ha : a < 10) (hm : m < 10) (hn : nLen n ≤ 10) : inB (cL n) (nI a) (nI m) ↔ (nOk n = true ∧ a ≤ nLen n ∧ nLen n ≤ m) := by
  unfold cL
  by_cases ho : nOk n = true
  · rw [if_pos ho]
    constructor
    · rintro ⟨h1, h2⟩; exact ⟨ho, (nI_leI (by omega) (by omega)).mp h1, (nI_leI (by omega) (by omega)).mp h2⟩
    · rintro ⟨-, h1, h2⟩; exact ⟨nI_le h1 (by omega), nI_le h2 (by omega)⟩
  · rw [if_neg ho]
    constructor
    · rintro ⟨h1, -⟩; exact absurd h1 (fun q => nI_pos (n := a) (by omega) (Int32.lt_of_le_of_lt q (by decide)))
    · rintro ⟨h1, -⟩; exact absurd h1 ho
theorem cL_row {n : Nat} (hn : n < 2 ^ 31) : inB (cL n) 1 6 ↔ rowB n 6 = true := by
  have h10 := nLen_10 hn
  refine (cL_in (a := 1) (m := 6) (by decide) (by decide) h10).trans (Iff.trans ?_ rowB_iff.symm)
  constructor
  · rintro ⟨h1, h2, h3⟩
    refine ⟨Nat.pos_of_ne_zero (fun q => ?_), h3, h1⟩
    rw [q, nLen_0] at h2
    omega
  · rintro ⟨h1, h2, h3⟩; exact ⟨h3, nLen_pos (by omega), h2⟩
theorem cL_row9 {n : Nat} (hn : n < 2 ^ 31) : inB (cL n) 0 9 ↔ (n = 0 ∨ rowB n 9 = true) := by
  have h10 := nLen_10 hn
  refine (cL_in (a := 0) (m := 9) (by decide) (by decide) h10).trans ?_
  constructor
  · rintro ⟨h1, h2, h3⟩
    by_cases h0 : n = 0
    · exact Or.inl h0
    · exact Or.inr (rowB_iff.mpr ⟨Nat.pos_of_ne_zero h0, h3, h1⟩)
  · rintro (h | h)
    · rw [h, nOk_0, nLen_0]; exact ⟨rfl, by decide, by decide⟩
    · obtain ⟨h1, h2, h3⟩ := rowB_iff.mp h; exact ⟨h3, Nat.zero_le _, h2⟩

abbrev rmX6_addSignal : Room := { frames := 6, cells := 1, slots := 6, locals := 82 }
set_option maxRecDepth 20000 in
theorem x_addSignal {l : Launch} {B : gB} (hlst : l.stackTraces = false) (hI : gI B) (V : gMem) (w : gWd) (x : Int32) (hQ : COk V w) (hw : wOk w) (hN : N15 V) : gXM l B yX6_addSignal cX6_addSignal 2 (some .int) rmX6_addSignal [.ref (B.2.1 0 0 0), .int x] V (opo w (oAdd w x) V) (xpo w (oAdd w x) V eA eS) := by
  refine gXM_of (own := RX6) (L := [(0, .ref (B.2.1 0 0 0)), (1, .int x)]) hlst (by decide +kernel) rfl hI (Nat.le_of_ble_eq_true rfl) rfl ?_
  intro Z hnL hR X T F
  rcases i32c x with hx | ⟨n, hn, hxn⟩
  · skip
    refine g_iload_n X 1 rfl dX6_addSignal_0 ?_
    refine g_callS X hR (As := [.int x]) (rest := []) mX4_lengthOf lX6_33 (k_lenNeg hI V x hx) rfl rfl (Nat.le_of_ble_eq_true rfl) ⟨Nat.le_of_ble_eq_true rfl, Nat.le_of_ble_eq_true rfl, Nat.le_of_ble_eq_true rfl, Nat.le_of_ble_eq_true rfl⟩ dX6_addSignal_1 (fun r1 V2 hz_3 => ?_)
    refine gG_ret hz_3.1 hz_3.2 ?_
    refine gG_st [.int ((-1))] rfl ?_
    refine g_iconst X 1 (by decide) dX6_addSignal_4 ?_
    refine g_bipush X 6 (by decide) dX6_addSignal_5 ?_
    refine g_callS X hR (As := [.int ((-1)), .int 1, .int 6]) (rest := []) mX6_isBetween lX6_39 (k_isBetween hI V (-1) 1 6 ) rfl rfl (Nat.le_of_ble_eq_true rfl) ⟨Nat.le_of_ble_eq_true rfl, Nat.le_of_ble_eq_true rfl, Nat.le_of_ble_eq_true rfl, Nat.le_of_ble_eq_true rfl⟩ dX6_addSignal_7 (fun r4 V5 hz_6 => ?_)
    refine gG_ret hz_6.1 hz_6.2 ?_
    refine gG_st [.int (if inB (-1) 1 6 then 1 else 0)] rfl ?_
    refine gG_top 0 (if_neg (by decide)) ?_
    refine g_if_ne X 23 (by decide) dX6_addSignal_10 (fun c7 => ?_) (fun c7 => ?_)
    ·  exact absurd c7 (by decide)
    · refine g_throw X T F tf_eA tw_eA to_eA ts_45 dX6_addSignal_13 dX6_addSignal_16 dX6_addSignal_17 dX6_addSignal_19 dX6_addSignal_22 ⟨Nat.le_of_ble_eq_true rfl, Nat.le_of_ble_eq_true rfl, Nat.le_of_ble_eq_true rfl, Nat.le_of_ble_eq_true rfl⟩ ?_
      rw [show oAdd w x = (1, 0, w) from if_neg (by rw [rowX_neg hx]; decide)]
      exact ⟨rfl, rfl, Or.inl ⟨rfl, rfl⟩⟩
  · subst hxn
    refine g_iload_n X 1 rfl dX6_addSignal_0 ?_
    refine g_callS X hR (As := [.int (nI n)]) (rest := []) mX4_lengthOf lX6_33 (k_lenN hI V n hn) rfl rfl (Nat.le_of_ble_eq_true rfl) ⟨Nat.le_of_ble_eq_true rfl, Nat.le_of_ble_eq_true rfl, Nat.le_of_ble_eq_true rfl, Nat.le_of_ble_eq_true rfl⟩ dX6_addSignal_1 (fun r8 V9 hz_10 => ?_)
    refine gG_ret hz_10.1 hz_10.2 ?_
    refine gG_st [.int (cL n)] rfl ?_
    refine g_iconst X 1 (by decide) dX6_addSignal_4 ?_
    refine g_bipush X 6 (by decide) dX6_addSignal_5 ?_
    refine g_callS X hR (As := [.int (cL n), .int 1, .int 6]) (rest := []) mX6_isBetween lX6_39 (k_isBetween hI V (cL n) 1 6 ) rfl rfl (Nat.le_of_ble_eq_true rfl) ⟨Nat.le_of_ble_eq_true rfl, Nat.le_of_ble_eq_true rfl, Nat.le_of_ble_eq_true rfl, Nat.le_of_ble_eq_true rfl⟩ dX6_addSignal_7 (fun r11 V12 hz_13 => ?_)
    refine gG_ret hz_13.1 hz_13.2 ?_
    refine gG_st [.int (if inB (cL n) 1 6 then 1 else 0)] rfl ?_
    by_cases hP : rowB n 6 = true
    · refine gG_top 1 (if_pos ((cL_row hn).mpr hP)) ?_
      refine g_if_ne X 23 (by decide) dX6_addSignal_10 (fun c14 => ?_) (fun c14 => ?_)
      · obtain ⟨r1, r2, r3⟩ := rowB_iff.mp hP
        have h8b := hw.2.1.1
        refine g_aload_n X 0 rfl dX6_addSignal_23 ?_
        refine gg_X6_code X ⟨by decide, by decide⟩ fX6_10 dX6_addSignal_24 ?_
        refine g_callV X hR (rest := []) mX2_isFull lX6_50 (k_isFull hI V w.2.1 hQ.2.1 hw.2.1) rfl rfl (Nat.le_of_ble_eq_true rfl) ⟨by decide, by decide⟩ rfl rfl rfl ⟨Nat.le_of_ble_eq_true rfl, Nat.le_of_ble_eq_true rfl, Nat.le_of_ble_eq_true rfl, Nat.le_of_ble_eq_true rfl⟩ dX6_addSignal_27 (fun r15 V16 hz_17 => ?_)
        refine gG_ret hz_17.1 hz_17.2 ?_
        refine gG_st [.int (if w.2.1.1 = 8 then 1 else 0)] rfl ?_
        by_cases h8 : w.2.1.1 = 8
        · refine gG_top 1 (if_pos h8) ?_
          refine g_if_ne X 44 (by decide) dX6_addSignal_30 (fun c18 => ?_) (fun c18 => ?_)
          · refine g_throw X T F tf_eS tw_eS to_eS ts_60 dX6_addSignal_44 dX6_addSignal_47 dX6_addSignal_48 dX6_addSignal_50 dX6_addSignal_53 ⟨Nat.le_of_ble_eq_true rfl, Nat.le_of_ble_eq_true rfl, Nat.le_of_ble_eq_true rfl, Nat.le_of_ble_eq_true rfl⟩ ?_
            rw [show oAdd w (nI n) = (2, 0, w) from by unfold oAdd; rw [if_pos (by rw [rowX_nI hn]; exact hP), nI_clamp hn, if_pos (Or.inr h8)]]
            exact ⟨rfl, rfl, Or.inr ⟨rfl, rfl⟩⟩
          ·  exact absurd c18 (by decide)
        · refine gG_top 0 (if_neg h8) ?_
          refine g_if_ne X 44 (by decide) dX6_addSignal_30 (fun c19 => ?_) (fun c19 => ?_)
          ·  exact absurd c19 (by decide)
          · refine g_aload_n X 0 rfl dX6_addSignal_33 ?_
            refine gg_X6_code X ⟨by decide, by decide⟩ fX6_10 dX6_addSignal_34 ?_
            refine g_iload_n X 1 rfl dX6_addSignal_37 ?_
            refine g_callV X hR (rest := []) mX2_isAmbiguousWith lX6_54 (k_amb hI V w.2.1 n hQ.2.1 hw.2.1 hn r3) rfl rfl (Nat.le_of_ble_eq_true rfl) ⟨by decide, by decide⟩ rfl rfl rfl ⟨Nat.le_of_ble_eq_true rfl, Nat.le_of_ble_eq_true rfl, Nat.le_of_ble_eq_true rfl, Nat.le_of_ble_eq_true rfl⟩ dX6_addSignal_38 (fun r20 V21 hz_22 => ?_)
            refine gG_ret hz_22.1 hz_22.2 ?_
            refine gG_st [.int (if cAmb w.2.1 n = true then 1 else 0)] rfl ?_
            by_cases hamb : cAmb w.2.1 n = true
            · refine gG_top 1 (if_pos (hamb)) ?_
              refine g_if_eq X 54 (by decide) dX6_addSignal_41 (fun c23 => ?_) (fun c23 => ?_)
              ·  exact absurd c23 (by decide)
              · refine g_throw X T F tf_eS tw_eS to_eS ts_60 dX6_addSignal_44 dX6_addSignal_47 dX6_addSignal_48 dX6_addSignal_50 dX6_addSignal_53 ⟨Nat.le_of_ble_eq_true rfl, Nat.le_of_ble_eq_true rfl, Nat.le_of_ble_eq_true rfl, Nat.le_of_ble_eq_true rfl⟩ ?_
                rw [show oAdd w (nI n) = (2, 0, w) from by unfold oAdd; rw [if_pos (by rw [rowX_nI hn]; exact hP), nI_clamp hn, if_pos (Or.inl hamb)]]
                exact ⟨rfl, rfl, Or.inr ⟨rfl, rfl⟩⟩
            · refine gG_top 0 (if_neg (hamb)) ?_
              refine g_if_eq X 54 (by decide) dX6_addSignal_41 (fun c24 => ?_) (fun c24 => ?_)
              · refine g_aload_n X 0 rfl dX6_addSignal_54 ?_
                refine gg_X6_code X ⟨by decide, by decide⟩ fX6_10 dX6_addSignal_55 ?_
                refine g_iload_n X 1 rfl dX6_addSignal_58 ?_
                refine g_callV X hR (rest := []) mX2_add lX6_63 (k_add hI V w.2.1 n hQ.2.1 hw.2.1 (by omega)) rfl rfl (Nat.le_of_ble_eq_true rfl) ⟨by decide, by decide⟩ rfl rfl rfl ⟨Nat.le_of_ble_eq_true rfl, Nat.le_of_ble_eq_true rfl, Nat.le_of_ble_eq_true rfl, Nat.le_of_ble_eq_true rfl⟩ dX6_addSignal_59 (fun r25 V26 hz_27 => ?_)
                refine gG_rv hz_27.1 ?_
                have hV26 := hz_27.2
                refine gG_st [.int (nI w.2.1.1)] rfl ?_
                refine g_widen (1, 6) (by decide) (by decide) ?_
                refine g_iretX X F ?_ rfl dX6_addSignal_62
                rw [show oAdd w (nI n) = (0, nI w.2.1.1, (w.1, cAdd w.2.1 n, w.2.2)) from by unfold oAdd; rw [if_pos (by rw [rowX_nI hn]; exact hP), nI_clamp hn, if_neg (fun z => z.elim hamb h8)]]
                exact ⟨rfl, rfl, ⟨hQ.1.fr (fun K b i q1 q2 => by rw [hV26, gup_off _ _ (by omega), gup_off _ _ (by omega)]), by rw [hV26]; exact hQ.2.1.add n, fun j hj => by rw [hV26, gup_ne (by simp), gup_ne (by simp)]; exact hQ.2.2 j hj⟩, hN.fr (fun b i => by rw [hV26, gup_off _ _ (by simp), gup_off _ _ (by simp)]), by rw [hV26]; exact (cmod.rf.up (by decide)).up (by decide)⟩
              ·  exact absurd c24 (by decide)
      ·  exact absurd c14 (by decide)
    · refine gG_top 0 (if_neg (fun z => hP ((cL_row hn).mp z))) ?_
      refine g_if_ne X 23 (by decide) dX6_addSignal_10 (fun c28 => ?_) (fun c28 => ?_)
      ·  exact absurd c28 (by decide)
      · refine g_throw X T F tf_eA tw_eA to_eA ts_45 dX6_addSignal_13 dX6_addSignal_16 dX6_addSignal_17 dX6_addSignal_19 dX6_addSignal_22 ⟨Nat.le_of_ble_eq_true rfl, Nat.le_of_ble_eq_true rfl, Nat.le_of_ble_eq_true rfl, Nat.le_of_ble_eq_true rfl⟩ ?_
        rw [show oAdd w (nI n) = (1, 0, w) from if_neg (by rw [rowX_nI hn]; exact hP)]
        exact ⟨rfl, rfl, Or.inl ⟨rfl, rfl⟩⟩

abbrev rmX6_read : Room := { frames := 6, cells := 1, slots := 6, locals := 94 }
set_option maxRecDepth 20000 in
theorem x_read {l : Launch} {B : gB} (hlst : l.stackTraces = false) (hI : gI B) (V : gMem) (w : gWd) (x : Int32) (q : Int32) (hQ : COk V w) (hw : wOk w) (hN : N15 V) : gXM l B yX6_read cX6_read 3 (some .int) rmX6_read [.ref (B.2.1 0 0 0), .int x, .int q] V (opo w (oRead w x q) V) (xpo w (oRead w x q) V eA eB) := by
  refine gXM_of (own := RX6) (L := [(0, .ref (B.2.1 0 0 0)), (1, .int x), (2, .int q)]) hlst (by decide +kernel) rfl hI (Nat.le_of_ble_eq_true rfl) rfl ?_
  intro Z hnL hR X T F
  rcases i32c x with hx | ⟨n, hn, hxn⟩
  · skip
    refine g_iload_n X 1 rfl dX6_read_0 ?_
    refine g_callS X hR (As := [.int x]) (rest := []) mX4_lengthOf lX6_33 (k_lenNeg hI V x hx) rfl rfl (Nat.le_of_ble_eq_true rfl) ⟨Nat.le_of_ble_eq_true rfl, Nat.le_of_ble_eq_true rfl, Nat.le_of_ble_eq_true rfl, Nat.le_of_ble_eq_true rfl⟩ dX6_read_1 (fun r1 V2 hz_3 => ?_)
    refine gG_ret hz_3.1 hz_3.2 ?_
    refine gG_st [.int ((-1))] rfl ?_
    refine g_iconst X 0 (by decide) dX6_read_4 ?_
    refine g_bipush X 9 (by decide) dX6_read_5 ?_
    refine g_callS X hR (As := [.int ((-1)), .int 0, .int 9]) (rest := []) mX6_isBetween lX6_39 (k_isBetween hI V (-1) 0 9 ) rfl rfl (Nat.le_of_ble_eq_true rfl) ⟨Nat.le_of_ble_eq_true rfl, Nat.le_of_ble_eq_true rfl, Nat.le_of_ble_eq_true rfl, Nat.le_of_ble_eq_true rfl⟩ dX6_read_7 (fun r4 V5 hz_6 => ?_)
    refine gG_ret hz_6.1 hz_6.2 ?_
    refine gG_st [.int (if inB (-1) 0 9 then 1 else 0)] rfl ?_
    refine gG_top 0 (if_neg (by decide)) ?_
    refine g_if_ne X 23 (by decide) dX6_read_10 (fun c7 => ?_) (fun c7 => ?_)
    ·  exact absurd c7 (by decide)
    · refine g_throw X T F tf_eA tw_eA to_eA ts_66 dX6_read_13 dX6_read_16 dX6_read_17 dX6_read_19 dX6_read_22 ⟨Nat.le_of_ble_eq_true rfl, Nat.le_of_ble_eq_true rfl, Nat.le_of_ble_eq_true rfl, Nat.le_of_ble_eq_true rfl⟩ ?_
      rw [show oRead w x q = (1, 0, w) from if_neg (fun z => z.elim (fun z => absurd hx (by rw [z]; decide)) (fun z => by rw [rowX_neg hx] at z; cases z))]
      exact ⟨rfl, rfl, Or.inl ⟨rfl, rfl⟩⟩
  · subst hxn
    refine g_iload_n X 1 rfl dX6_read_0 ?_
    refine g_callS X hR (As := [.int (nI n)]) (rest := []) mX4_lengthOf lX6_33 (k_lenN hI V n hn) rfl rfl (Nat.le_of_ble_eq_true rfl) ⟨Nat.le_of_ble_eq_true rfl, Nat.le_of_ble_eq_true rfl, Nat.le_of_ble_eq_true rfl, Nat.le_of_ble_eq_true rfl⟩ dX6_read_1 (fun r8 V9 hz_10 => ?_)
    refine gG_ret hz_10.1 hz_10.2 ?_
    refine gG_st [.int (cL n)] rfl ?_
    refine g_iconst X 0 (by decide) dX6_read_4 ?_
    refine g_bipush X 9 (by decide) dX6_read_5 ?_
    refine g_callS X hR (As := [.int (cL n), .int 0, .int 9]) (rest := []) mX6_isBetween lX6_39 (k_isBetween hI V (cL n) 0 9 ) rfl rfl (Nat.le_of_ble_eq_true rfl) ⟨Nat.le_of_ble_eq_true rfl, Nat.le_of_ble_eq_true rfl, Nat.le_of_ble_eq_true rfl, Nat.le_of_ble_eq_true rfl⟩ dX6_read_7 (fun r11 V12 hz_13 => ?_)
    refine gG_ret hz_13.1 hz_13.2 ?_
    refine gG_st [.int (if inB (cL n) 0 9 then 1 else 0)] rfl ?_
    by_cases hP : n = 0 ∨ rowB n 9 = true
    · refine gG_top 1 (if_pos ((cL_row9 hn).mpr hP)) ?_
      refine g_if_ne X 23 (by decide) dX6_read_10 (fun c14 => ?_) (fun c14 => ?_)
      · have hxr : nI n = 0 ∨ rowX (nI n) 9 = true := hP.elim (fun z => Or.inl (by rw [z]; rfl)) (fun z => Or.inr (by rw [rowX_nI hn]; exact z))
        have hok : nOk n = true := hP.elim (fun z => by rw [z]; exact nOk_0) (fun z => (rowB_iff.mp z).2.2)
        refine g_iload_n X 2 rfl dX6_read_23 ?_
        refine g_iconst X 3 (by decide) dX6_read_24 ?_
        refine g_callS X hR (As := [.int q, .int 3]) (rest := []) mX6_isIndex lX6_68 (k_isIndexD hI V q 3 ) rfl rfl (Nat.le_of_ble_eq_true rfl) ⟨Nat.le_of_ble_eq_true rfl, Nat.le_of_ble_eq_true rfl, Nat.le_of_ble_eq_true rfl, Nat.le_of_ble_eq_true rfl⟩ dX6_read_25 (fun r15 V16 hz_17 => ?_)
        refine gG_ret hz_17.1 hz_17.2 ?_
        refine gG_st [.int (if ixB q 3 then 1 else 0)] rfl ?_
        by_cases hW : inB q 0 2
        · refine gG_top 1 (if_pos ((inB_ix (n := 2) (by decide)).mp hW)) ?_
          refine g_if_ne X 41 (by decide) dX6_read_28 (fun c18 => ?_) (fun c18 => ?_)
          · obtain ⟨z, -, hz, hyz⟩ := (inB_iff (a := 0) (n := 2) (by decide) (by decide)).mp hW
            subst hyz
            refine g_aload_n X 0 rfl dX6_read_41 ?_
            refine gg_X6_code X ⟨by decide, by decide⟩ fX6_10 dX6_read_42 ?_
            refine g_iload_n X 1 rfl dX6_read_45 ?_
            refine g_iload_n X 2 rfl dX6_read_46 ?_
            refine g_callV X hR (rest := []) mX2_readRow lX6_77 (k_readRow hI V w.2.1 n z hQ.2.1 hw.2.1 hn hok (by omega)) rfl rfl (Nat.le_of_ble_eq_true rfl) ⟨by decide, by decide⟩ rfl rfl rfl ⟨Nat.le_of_ble_eq_true rfl, Nat.le_of_ble_eq_true rfl, Nat.le_of_ble_eq_true rfl, Nat.le_of_ble_eq_true rfl⟩ dX6_read_47 (fun r19 V20 hz_21 => ?_)
            refine gG_ret hz_21.1 hz_21.2 ?_
            refine gG_st [.int (cRead w.2.1 n z)] rfl ?_
            refine g_widen (1, 6) (by decide) (by decide) ?_
            refine g_iretX X F ?_ rfl dX6_read_50
            rw [show oRead w (nI n) (nI z) = (0, cRead w.2.1 n z, w) from by unfold oRead; rw [if_pos hxr, if_pos hW, nI_clamp hn, nI_clamp (by omega)]]
            exact ⟨rfl, rfl, hQ, hN, cmod.rf⟩
          ·  exact absurd c18 (by decide)
        · refine gG_top 0 (if_neg (fun z => hW ((inB_ix (n := 2) (by decide)).mpr z))) ?_
          refine g_if_ne X 41 (by decide) dX6_read_28 (fun c22 => ?_) (fun c22 => ?_)
          ·  exact absurd c22 (by decide)
          · refine g_throw X T F tf_eB tw_eB to_eB ts_74 dX6_read_31 dX6_read_34 dX6_read_35 dX6_read_37 dX6_read_40 ⟨Nat.le_of_ble_eq_true rfl, Nat.le_of_ble_eq_true rfl, Nat.le_of_ble_eq_true rfl, Nat.le_of_ble_eq_true rfl⟩ ?_
            rw [show oRead w (nI n) q = (2, 0, w) from (if_pos hxr).trans (if_neg hW)]
            exact ⟨rfl, rfl, Or.inr ⟨rfl, rfl⟩⟩
      ·  exact absurd c14 (by decide)
    · refine gG_top 0 (if_neg (fun z => hP ((cL_row9 hn).mp z))) ?_
      refine g_if_ne X 23 (by decide) dX6_read_10 (fun c23 => ?_) (fun c23 => ?_)
      ·  exact absurd c23 (by decide)
      · refine g_throw X T F tf_eA tw_eA to_eA ts_66 dX6_read_13 dX6_read_16 dX6_read_17 dX6_read_19 dX6_read_22 ⟨Nat.le_of_ble_eq_true rfl, Nat.le_of_ble_eq_true rfl, Nat.le_of_ble_eq_true rfl, Nat.le_of_ble_eq_true rfl⟩ ?_
        rw [show oRead w (nI n) q = (1, 0, w) from if_neg (fun z => z.elim (fun z => hP (Or.inl ((nI_eq (b := 0) hn (by decide)).mp z))) (fun z => hP (Or.inr (by rw [rowX_nI hn] at z; exact z))))]
        exact ⟨rfl, rfl, Or.inl ⟨rfl, rfl⟩⟩

abbrev rmX6_heard : Room := { frames := 6, cells := 1, slots := 6, locals := 82 }
set_option maxRecDepth 20000 in
theorem x_heard {l : Launch} {B : gB} (hlst : l.stackTraces = false) (hI : gI B) (V : gMem) (w : gWd) (x : Int32) (hQ : COk V w) (hw : wOk w) (hN : N15 V) (ht : w.1.1 0 < 2 ^ 20) : gXM l B yX6_heard cX6_heard 2 (some .int) rmX6_heard [.ref (B.2.1 0 0 0), .int x] V (opo w (oHeard w x) V) (xpo w (oHeard w x) V eB eB) := by
  refine gXM_of (own := RX6) (L := [(0, .ref (B.2.1 0 0 0)), (1, .int x)]) hlst (by decide +kernel) rfl hI (Nat.le_of_ble_eq_true rfl) rfl ?_
  intro Z hnL hR X T F
  refine g_iload_n X 1 rfl dX6_heard_0 ?_
  refine g_aload_n X 0 rfl dX6_heard_1 ?_
  refine gg_X6_code X ⟨by decide, by decide⟩ fX6_10 dX6_heard_2 ?_
  refine gg_X2_size X ⟨by decide, by decide⟩ fX6_81 dX6_heard_5 ?_
  refine gG_top (nI w.2.1.1) (hQ.2.1.1) ?_
  refine g_callS X hR (As := [.int x, .int (nI w.2.1.1)]) (rest := []) mX6_isIndex lX6_68 (k_isIndexD hI V x (nI w.2.1.1) ) rfl rfl (Nat.le_of_ble_eq_true rfl) ⟨Nat.le_of_ble_eq_true rfl, Nat.le_of_ble_eq_true rfl, Nat.le_of_ble_eq_true rfl, Nat.le_of_ble_eq_true rfl⟩ dX6_heard_8 (fun r1 V2 hz_3 => ?_)
  refine gG_ret hz_3.1 hz_3.2 ?_
  refine gG_st [.int (if ixB x (nI w.2.1.1) then 1 else 0)] rfl ?_
  by_cases hP : ixB x (nI w.2.1.1)
  · refine gG_top 1 (if_pos (hP)) ?_
    refine g_if_ne X 24 (by decide) dX6_heard_11 (fun c4 => ?_) (fun c4 => ?_)
    · obtain ⟨j, hj, hxj⟩ := (ixB_iff (n := w.2.1.1) (by have := hw.2.1.1; omega)).mp hP
      subst hxj
      have hsl := hw.2.1.len hj
      have hs31 := hw.2.1.lt hj
      have h8 := hw.2.1.1
      refine g_aload_n X 0 rfl dX6_heard_24 ?_
      refine g_aload_n X 0 rfl dX6_heard_25 ?_
      refine gg_X6_code X ⟨by decide, by decide⟩ fX6_10 dX6_heard_26 ?_
      refine g_iload_n X 1 rfl dX6_heard_29 ?_
      refine g_callV X hR (rest := [.ref (B.2.1 0 0 0)]) mX2_ringsOf lX6_87 (k_ringsOf hI V w.2.1 j hQ.2.1 hw.2.1 hj) rfl rfl (Nat.le_of_ble_eq_true rfl) ⟨by decide, by decide⟩ rfl rfl rfl ⟨Nat.le_of_ble_eq_true rfl, Nat.le_of_ble_eq_true rfl, Nat.le_of_ble_eq_true rfl, Nat.le_of_ble_eq_true rfl⟩ dX6_heard_30 (fun r5 V6 hz_7 => ?_)
      refine gG_ret hz_7.1 hz_7.2 ?_
      refine gG_st [.int (nI (w.2.1.2 j)), .ref (B.2.1 0 0 0)] rfl ?_
      refine g_aload_n X 0 rfl dX6_heard_33 ?_
      refine gg_X6_bridge X ⟨by decide, by decide⟩ fX6_23 dX6_heard_34 ?_
      refine gg_X0_tick X ⟨by decide, by decide⟩ fX6_90 dX6_heard_37 ?_
      refine gG_top (nI (w.1.1 0)) (hQ.1.1 0 (by decide)) ?_
      refine g_callV X hR (rest := []) mX6_ringsHeard lX6_93 (k_ringsHeard hI V w (w.2.1.2 j) (w.1.1 0) (by first | assumption | decide | omega) (by first | assumption | decide | omega) hs31 (hw.2.1.2 j hj).1 hsl.2 (by omega)) rfl rfl (Nat.le_of_ble_eq_true rfl) ⟨by decide, by decide⟩ rfl rfl rfl ⟨Nat.le_of_ble_eq_true rfl, Nat.le_of_ble_eq_true rfl, Nat.le_of_ble_eq_true rfl, Nat.le_of_ble_eq_true rfl⟩ dX6_heard_40 (fun r8 V9 hz_10 => ?_)
      refine gG_ret hz_10.1 hz_10.2 ?_
      refine gG_st [.int (nI (hTold (w.2.1.2 j) (nLen (w.2.1.2 j)) w.2.2 (w.1.1 0) (nLen (w.2.1.2 j))))] rfl ?_
      refine g_widen (1, 6) (by decide) (by decide) ?_
      refine g_iretX X F ?_ rfl dX6_heard_43
      rw [show oHeard w (nI j) = (0, nI (hTold (w.2.1.2 j) (nLen (w.2.1.2 j)) w.2.2 (w.1.1 0) (nLen (w.2.1.2 j))), w) from by unfold oHeard; rw [if_pos hP, nI_clamp (by omega)]]
      exact ⟨rfl, rfl, hQ, hN, cmod.rf⟩
    ·  exact absurd c4 (by decide)
  · refine gG_top 0 (if_neg (hP)) ?_
    refine g_if_ne X 24 (by decide) dX6_heard_11 (fun c11 => ?_) (fun c11 => ?_)
    ·  exact absurd c11 (by decide)
    · refine g_throw X T F tf_eB tw_eB to_eB ts_85 dX6_heard_14 dX6_heard_17 dX6_heard_18 dX6_heard_20 dX6_heard_23 ⟨Nat.le_of_ble_eq_true rfl, Nat.le_of_ble_eq_true rfl, Nat.le_of_ble_eq_true rfl, Nat.le_of_ble_eq_true rfl⟩ ?_
      rw [show oHeard w x = (1, 0, w) from if_neg hP]
      exact ⟨rfl, rfl, Or.inl ⟨rfl, rfl⟩⟩

abbrev rmX6_safe : Room := { frames := 6, cells := 1, slots := 6, locals := 119 }
set_option maxRecDepth 20000 in
theorem x_safe {l : Launch} {B : gB} (hlst : l.stackTraces = false) (hI : gI B) (V : gMem) (w : gWd) (x : Int32) (hQ : COk V w) (hw : wOk w) (hN : N15 V) : gXM l B yX6_safe cX6_safe 2 (some .int) rmX6_safe [.ref (B.2.1 0 0 0), .int x] V (opo w (oSafe w x) V) (xpo w (oSafe w x) V eB eB) := by
  refine gXM_of (own := RX6) (L := [(0, .ref (B.2.1 0 0 0)), (1, .int x)]) hlst (by decide +kernel) rfl hI (Nat.le_of_ble_eq_true rfl) rfl ?_
  intro Z hnL hR X T F
  refine g_iload_n X 1 rfl dX6_safe_0 ?_
  refine g_aload_n X 0 rfl dX6_safe_1 ?_
  refine gg_X6_code X ⟨by decide, by decide⟩ fX6_10 dX6_safe_2 ?_
  refine gg_X2_size X ⟨by decide, by decide⟩ fX6_81 dX6_safe_5 ?_
  refine gG_top (nI w.2.1.1) (hQ.2.1.1) ?_
  refine g_callS X hR (As := [.int x, .int (nI w.2.1.1)]) (rest := []) mX6_isIndex lX6_68 (k_isIndexD hI V x (nI w.2.1.1) ) rfl rfl (Nat.le_of_ble_eq_true rfl) ⟨Nat.le_of_ble_eq_true rfl, Nat.le_of_ble_eq_true rfl, Nat.le_of_ble_eq_true rfl, Nat.le_of_ble_eq_true rfl⟩ dX6_safe_8 (fun r1 V2 hz_3 => ?_)
  refine gG_ret hz_3.1 hz_3.2 ?_
  refine gG_st [.int (if ixB x (nI w.2.1.1) then 1 else 0)] rfl ?_
  by_cases hP : ixB x (nI w.2.1.1)
  · refine gG_top 1 (if_pos (hP)) ?_
    refine g_if_ne X 24 (by decide) dX6_safe_11 (fun c4 => ?_) (fun c4 => ?_)
    · obtain ⟨j, hj, hxj⟩ := (ixB_iff (n := w.2.1.1) (by have := hw.2.1.1; omega)).mp hP
      subst hxj
      have hsl := hw.2.1.len hj
      have hs31 := hw.2.1.lt hj
      have h8 := hw.2.1.1
      refine g_aload_n X 0 rfl dX6_safe_24 ?_
      refine gg_X6_code X ⟨by decide, by decide⟩ fX6_10 dX6_safe_25 ?_
      refine g_aload_n X 0 rfl dX6_safe_28 ?_
      refine gg_X6_code X ⟨by decide, by decide⟩ fX6_10 dX6_safe_29 ?_
      refine g_iload_n X 1 rfl dX6_safe_32 ?_
      refine g_callV X hR (rest := [.ref (B.2.1 1 0 0)]) mX2_ringsOf lX6_87 (k_ringsOf hI V w.2.1 j hQ.2.1 hw.2.1 hj) rfl rfl (Nat.le_of_ble_eq_true rfl) ⟨by decide, by decide⟩ rfl rfl rfl ⟨Nat.le_of_ble_eq_true rfl, Nat.le_of_ble_eq_true rfl, Nat.le_of_ble_eq_true rfl, Nat.le_of_ble_eq_true rfl⟩ dX6_safe_33 (fun r5 V6 hz_7 => ?_)
      refine gG_ret hz_7.1 hz_7.2 ?_
      refine gG_st [.int (nI (w.2.1.2 j)), .ref (B.2.1 1 0 0)] rfl ?_
      refine g_callV X hR (rest := []) mX2_safeRings lX6_96 (k_safeR hI V w.2.1 (w.2.1.2 j) hQ.2.1 hw.2.1 hsl.2 hs31 (hw.2.1.2 j hj).1) rfl rfl (Nat.le_of_ble_eq_true rfl) ⟨by decide, by decide⟩ rfl rfl rfl ⟨Nat.le_of_ble_eq_true rfl, Nat.le_of_ble_eq_true rfl, Nat.le_of_ble_eq_true rfl, Nat.le_of_ble_eq_true rfl⟩ dX6_safe_36 (fun r8 V9 hz_10 => ?_)
      refine gG_ret hz_10.1 hz_10.2 ?_
      refine gG_st [.int (nI (cSafe w.2.1 (w.2.1.2 j)))] rfl ?_
      refine g_widen (1, 6) (by decide) (by decide) ?_
      refine g_iretX X F ?_ rfl dX6_safe_39
      rw [show oSafe w (nI j) = (0, nI (cSafe w.2.1 (w.2.1.2 j)), w) from by unfold oSafe; rw [if_pos hP, nI_clamp (by omega)]]
      exact ⟨rfl, rfl, hQ, hN, cmod.rf⟩
    ·  exact absurd c4 (by decide)
  · refine gG_top 0 (if_neg (hP)) ?_
    refine g_if_ne X 24 (by decide) dX6_safe_11 (fun c11 => ?_) (fun c11 => ?_)
    ·  exact absurd c11 (by decide)
    · refine g_throw X T F tf_eB tw_eB to_eB ts_85 dX6_safe_14 dX6_safe_17 dX6_safe_18 dX6_safe_20 dX6_safe_23 ⟨Nat.le_of_ble_eq_true rfl, Nat.le_of_ble_eq_true rfl, Nat.le_of_ble_eq_true rfl, Nat.le_of_ble_eq_true rfl⟩ ?_
      rw [show oSafe w x = (1, 0, w) from if_neg hP]
      exact ⟨rfl, rfl, Or.inl ⟨rfl, rfl⟩⟩

abbrev rmX6_rows : Room := { frames := 6, cells := 1, slots := 6, locals := 88 }
set_option maxRecDepth 20000 in
theorem x_rows {l : Launch} {B : gB} (hlst : l.stackTraces = false) (hI : gI B) (V : gMem) (w : gWd) (x : Int32) (hQ : COk V w) (hw : wOk w) (hN : N15 V) : gXM l B yX6_rows cX6_rows 2 (some .int) rmX6_rows [.ref (B.2.1 0 0 0), .int x] V (opo w (oRows w x) V) (xpo w (oRows w x) V eA eA) := by
  refine gXM_of (own := RX6) (L := [(0, .ref (B.2.1 0 0 0)), (1, .int x)]) hlst (by decide +kernel) rfl hI (Nat.le_of_ble_eq_true rfl) rfl ?_
  intro Z hnL hR X T F
  refine g_iload_n X 1 rfl dX6_rows_0 ?_
  refine g_iconst X 0 (by decide) dX6_rows_1 ?_
  refine g_bipush X 20 (by decide) dX6_rows_2 ?_
  refine g_callS X hR (As := [.int x, .int 0, .int 20]) (rest := []) mX6_isBetween lX6_39 (k_isBetween hI V x 0 20 ) rfl rfl (Nat.le_of_ble_eq_true rfl) ⟨Nat.le_of_ble_eq_true rfl, Nat.le_of_ble_eq_true rfl, Nat.le_of_ble_eq_true rfl, Nat.le_of_ble_eq_true rfl⟩ dX6_rows_4 (fun r1 V2 hz_3 => ?_)
  refine gG_ret hz_3.1 hz_3.2 ?_
  refine gG_st [.int (if inB x 0 20 then 1 else 0)] rfl ?_
  by_cases hP : inB x 0 20
  · refine gG_top 1 (if_pos (hP)) ?_
    refine g_if_ne X 20 (by decide) dX6_rows_7 (fun c4 => ?_) (fun c4 => ?_)
    · obtain ⟨j, j1, j2, jx⟩ := (inB_iff (a := 0) (n := 20) (by decide) (by decide)).mp hP
      subst jx
      refine g_aload_n X 0 rfl dX6_rows_20 ?_
      refine gg_X6_code X ⟨by decide, by decide⟩ fX6_10 dX6_rows_21 ?_
      refine g_iload_n X 1 rfl dX6_rows_24 ?_
      refine g_callV X hR (rest := []) mX2_wholeRows lX6_101 (k_whole hI V w.2.1 j hQ.2.1 hw.2.1 j2) rfl rfl (Nat.le_of_ble_eq_true rfl) ⟨by decide, by decide⟩ rfl rfl rfl ⟨Nat.le_of_ble_eq_true rfl, Nat.le_of_ble_eq_true rfl, Nat.le_of_ble_eq_true rfl, Nat.le_of_ble_eq_true rfl⟩ dX6_rows_25 (fun r5 V6 hz_7 => ?_)
      refine gG_rv hz_7.1 ?_
      have hothV6 := hz_7.2
      refine gG_st [.int (cRows w.2.1 j)] rfl ?_
      refine g_widen (1, 6) (by decide) (by decide) ?_
      refine g_iretX X F ?_ rfl dX6_rows_28
      rw [show oRows w (nI j) = (0, cRows w.2.1 j, w) from by unfold oRows; rw [if_pos hP, nI_clamp (by omega)]]
      exact ⟨rfl, rfl, ⟨hQ.1.fr (fun K b i q1 q2 => hothV6 K b i (by omega)), ⟨by rw [hothV6 1 0 0 (by decide)]; exact hQ.2.1.1, fun k hk => by rw [hothV6 2 0 0 (by decide)]; exact hQ.2.1.2 k hk⟩, fun k hk => by rw [hothV6 4 0 0 (by decide)]; exact hQ.2.2 k hk⟩, hN.fr (fun b i => hothV6 15 b i (by omega)), fun K b i hn => hothV6 K b i (by omega)⟩
    ·  exact absurd c4 (by decide)
  · refine gG_top 0 (if_neg (hP)) ?_
    refine g_if_ne X 20 (by decide) dX6_rows_7 (fun c8 => ?_) (fun c8 => ?_)
    ·  exact absurd c8 (by decide)
    · refine g_throw X T F tf_eA tw_eA to_eA ts_99 dX6_rows_10 dX6_rows_13 dX6_rows_14 dX6_rows_16 dX6_rows_19 ⟨Nat.le_of_ble_eq_true rfl, Nat.le_of_ble_eq_true rfl, Nat.le_of_ble_eq_true rfl, Nat.le_of_ble_eq_true rfl⟩ ?_
      rw [show oRows w x = (1, 0, w) from if_neg hP]
      exact ⟨rfl, rfl, Or.inl ⟨rfl, rfl⟩⟩

abbrev rmX6_setFog : Room := { frames := 6, cells := 1, slots := 6, locals := 82 }
set_option maxRecDepth 20000 in
theorem x_setFog {l : Launch} {B : gB} (hlst : l.stackTraces = false) (hI : gI B) (V : gMem) (w : gWd) (x : Int32) (y : Int32) (hQ : COk V w) (hw : wOk w) (hN : N15 V) : gXM l B yX6_setFog cX6_setFog 4 (some .int) rmX6_setFog [.ref (B.2.1 0 0 0), .int x, .int y] V (opo w (oFog w x y) V) (xpo w (oFog w x y) V eB eA) := by
  refine gXM_of (own := RX6) (L := [(0, .ref (B.2.1 0 0 0)), (1, .int x), (2, .int y)]) hlst (by decide +kernel) rfl hI (Nat.le_of_ble_eq_true rfl) rfl ?_
  intro Z hnL hR X T F
  refine g_iload_n X 1 rfl dX6_setFog_0 ?_
  refine g_aload_n X 0 rfl dX6_setFog_1 ?_
  refine gg_X6_fog X ⟨by decide, by decide⟩ fX6_16 dX6_setFog_2 ?_
  refine g_alen X (v := 20) ⟨by decide, by decide⟩ rfl (by decide) dX6_setFog_5 ?_
  refine g_callS X hR (As := [.int x, .int 20]) (rest := []) mX6_isIndex lX6_68 (k_isIndexD hI V x 20 ) rfl rfl (Nat.le_of_ble_eq_true rfl) ⟨Nat.le_of_ble_eq_true rfl, Nat.le_of_ble_eq_true rfl, Nat.le_of_ble_eq_true rfl, Nat.le_of_ble_eq_true rfl⟩ dX6_setFog_6 (fun r1 V2 hz_3 => ?_)
  refine gG_ret hz_3.1 hz_3.2 ?_
  refine gG_st [.int (if ixB x 20 then 1 else 0)] rfl ?_
  by_cases hP : ixB x 20
  · refine gG_top 1 (if_pos (hP)) ?_
    refine g_if_ne X 22 (by decide) dX6_setFog_9 (fun c4 => ?_) (fun c4 => ?_)
    · refine g_iload_n X 2 rfl dX6_setFog_22 ?_
      refine g_iconst X 0 (by decide) dX6_setFog_23 ?_
      refine g_bipush X 9 (by decide) dX6_setFog_24 ?_
      refine g_callS X hR (As := [.int y, .int 0, .int 9]) (rest := []) mX6_isBetween lX6_39 (k_isBetween hI V y 0 9 ) rfl rfl (Nat.le_of_ble_eq_true rfl) ⟨Nat.le_of_ble_eq_true rfl, Nat.le_of_ble_eq_true rfl, Nat.le_of_ble_eq_true rfl, Nat.le_of_ble_eq_true rfl⟩ dX6_setFog_26 (fun r5 V6 hz_7 => ?_)
      refine gG_ret hz_7.1 hz_7.2 ?_
      refine gG_st [.int (if inB y 0 9 then 1 else 0)] rfl ?_
      by_cases hW : inB y 0 9
      · refine gG_top 1 (if_pos (hW)) ?_
        refine g_if_ne X 42 (by decide) dX6_setFog_29 (fun c8 => ?_) (fun c8 => ?_)
        · obtain ⟨j, j1, jx⟩ := (ixB_iff (n := 20) (by first | decide | omega)).mp hP
          subst jx
          obtain ⟨z, z1, z2, zx⟩ := (inB_iff (a := 0) (n := 9) (by decide) (by decide)).mp hW
          subst zx
          refine g_aload_n X 0 rfl dX6_setFog_42 ?_
          refine gg_X6_fog X ⟨by decide, by decide⟩ fX6_16 dX6_setFog_43 ?_
          refine g_iload_n X 1 rfl dX6_setFog_46 ?_
          refine g_ialdN X (j) rfl j1 (by decide) ⟨by decide, by decide⟩ rfl dX6_setFog_47 ?_
          refine gG_top (nI (w.2.2 j)) (hQ.2.2 j j1) ?_
          refine g_istore_n X rfl dX6_setFog_48 [(3, .int (nI (w.2.2 j))), (0, .ref (B.2.1 0 0 0)), (1, .int (nI j)), (2, .int (nI z))] rfl (gnl_lt hnL (by decide)) ?_
          refine g_aload_n X 1 rfl dX6_setFog_49 ?_
          refine gg_X6_fog X ⟨by decide, by decide⟩ fX6_16 dX6_setFog_50 ?_
          refine g_iload_n X 2 rfl dX6_setFog_53 ?_
          refine g_iload_n X 3 rfl dX6_setFog_54 ?_
          refine g_iastN X (j) rfl j1 (by decide) ⟨by decide, by decide⟩ (fun _ => rfl) dX6_setFog_55 ?_
          refine gG_nm (fun V9 hV9 => ?_)
          refine g_iload_n X 0 rfl dX6_setFog_56 ?_
          refine g_widen (1, 6) (by decide) (by decide) ?_
          refine g_iretX X F ?_ rfl dX6_setFog_57
          rw [show oFog w (nI j) (nI z) = (0, nI (w.2.2 j), (w.1, w.2.1, fgU w.2.2 j z)) from by unfold oFog; rw [if_pos hP, if_pos hW, nI_clamp (by omega), nI_clamp (by omega)]]
          refine ⟨rfl, rfl, ⟨hQ.1.fr (fun K b i q1 q2 => by rw [hV9, gup_off _ _ (by omega)]), ⟨by rw [hV9, gup_ne (by simp)]; exact hQ.2.1.1, fun k hk => by rw [hV9, gup_ne (by simp)]; exact hQ.2.1.2 k hk⟩, fun k hk => ?_⟩, hN.fr (fun b i => by rw [hV9, gup_off _ _ (by simp)]), by rw [hV9]; exact cmod.rf.up (by decide)⟩
          rw [hV9]
          show _ = nI (if k = j then z else w.2.2 k)
          by_cases hkj : k = j
          · rw [hkj, gup_eq, if_pos rfl]
          · rw [gup_ne (by omega), if_neg hkj]; exact hQ.2.2 k hk
        ·  exact absurd c8 (by decide)
      · refine gG_top 0 (if_neg (hW)) ?_
        refine g_if_ne X 42 (by decide) dX6_setFog_29 (fun c10 => ?_) (fun c10 => ?_)
        ·  exact absurd c10 (by decide)
        · refine g_throw X T F tf_eA tw_eA to_eA ts_106 dX6_setFog_32 dX6_setFog_35 dX6_setFog_36 dX6_setFog_38 dX6_setFog_41 ⟨Nat.le_of_ble_eq_true rfl, Nat.le_of_ble_eq_true rfl, Nat.le_of_ble_eq_true rfl, Nat.le_of_ble_eq_true rfl⟩ ?_
          rw [show oFog w x y = (2, 0, w) from (if_pos hP).trans (if_neg hW)]
          exact ⟨rfl, rfl, Or.inr ⟨rfl, rfl⟩⟩
    ·  exact absurd c4 (by decide)
  · refine gG_top 0 (if_neg (hP)) ?_
    refine g_if_ne X 22 (by decide) dX6_setFog_9 (fun c11 => ?_) (fun c11 => ?_)
    ·  exact absurd c11 (by decide)
    · refine g_throw X T F tf_eB tw_eB to_eB ts_104 dX6_setFog_12 dX6_setFog_15 dX6_setFog_16 dX6_setFog_18 dX6_setFog_21 ⟨Nat.le_of_ble_eq_true rfl, Nat.le_of_ble_eq_true rfl, Nat.le_of_ble_eq_true rfl, Nat.le_of_ble_eq_true rfl⟩ ?_
      rw [show oFog w x y = (1, 0, w) from if_neg hP]
      exact ⟨rfl, rfl, Or.inl ⟨rfl, rfl⟩⟩

