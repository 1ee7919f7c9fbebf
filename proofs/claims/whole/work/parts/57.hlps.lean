/-! the law's helpers, one by one -/
theorem gX_out {Z : gZ} {B : gB} {cc : ByteArray} {own : String} {z : Int64} (X : gX Z B cc own) : gX Z (gOut B z) cc own := by
  obtain ⟨p, l, e, R, s, m, args, below, meth, c, nL, Q⟩ := Z
  exact X
theorem gTL_out {Z : gZ} {B : gB} {z : Int64} (X : gTL Z B) : gTL Z (gOut B z) := by
  obtain ⟨p, l, e, R, s, m, args, below, meth, c, nL, Q⟩ := Z
  exact X

abbrev rmL_addSignal : Room := { frames := 7, cells := 1, slots := 6, locals := 103 }
set_option maxRecDepth 20000 in
theorem h_addSignal {l : Launch} {B : gB} (hlst : l.stackTraces = false) (hI : gI B) (V : gMem) (w : gWd) (x : Int32) (hQ : COk V w) (hw : wOk w) (hN : N15 V) : gHM l B yL_addSignal cL_addSignal 4 (some .int) [(0, 9, 12, 13), (0, 9, 15, 15)] rmL_addSignal [.ref (B.2.1 0 0 0), .int x, .ref (B.2.1 28 0 0)] V (hpo w (oAdd w x) V) := by
  refine gHM_of (own := RL) (L := [(0, .ref (B.2.1 0 0 0)), (1, .int x), (2, .ref (B.2.1 28 0 0))]) hlst (by decide +kernel) rfl hI (Nat.le_of_ble_eq_true rfl) rfl ?_
  intro Z hnL hR X T F
  refine g_aload_n X 2 rfl dL_addSignal_0 ?_
  refine g_iconst X 0 (by decide) dL_addSignal_1 ?_
  refine g_aload_n X 0 rfl dL_addSignal_2 ?_
  refine g_iload_n X 1 rfl dL_addSignal_3 ?_
  refine g_callX X T.tl hR (rest := [.int 0, .ref (B.2.1 28 0 0)]) mX6_addSignal qL_L_7 (x_addSignal T.tl.st hI V w x hQ hw hN) rfl rfl (Nat.le_of_ble_eq_true rfl) ⟨by decide, by decide⟩ rfl rfl rfl ⟨Nat.le_of_ble_eq_true rfl, Nat.le_of_ble_eq_true rfl, Nat.le_of_ble_eq_true rfl, Nat.le_of_ble_eq_true rfl⟩ dL_addSignal_4 (fun v9 V9 h9 => ?_) (fun E9 V9 h9 => ?_)
  · obtain ⟨hv9, h09, hq9, hn9, hc9⟩ := h9
    subst hv9
    have XO := gX_out (z := (oAdd w x).2.1.toInt64) X
    refine gG_st [.int (oAdd w x).2.1, .int 0, .ref (B.2.1 28 0 0)] rfl ?_
    refine g_i2l X dL_addSignal_7 ?_
    refine g_lastO X dL_addSignal_8 ?_
    refine g_goto XO 18 (by decide) dL_addSignal_9 ?_
    refine g_iconst XO 0 (by decide) dL_addSignal_18 ?_
    exact g_iretH X F ⟨by rw [h09]; rfl, fun _ => rfl, hq9, hn9, hc9⟩ rfl dL_addSignal_19
  · obtain ⟨hV9, hw9, hE9⟩ := h9
    subst hV9
    rcases hE9 with ⟨rfl, h1⟩ | ⟨rfl, h1⟩
    · refine g_catch1 X T rfl (by decide) qCL_L_13 tc_eA (fun q9 => ?_)
      refine g_astore_n X rfl dL_addSignal_12 [(3, .ref q9), (0, .ref (B.2.1 0 0 0)), (1, .int x), (2, .ref (B.2.1 28 0 0))] rfl (gnl_lt hnL (by decide)) ?_
      refine g_iconst X 1 (by decide) dL_addSignal_13 ?_
      exact g_iretH (z := B.2.2.2.1) X F ⟨by rw [h1]; rfl, fun q => absurd (h1.symm.trans q) (by decide), by rw [hw9]; exact hQ, hN, cmod.rf⟩ rfl dL_addSignal_14
    · refine g_catch2 X T rfl (by decide) (by decide) qCL_L_13 (List.mem_of_getElem? (i := 2) rfl) qCL_L_15 tc_eS (fun q9 => ?_)
      refine g_astore_n X rfl dL_addSignal_15 [(3, .ref q9), (0, .ref (B.2.1 0 0 0)), (1, .int x), (2, .ref (B.2.1 28 0 0))] rfl (gnl_lt hnL (by decide)) ?_
      refine g_iconst X 2 (by decide) dL_addSignal_16 ?_
      exact g_iretH (z := B.2.2.2.1) X F ⟨by rw [h1]; rfl, fun q => absurd (h1.symm.trans q) (by decide), by rw [hw9]; exact hQ, hN, cmod.rf⟩ rfl dL_addSignal_17

abbrev rmL_read : Room := { frames := 7, cells := 1, slots := 6, locals := 116 }
set_option maxRecDepth 20000 in
theorem h_read {l : Launch} {B : gB} (hlst : l.stackTraces = false) (hI : gI B) (V : gMem) (w : gWd) (x : Int32) (q : Int32) (hQ : COk V w) (hw : wOk w) (hN : N15 V) : gHM l B yL_read cL_read 5 (some .int) [(0, 10, 13, 13), (0, 10, 17, 21)] rmL_read [.ref (B.2.1 0 0 0), .int x, .int q, .ref (B.2.1 28 0 0)] V (hpo w (oRead w x q) V) := by
  refine gHM_of (own := RL) (L := [(0, .ref (B.2.1 0 0 0)), (1, .int x), (2, .int q), (3, .ref (B.2.1 28 0 0))]) hlst (by decide +kernel) rfl hI (Nat.le_of_ble_eq_true rfl) rfl ?_
  intro Z hnL hR X T F
  refine g_aload_n X 3 rfl dL_read_0 ?_
  refine g_iconst X 0 (by decide) dL_read_1 ?_
  refine g_aload_n X 0 rfl dL_read_2 ?_
  refine g_iload_n X 1 rfl dL_read_3 ?_
  refine g_iload_n X 2 rfl dL_read_4 ?_
  refine g_callX X T.tl hR (rest := [.int 0, .ref (B.2.1 28 0 0)]) mX6_read qL_L_17 (x_read T.tl.st hI V w x q hQ hw hN) rfl rfl (Nat.le_of_ble_eq_true rfl) ⟨by decide, by decide⟩ rfl rfl rfl ⟨Nat.le_of_ble_eq_true rfl, Nat.le_of_ble_eq_true rfl, Nat.le_of_ble_eq_true rfl, Nat.le_of_ble_eq_true rfl⟩ dL_read_5 (fun v9 V9 h9 => ?_) (fun E9 V9 h9 => ?_)
  · obtain ⟨hv9, h09, hq9, hn9, hc9⟩ := h9
    subst hv9
    have XO := gX_out (z := (oRead w x q).2.1.toInt64) X
    refine gG_st [.int (oRead w x q).2.1, .int 0, .ref (B.2.1 28 0 0)] rfl ?_
    refine g_i2l X dL_read_8 ?_
    refine g_lastO X dL_read_9 ?_
    refine g_goto XO 21 (by decide) dL_read_10 ?_
    refine g_iconst XO 0 (by decide) dL_read_21 ?_
    exact g_iretH X F ⟨by rw [h09]; rfl, fun _ => rfl, hq9, hn9, hc9⟩ rfl dL_read_22
  · obtain ⟨hV9, hw9, hE9⟩ := h9
    subst hV9
    rcases hE9 with ⟨rfl, h1⟩ | ⟨rfl, h1⟩
    · refine g_catch1 X T rfl (by decide) qCL_L_13 tc_eA (fun q9 => ?_)
      refine g_astore X dL_read_13 [(4, .ref q9), (0, .ref (B.2.1 0 0 0)), (1, .int x), (2, .int q), (3, .ref (B.2.1 28 0 0))] rfl (gnl_lt hnL (by decide)) ?_
      refine g_iconst X 1 (by decide) dL_read_15 ?_
      exact g_iretH (z := B.2.2.2.1) X F ⟨by rw [h1]; rfl, fun q => absurd (h1.symm.trans q) (by decide), by rw [hw9]; exact hQ, hN, cmod.rf⟩ rfl dL_read_16
    · refine g_catch2 X T rfl (by decide) (by decide) qCL_L_13 (List.mem_of_getElem? (i := 0) rfl) qCL_L_21 tc_eB (fun q9 => ?_)
      refine g_astore X dL_read_17 [(4, .ref q9), (0, .ref (B.2.1 0 0 0)), (1, .int x), (2, .int q), (3, .ref (B.2.1 28 0 0))] rfl (gnl_lt hnL (by decide)) ?_
      refine g_iconst X 2 (by decide) dL_read_19 ?_
      exact g_iretH (z := B.2.2.2.1) X F ⟨by rw [h1]; rfl, fun q => absurd (h1.symm.trans q) (by decide), by rw [hw9]; exact hQ, hN, cmod.rf⟩ rfl dL_read_20

abbrev rmL_heard : Room := { frames := 7, cells := 1, slots := 6, locals := 103 }
set_option maxRecDepth 20000 in
theorem h_heard {l : Launch} {B : gB} (hlst : l.stackTraces = false) (hI : gI B) (V : gMem) (w : gWd) (x : Int32) (hQ : COk V w) (hw : wOk w) (hN : N15 V) (ht : w.1.1 0 < 2 ^ 20) : gHM l B yL_heard cL_heard 4 (some .int) [(0, 9, 12, 21)] rmL_heard [.ref (B.2.1 0 0 0), .int x, .ref (B.2.1 28 0 0)] V (hpo w (oHeard w x) V) := by
  refine gHM_of (own := RL) (L := [(0, .ref (B.2.1 0 0 0)), (1, .int x), (2, .ref (B.2.1 28 0 0))]) hlst (by decide +kernel) rfl hI (Nat.le_of_ble_eq_true rfl) rfl ?_
  intro Z hnL hR X T F
  refine g_aload_n X 2 rfl dL_heard_0 ?_
  refine g_iconst X 0 (by decide) dL_heard_1 ?_
  refine g_aload_n X 0 rfl dL_heard_2 ?_
  refine g_iload_n X 1 rfl dL_heard_3 ?_
  refine g_callX X T.tl hR (rest := [.int 0, .ref (B.2.1 28 0 0)]) mX6_heard qL_L_23 (x_heard T.tl.st hI V w x hQ hw hN ht) rfl rfl (Nat.le_of_ble_eq_true rfl) ⟨by decide, by decide⟩ rfl rfl rfl ⟨Nat.le_of_ble_eq_true rfl, Nat.le_of_ble_eq_true rfl, Nat.le_of_ble_eq_true rfl, Nat.le_of_ble_eq_true rfl⟩ dL_heard_4 (fun v9 V9 h9 => ?_) (fun E9 V9 h9 => ?_)
  · obtain ⟨hv9, h09, hq9, hn9, hc9⟩ := h9
    subst hv9
    have XO := gX_out (z := (oHeard w x).2.1.toInt64) X
    refine gG_st [.int (oHeard w x).2.1, .int 0, .ref (B.2.1 28 0 0)] rfl ?_
    refine g_i2l X dL_heard_7 ?_
    refine g_lastO X dL_heard_8 ?_
    refine g_goto XO 15 (by decide) dL_heard_9 ?_
    refine g_iconst XO 0 (by decide) dL_heard_15 ?_
    exact g_iretH X F ⟨by rw [h09]; rfl, fun _ => rfl, hq9, hn9, hc9⟩ rfl dL_heard_16
  · obtain ⟨hV9, hw9, hE9⟩ := h9
    subst hV9
    rcases hE9 with ⟨rfl, h1⟩ | ⟨rfl, h1⟩
    · refine g_catch1 X T rfl (by decide) qCL_L_21 tc_eB (fun q9 => ?_)
      refine g_astore_n X rfl dL_heard_12 [(3, .ref q9), (0, .ref (B.2.1 0 0 0)), (1, .int x), (2, .ref (B.2.1 28 0 0))] rfl (gnl_lt hnL (by decide)) ?_
      refine g_iconst X 1 (by decide) dL_heard_13 ?_
      exact g_iretH (z := B.2.2.2.1) X F ⟨by rw [h1]; rfl, fun q => absurd (h1.symm.trans q) (by decide), by rw [hw9]; exact hQ, hN, cmod.rf⟩ rfl dL_heard_14
    · exact absurd h1 (by unfold oHeard; split <;> (intro q; cases q))

abbrev rmL_safe : Room := { frames := 7, cells := 1, slots := 6, locals := 140 }
set_option maxRecDepth 20000 in
theorem h_safe {l : Launch} {B : gB} (hlst : l.stackTraces = false) (hI : gI B) (V : gMem) (w : gWd) (x : Int32) (hQ : COk V w) (hw : wOk w) (hN : N15 V) : gHM l B yL_safe cL_safe 4 (some .int) [(0, 9, 12, 21)] rmL_safe [.ref (B.2.1 0 0 0), .int x, .ref (B.2.1 28 0 0)] V (hpo w (oSafe w x) V) := by
  refine gHM_of (own := RL) (L := [(0, .ref (B.2.1 0 0 0)), (1, .int x), (2, .ref (B.2.1 28 0 0))]) hlst (by decide +kernel) rfl hI (Nat.le_of_ble_eq_true rfl) rfl ?_
  intro Z hnL hR X T F
  refine g_aload_n X 2 rfl dL_safe_0 ?_
  refine g_iconst X 0 (by decide) dL_safe_1 ?_
  refine g_aload_n X 0 rfl dL_safe_2 ?_
  refine g_iload_n X 1 rfl dL_safe_3 ?_
  refine g_callX X T.tl hR (rest := [.int 0, .ref (B.2.1 28 0 0)]) mX6_safe qL_L_26 (x_safe T.tl.st hI V w x hQ hw hN) rfl rfl (Nat.le_of_ble_eq_true rfl) ⟨by decide, by decide⟩ rfl rfl rfl ⟨Nat.le_of_ble_eq_true rfl, Nat.le_of_ble_eq_true rfl, Nat.le_of_ble_eq_true rfl, Nat.le_of_ble_eq_true rfl⟩ dL_safe_4 (fun v9 V9 h9 => ?_) (fun E9 V9 h9 => ?_)
  · obtain ⟨hv9, h09, hq9, hn9, hc9⟩ := h9
    subst hv9
    have XO := gX_out (z := (oSafe w x).2.1.toInt64) X
    refine gG_st [.int (oSafe w x).2.1, .int 0, .ref (B.2.1 28 0 0)] rfl ?_
    refine g_i2l X dL_safe_7 ?_
    refine g_lastO X dL_safe_8 ?_
    refine g_goto XO 15 (by decide) dL_safe_9 ?_
    refine g_iconst XO 0 (by decide) dL_safe_15 ?_
    exact g_iretH X F ⟨by rw [h09]; rfl, fun _ => rfl, hq9, hn9, hc9⟩ rfl dL_safe_16
  · obtain ⟨hV9, hw9, hE9⟩ := h9
    subst hV9
    rcases hE9 with ⟨rfl, h1⟩ | ⟨rfl, h1⟩
    · refine g_catch1 X T rfl (by decide) qCL_L_21 tc_eB (fun q9 => ?_)
      refine g_astore_n X rfl dL_safe_12 [(3, .ref q9), (0, .ref (B.2.1 0 0 0)), (1, .int x), (2, .ref (B.2.1 28 0 0))] rfl (gnl_lt hnL (by decide)) ?_
      refine g_iconst X 1 (by decide) dL_safe_13 ?_
      exact g_iretH (z := B.2.2.2.1) X F ⟨by rw [h1]; rfl, fun q => absurd (h1.symm.trans q) (by decide), by rw [hw9]; exact hQ, hN, cmod.rf⟩ rfl dL_safe_14
    · exact absurd h1 (by unfold oSafe; split <;> (intro q; cases q))

abbrev rmL_rows : Room := { frames := 7, cells := 1, slots := 6, locals := 109 }
set_option maxRecDepth 20000 in
theorem h_rows {l : Launch} {B : gB} (hlst : l.stackTraces = false) (hI : gI B) (V : gMem) (w : gWd) (x : Int32) (hQ : COk V w) (hw : wOk w) (hN : N15 V) : gHM l B yL_rows cL_rows 4 (some .int) [(0, 9, 12, 13)] rmL_rows [.ref (B.2.1 0 0 0), .int x, .ref (B.2.1 28 0 0)] V (hpo w (oRows w x) V) := by
  refine gHM_of (own := RL) (L := [(0, .ref (B.2.1 0 0 0)), (1, .int x), (2, .ref (B.2.1 28 0 0))]) hlst (by decide +kernel) rfl hI (Nat.le_of_ble_eq_true rfl) rfl ?_
  intro Z hnL hR X T F
  refine g_aload_n X 2 rfl dL_rows_0 ?_
  refine g_iconst X 0 (by decide) dL_rows_1 ?_
  refine g_aload_n X 0 rfl dL_rows_2 ?_
  refine g_iload_n X 1 rfl dL_rows_3 ?_
  refine g_callX X T.tl hR (rest := [.int 0, .ref (B.2.1 28 0 0)]) mX6_rows qL_L_29 (x_rows T.tl.st hI V w x hQ hw hN) rfl rfl (Nat.le_of_ble_eq_true rfl) ⟨by decide, by decide⟩ rfl rfl rfl ⟨Nat.le_of_ble_eq_true rfl, Nat.le_of_ble_eq_true rfl, Nat.le_of_ble_eq_true rfl, Nat.le_of_ble_eq_true rfl⟩ dL_rows_4 (fun v9 V9 h9 => ?_) (fun E9 V9 h9 => ?_)
  · obtain ⟨hv9, h09, hq9, hn9, hc9⟩ := h9
    subst hv9
    have XO := gX_out (z := (oRows w x).2.1.toInt64) X
    refine gG_st [.int (oRows w x).2.1, .int 0, .ref (B.2.1 28 0 0)] rfl ?_
    refine g_i2l X dL_rows_7 ?_
    refine g_lastO X dL_rows_8 ?_
    refine g_goto XO 15 (by decide) dL_rows_9 ?_
    refine g_iconst XO 0 (by decide) dL_rows_15 ?_
    exact g_iretH X F ⟨by rw [h09]; rfl, fun _ => rfl, hq9, hn9, hc9⟩ rfl dL_rows_16
  · obtain ⟨hV9, hw9, hE9⟩ := h9
    subst hV9
    rcases hE9 with ⟨rfl, h1⟩ | ⟨rfl, h1⟩
    · refine g_catch1 X T rfl (by decide) qCL_L_13 tc_eA (fun q9 => ?_)
      refine g_astore_n X rfl dL_rows_12 [(3, .ref q9), (0, .ref (B.2.1 0 0 0)), (1, .int x), (2, .ref (B.2.1 28 0 0))] rfl (gnl_lt hnL (by decide)) ?_
      refine g_iconst X 1 (by decide) dL_rows_13 ?_
      exact g_iretH (z := B.2.2.2.1) X F ⟨by rw [h1]; rfl, fun q => absurd (h1.symm.trans q) (by decide), by rw [hw9]; exact hQ, hN, cmod.rf⟩ rfl dL_rows_14
    · exact absurd h1 (by unfold oRows; split <;> (intro q; cases q))

abbrev rmL_setFog : Room := { frames := 7, cells := 1, slots := 6, locals := 105 }
set_option maxRecDepth 20000 in
theorem h_setFog {l : Launch} {B : gB} (hlst : l.stackTraces = false) (hI : gI B) (V : gMem) (w : gWd) (x : Int32) (y : Int32) (hQ : COk V w) (hw : wOk w) (hN : N15 V) : gHM l B yL_setFog cL_setFog 5 (some .int) [(0, 10, 13, 21), (0, 10, 17, 13)] rmL_setFog [.ref (B.2.1 0 0 0), .int x, .int y, .ref (B.2.1 28 0 0)] V (hpo w (oFog w x y) V) := by
  refine gHM_of (own := RL) (L := [(0, .ref (B.2.1 0 0 0)), (1, .int x), (2, .int y), (3, .ref (B.2.1 28 0 0))]) hlst (by decide +kernel) rfl hI (Nat.le_of_ble_eq_true rfl) rfl ?_
  intro Z hnL hR X T F
  refine g_aload_n X 3 rfl dL_setFog_0 ?_
  refine g_iconst X 0 (by decide) dL_setFog_1 ?_
  refine g_aload_n X 0 rfl dL_setFog_2 ?_
  refine g_iload_n X 1 rfl dL_setFog_3 ?_
  refine g_iload_n X 2 rfl dL_setFog_4 ?_
  refine g_callX X T.tl hR (rest := [.int 0, .ref (B.2.1 28 0 0)]) mX6_setFog qL_L_32 (x_setFog T.tl.st hI V w x y hQ hw hN) rfl rfl (Nat.le_of_ble_eq_true rfl) ⟨by decide, by decide⟩ rfl rfl rfl ⟨Nat.le_of_ble_eq_true rfl, Nat.le_of_ble_eq_true rfl, Nat.le_of_ble_eq_true rfl, Nat.le_of_ble_eq_true rfl⟩ dL_setFog_5 (fun v9 V9 h9 => ?_) (fun E9 V9 h9 => ?_)
  · obtain ⟨hv9, h09, hq9, hn9, hc9⟩ := h9
    subst hv9
    have XO := gX_out (z := (oFog w x y).2.1.toInt64) X
    refine gG_st [.int (oFog w x y).2.1, .int 0, .ref (B.2.1 28 0 0)] rfl ?_
    refine g_i2l X dL_setFog_8 ?_
    refine g_lastO X dL_setFog_9 ?_
    refine g_goto XO 21 (by decide) dL_setFog_10 ?_
    refine g_iconst XO 0 (by decide) dL_setFog_21 ?_
    exact g_iretH X F ⟨by rw [h09]; rfl, fun _ => rfl, hq9, hn9, hc9⟩ rfl dL_setFog_22
  · obtain ⟨hV9, hw9, hE9⟩ := h9
    subst hV9
    rcases hE9 with ⟨rfl, h1⟩ | ⟨rfl, h1⟩
    · refine g_catch1 X T rfl (by decide) qCL_L_21 tc_eB (fun q9 => ?_)
      refine g_astore X dL_setFog_13 [(4, .ref q9), (0, .ref (B.2.1 0 0 0)), (1, .int x), (2, .int y), (3, .ref (B.2.1 28 0 0))] rfl (gnl_lt hnL (by decide)) ?_
      refine g_iconst X 1 (by decide) dL_setFog_15 ?_
      exact g_iretH (z := B.2.2.2.1) X F ⟨by rw [h1]; rfl, fun q => absurd (h1.symm.trans q) (by decide), by rw [hw9]; exact hQ, hN, cmod.rf⟩ rfl dL_setFog_16
    · refine g_catch2 X T rfl (by decide) (by decide) qCL_L_21 (List.mem_of_getElem? (i := 1) rfl) qCL_L_13 tc_eA (fun q9 => ?_)
      refine g_astore X dL_setFog_17 [(4, .ref q9), (0, .ref (B.2.1 0 0 0)), (1, .int x), (2, .int y), (3, .ref (B.2.1 28 0 0))] rfl (gnl_lt hnL (by decide)) ?_
      refine g_iconst X 2 (by decide) dL_setFog_19 ?_
      exact g_iretH (z := B.2.2.2.1) X F ⟨by rw [h1]; rfl, fun q => absurd (h1.symm.trans q) (by decide), by rw [hw9]; exact hQ, hN, cmod.rf⟩ rfl dL_setFog_20

abbrev rmL_rebuild : Room := { frames := 7, cells := 1, slots := 6, locals := 105 }
set_option maxRecDepth 20000 in
theorem h_rebuild {l : Launch} {B : gB} (hlst : l.stackTraces = false) (hI : gI B) (V : gMem) (w : gWd) (p : Int32) (q : Int32) (hQ : COk V w) (hw : wOk w) (hN : N15 V) : gHM l B yL_rebuild cL_rebuild 5 (some .int) [(0, 10, 13, 13), (0, 10, 17, 15)] rmL_rebuild [.ref (B.2.1 0 0 0), .int p, .int q, .ref (B.2.1 28 0 0)] V (hpo w (oBuild w p q) V) := by
  refine gHM_of (own := RL) (L := [(0, .ref (B.2.1 0 0 0)), (1, .int p), (2, .int q), (3, .ref (B.2.1 28 0 0))]) hlst (by decide +kernel) rfl hI (Nat.le_of_ble_eq_true rfl) rfl ?_
  intro Z hnL hR X T F
  refine g_aload_n X 3 rfl dL_rebuild_0 ?_
  refine g_iconst X 0 (by decide) dL_rebuild_1 ?_
  refine g_aload_n X 0 rfl dL_rebuild_2 ?_
  refine g_iload_n X 1 rfl dL_rebuild_3 ?_
  refine g_iload_n X 2 rfl dL_rebuild_4 ?_
  refine g_callX X T.tl hR (rest := [.int 0, .ref (B.2.1 28 0 0)]) mX6_rebuild qL_L_35 (x_rebuild T.tl.st hI V w p q hQ hw hN) rfl rfl (Nat.le_of_ble_eq_true rfl) ⟨by decide, by decide⟩ rfl rfl rfl ⟨Nat.le_of_ble_eq_true rfl, Nat.le_of_ble_eq_true rfl, Nat.le_of_ble_eq_true rfl, Nat.le_of_ble_eq_true rfl⟩ dL_rebuild_5 (fun v9 V9 h9 => ?_) (fun E9 V9 h9 => ?_)
  · obtain ⟨hv9, h09, hq9, hn9, hc9⟩ := h9
    subst hv9
    have XO := gX_out (z := (oBuild w p q).2.1.toInt64) X
    refine gG_st [.int (oBuild w p q).2.1, .int 0, .ref (B.2.1 28 0 0)] rfl ?_
    refine g_i2l X dL_rebuild_8 ?_
    refine g_lastO X dL_rebuild_9 ?_
    refine g_goto XO 21 (by decide) dL_rebuild_10 ?_
    refine g_iconst XO 0 (by decide) dL_rebuild_21 ?_
    exact g_iretH X F ⟨by rw [h09]; rfl, fun _ => rfl, hq9, hn9, hc9⟩ rfl dL_rebuild_22
  · obtain ⟨hV9, hw9, hE9⟩ := h9
    subst hV9
    rcases hE9 with ⟨rfl, h1⟩ | ⟨rfl, h1⟩
    · refine g_catch1 X T rfl (by decide) qCL_L_13 tc_eA (fun q9 => ?_)
      refine g_astore X dL_rebuild_13 [(4, .ref q9), (0, .ref (B.2.1 0 0 0)), (1, .int p), (2, .int q), (3, .ref (B.2.1 28 0 0))] rfl (gnl_lt hnL (by decide)) ?_
      refine g_iconst X 1 (by decide) dL_rebuild_15 ?_
      exact g_iretH (z := B.2.2.2.1) X F ⟨by rw [h1]; rfl, fun q => absurd (h1.symm.trans q) (by decide), by rw [hw9]; exact hQ, hN, cmod.rf⟩ rfl dL_rebuild_16
    · refine g_catch2 X T rfl (by decide) (by decide) qCL_L_13 (List.mem_of_getElem? (i := 2) rfl) qCL_L_15 tc_eS (fun q9 => ?_)
      refine g_astore X dL_rebuild_17 [(4, .ref q9), (0, .ref (B.2.1 0 0 0)), (1, .int p), (2, .int q), (3, .ref (B.2.1 28 0 0))] rfl (gnl_lt hnL (by decide)) ?_
      refine g_iconst X 2 (by decide) dL_rebuild_19 ?_
      exact g_iretH (z := B.2.2.2.1) X F ⟨by rw [h1]; rfl, fun q => absurd (h1.symm.trans q) (by decide), by rw [hw9]; exact hQ, hN, cmod.rf⟩ rfl dL_rebuild_20

abbrev rmL_setToll : Room := { frames := 7, cells := 1, slots := 6, locals := 105 }
set_option maxRecDepth 20000 in
theorem h_setToll {l : Launch} {B : gB} (hlst : l.stackTraces = false) (hI : gI B) (V : gMem) (w : gWd) (p : Int32) (q : Int32) (hQ : COk V w) (hw : wOk w) (hN : N15 V) : gHM l B yL_setToll cL_setToll 5 (some .int) [(0, 10, 13, 13)] rmL_setToll [.ref (B.2.1 0 0 0), .int p, .int q, .ref (B.2.1 28 0 0)] V (hpo w (oToll w p q) V) := by
  refine gHM_of (own := RL) (L := [(0, .ref (B.2.1 0 0 0)), (1, .int p), (2, .int q), (3, .ref (B.2.1 28 0 0))]) hlst (by decide +kernel) rfl hI (Nat.le_of_ble_eq_true rfl) rfl ?_
  intro Z hnL hR X T F
  refine g_aload_n X 3 rfl dL_setToll_0 ?_
  refine g_iconst X 0 (by decide) dL_setToll_1 ?_
  refine g_aload_n X 0 rfl dL_setToll_2 ?_
  refine g_iload_n X 1 rfl dL_setToll_3 ?_
  refine g_iload_n X 2 rfl dL_setToll_4 ?_
  refine g_callX X T.tl hR (rest := [.int 0, .ref (B.2.1 28 0 0)]) mX6_setToll qL_L_38 (x_setToll T.tl.st hI V w p q hQ hw hN) rfl rfl (Nat.le_of_ble_eq_true rfl) ⟨by decide, by decide⟩ rfl rfl rfl ⟨Nat.le_of_ble_eq_true rfl, Nat.le_of_ble_eq_true rfl, Nat.le_of_ble_eq_true rfl, Nat.le_of_ble_eq_true rfl⟩ dL_setToll_5 (fun v9 V9 h9 => ?_) (fun E9 V9 h9 => ?_)
  · obtain ⟨hv9, h09, hq9, hn9, hc9⟩ := h9
    subst hv9
    have XO := gX_out (z := (oToll w p q).2.1.toInt64) X
    refine gG_st [.int (oToll w p q).2.1, .int 0, .ref (B.2.1 28 0 0)] rfl ?_
    refine g_i2l X dL_setToll_8 ?_
    refine g_lastO X dL_setToll_9 ?_
    refine g_goto XO 17 (by decide) dL_setToll_10 ?_
    refine g_iconst XO 0 (by decide) dL_setToll_17 ?_
    exact g_iretH X F ⟨by rw [h09]; rfl, fun _ => rfl, hq9, hn9, hc9⟩ rfl dL_setToll_18
  · obtain ⟨hV9, hw9, hE9⟩ := h9
    subst hV9
    rcases hE9 with ⟨rfl, h1⟩ | ⟨rfl, h1⟩
    · refine g_catch1 X T rfl (by decide) qCL_L_13 tc_eA (fun q9 => ?_)
      refine g_astore X dL_setToll_13 [(4, .ref q9), (0, .ref (B.2.1 0 0 0)), (1, .int p), (2, .int q), (3, .ref (B.2.1 28 0 0))] rfl (gnl_lt hnL (by decide)) ?_
      refine g_iconst X 1 (by decide) dL_setToll_15 ?_
      exact g_iretH (z := B.2.2.2.1) X F ⟨by rw [h1]; rfl, fun q => absurd (h1.symm.trans q) (by decide), by rw [hw9]; exact hQ, hN, cmod.rf⟩ rfl dL_setToll_16
    · exact absurd h1 (by unfold oToll; split <;> (intro q; cases q))

abbrev rmL_come : Room := { frames := 7, cells := 1, slots := 6, locals := 109 }
set_option maxRecDepth 20000 in
theorem h_come {l : Launch} {B : gB} (hlst : l.stackTraces = false) (hI : gI B) (V : gMem) (w : gWd) (e : Int32) (ax : Int32) (wt : Int32) (pc : Int32) (cn : Int32) (c : Nat) (hQ : COk V w) (hw : wOk w) (hN : N15 V) (hc : c ≤ 1) (hfr : Fr w.1) : gHM l B yL_come cL_come 9 (some .int) [(0, 18, 21, 13), (0, 18, 25, 15)] rmL_come [.ref (B.2.1 0 0 0), .int e, .int ax, .int wt, .int pc, .int cn, .int (nI c), .ref (B.2.1 28 0 0)] V (hpo w (oCome w e ax wt pc cn (nI c)) V) := by
  refine gHM_of (own := RL) (L := [(0, .ref (B.2.1 0 0 0)), (1, .int e), (2, .int ax), (3, .int wt), (4, .int pc), (5, .int cn), (6, .int (nI c)), (7, .ref (B.2.1 28 0 0))]) hlst (by decide +kernel) rfl hI (Nat.le_of_ble_eq_true rfl) rfl ?_
  intro Z hnL hR X T F
  refine g_aload X 7 rfl dL_come_0 ?_
  refine g_iconst X 0 (by decide) dL_come_2 ?_
  refine g_aload_n X 0 rfl dL_come_3 ?_
  refine g_iload_n X 1 rfl dL_come_4 ?_
  refine g_iload_n X 2 rfl dL_come_5 ?_
  refine g_iload_n X 3 rfl dL_come_6 ?_
  refine g_iload X 4 rfl dL_come_7 ?_
  refine g_iload X 5 rfl dL_come_9 ?_
  refine g_iload X 6 rfl dL_come_11 ?_
  refine g_callX X T.tl hR (rest := [.int 0, .ref (B.2.1 28 0 0)]) mX6_come qL_L_41 (x_come T.tl.st hI V w e ax wt pc cn c hQ hw hN hc hfr) rfl rfl (Nat.le_of_ble_eq_true rfl) ⟨by decide, by decide⟩ rfl rfl rfl ⟨Nat.le_of_ble_eq_true rfl, Nat.le_of_ble_eq_true rfl, Nat.le_of_ble_eq_true rfl, Nat.le_of_ble_eq_true rfl⟩ dL_come_13 (fun v9 V9 h9 => ?_) (fun E9 V9 h9 => ?_)
  · obtain ⟨hv9, h09, hq9, hn9, hc9⟩ := h9
    subst hv9
    have XO := gX_out (z := (oCome w e ax wt pc cn (nI c)).2.1.toInt64) X
    refine gG_st [.int (oCome w e ax wt pc cn (nI c)).2.1, .int 0, .ref (B.2.1 28 0 0)] rfl ?_
    refine g_i2l X dL_come_16 ?_
    refine g_lastO X dL_come_17 ?_
    refine g_goto XO 29 (by decide) dL_come_18 ?_
    refine g_iconst XO 0 (by decide) dL_come_29 ?_
    exact g_iretH X F ⟨by rw [h09]; rfl, fun _ => rfl, hq9, hn9, hc9⟩ rfl dL_come_30
  · obtain ⟨hV9, hw9, hE9⟩ := h9
    subst hV9
    rcases hE9 with ⟨rfl, h1⟩ | ⟨rfl, h1⟩
    · refine g_catch1 X T rfl (by decide) qCL_L_13 tc_eA (fun q9 => ?_)
      refine g_astore X dL_come_21 [(8, .ref q9), (0, .ref (B.2.1 0 0 0)), (1, .int e), (2, .int ax), (3, .int wt), (4, .int pc), (5, .int cn), (6, .int (nI c)), (7, .ref (B.2.1 28 0 0))] rfl (gnl_lt hnL (by decide)) ?_
      refine g_iconst X 1 (by decide) dL_come_23 ?_
      exact g_iretH (z := B.2.2.2.1) X F ⟨by rw [h1]; rfl, fun q => absurd (h1.symm.trans q) (by decide), by rw [hw9]; exact hQ, hN, cmod.rf⟩ rfl dL_come_24
    · refine g_catch2 X T rfl (by decide) (by decide) qCL_L_13 (List.mem_of_getElem? (i := 2) rfl) qCL_L_15 tc_eS (fun q9 => ?_)
      refine g_astore X dL_come_25 [(8, .ref q9), (0, .ref (B.2.1 0 0 0)), (1, .int e), (2, .int ax), (3, .int wt), (4, .int pc), (5, .int cn), (6, .int (nI c)), (7, .ref (B.2.1 28 0 0))] rfl (gnl_lt hnL (by decide)) ?_
      refine g_iconst X 2 (by decide) dL_come_27 ?_
      exact g_iretH (z := B.2.2.2.1) X F ⟨by rw [h1]; rfl, fun q => absurd (h1.symm.trans q) (by decide), by rw [hw9]; exact hQ, hN, cmod.rf⟩ rfl dL_come_28

abbrev rmL_cart : Room := { frames := 7, cells := 1, slots := 6, locals := 105 }
set_option maxRecDepth 20000 in
theorem h_cart {l : Launch} {B : gB} (hlst : l.stackTraces = false) (hI : gI B) (V : gMem) (w : gWd) (p : Int32) (q : Int32) (hQ : COk V w) (hw : wOk w) (hN : N15 V) : gHM l B yL_cart cL_cart 5 (some .int) [(0, 10, 13, 21)] rmL_cart [.ref (B.2.1 0 0 0), .int p, .int q, .ref (B.2.1 28 0 0)] V (hpo w (oCart w p q) V) := by
  refine gHM_of (own := RL) (L := [(0, .ref (B.2.1 0 0 0)), (1, .int p), (2, .int q), (3, .ref (B.2.1 28 0 0))]) hlst (by decide +kernel) rfl hI (Nat.le_of_ble_eq_true rfl) rfl ?_
  intro Z hnL hR X T F
  refine g_aload_n X 3 rfl dL_cart_0 ?_
  refine g_iconst X 0 (by decide) dL_cart_1 ?_
  refine g_aload_n X 0 rfl dL_cart_2 ?_
  refine g_iload_n X 1 rfl dL_cart_3 ?_
  refine g_iload_n X 2 rfl dL_cart_4 ?_
  refine g_callX X T.tl hR (rest := [.int 0, .ref (B.2.1 28 0 0)]) mX6_cart qL_L_45 (x_cart T.tl.st hI V w p q hQ hw hN) rfl rfl (Nat.le_of_ble_eq_true rfl) ⟨by decide, by decide⟩ rfl rfl rfl ⟨Nat.le_of_ble_eq_true rfl, Nat.le_of_ble_eq_true rfl, Nat.le_of_ble_eq_true rfl, Nat.le_of_ble_eq_true rfl⟩ dL_cart_5 (fun v9 V9 h9 => ?_) (fun E9 V9 h9 => ?_)
  · obtain ⟨hv9, h09, hq9, hn9, hc9⟩ := h9
    subst hv9
    have XO := gX_out (z := (oCart w p q).2.1.toInt64) X
    refine gG_st [.int (oCart w p q).2.1, .int 0, .ref (B.2.1 28 0 0)] rfl ?_
    refine g_i2l X dL_cart_8 ?_
    refine g_lastO X dL_cart_9 ?_
    refine g_goto XO 17 (by decide) dL_cart_10 ?_
    refine g_iconst XO 0 (by decide) dL_cart_17 ?_
    exact g_iretH X F ⟨by rw [h09]; rfl, fun _ => rfl, hq9, hn9, hc9⟩ rfl dL_cart_18
  · obtain ⟨hV9, hw9, hE9⟩ := h9
    subst hV9
    rcases hE9 with ⟨rfl, h1⟩ | ⟨rfl, h1⟩
    · refine g_catch1 X T rfl (by decide) qCL_L_21 tc_eB (fun q9 => ?_)
      refine g_astore X dL_cart_13 [(4, .ref q9), (0, .ref (B.2.1 0 0 0)), (1, .int p), (2, .int q), (3, .ref (B.2.1 28 0 0))] rfl (gnl_lt hnL (by decide)) ?_
      refine g_iconst X 1 (by decide) dL_cart_15 ?_
      exact g_iretH (z := B.2.2.2.1) X F ⟨by rw [h1]; rfl, fun q => absurd (h1.symm.trans q) (by decide), by rw [hw9]; exact hQ, hN, cmod.rf⟩ rfl dL_cart_16
    · exact absurd h1 (by unfold oCart; split <;> (intro q; cases q))

abbrev rmL_queue : Room := { frames := 7, cells := 1, slots := 6, locals := 104 }
set_option maxRecDepth 20000 in
theorem h_queue {l : Launch} {B : gB} (hlst : l.stackTraces = false) (hI : gI B) (V : gMem) (w : gWd) (p : Int32) (q : Int32) (hQ : COk V w) (hw : wOk w) (hN : N15 V) : gHM l B yL_queue cL_queue 5 (some .int) [(0, 10, 13, 21)] rmL_queue [.ref (B.2.1 0 0 0), .int p, .int q, .ref (B.2.1 28 0 0)] V (hpo w (oQueue w p q) V) := by
  refine gHM_of (own := RL) (L := [(0, .ref (B.2.1 0 0 0)), (1, .int p), (2, .int q), (3, .ref (B.2.1 28 0 0))]) hlst (by decide +kernel) rfl hI (Nat.le_of_ble_eq_true rfl) rfl ?_
  intro Z hnL hR X T F
  refine g_aload_n X 3 rfl dL_queue_0 ?_
  refine g_iconst X 0 (by decide) dL_queue_1 ?_
  refine g_aload_n X 0 rfl dL_queue_2 ?_
  refine g_iload_n X 1 rfl dL_queue_3 ?_
  refine g_iload_n X 2 rfl dL_queue_4 ?_
  refine g_callX X T.tl hR (rest := [.int 0, .ref (B.2.1 28 0 0)]) mX6_queue qL_L_48 (x_queue T.tl.st hI V w p q hQ hw hN) rfl rfl (Nat.le_of_ble_eq_true rfl) ⟨by decide, by decide⟩ rfl rfl rfl ⟨Nat.le_of_ble_eq_true rfl, Nat.le_of_ble_eq_true rfl, Nat.le_of_ble_eq_true rfl, Nat.le_of_ble_eq_true rfl⟩ dL_queue_5 (fun v9 V9 h9 => ?_) (fun E9 V9 h9 => ?_)
  · obtain ⟨hv9, h09, hq9, hn9, hc9⟩ := h9
    subst hv9
    have XO := gX_out (z := (oQueue w p q).2.1.toInt64) X
    refine gG_st [.int (oQueue w p q).2.1, .int 0, .ref (B.2.1 28 0 0)] rfl ?_
    refine g_i2l X dL_queue_8 ?_
    refine g_lastO X dL_queue_9 ?_
    refine g_goto XO 17 (by decide) dL_queue_10 ?_
    refine g_iconst XO 0 (by decide) dL_queue_17 ?_
    exact g_iretH X F ⟨by rw [h09]; rfl, fun _ => rfl, hq9, hn9, hc9⟩ rfl dL_queue_18
  · obtain ⟨hV9, hw9, hE9⟩ := h9
    subst hV9
    rcases hE9 with ⟨rfl, h1⟩ | ⟨rfl, h1⟩
    · refine g_catch1 X T rfl (by decide) qCL_L_21 tc_eB (fun q9 => ?_)
      refine g_astore X dL_queue_13 [(4, .ref q9), (0, .ref (B.2.1 0 0 0)), (1, .int p), (2, .int q), (3, .ref (B.2.1 28 0 0))] rfl (gnl_lt hnL (by decide)) ?_
      refine g_iconst X 1 (by decide) dL_queue_15 ?_
      exact g_iretH (z := B.2.2.2.1) X F ⟨by rw [h1]; rfl, fun q => absurd (h1.symm.trans q) (by decide), by rw [hw9]; exact hQ, hN, cmod.rf⟩ rfl dL_queue_16
    · exact absurd h1 (by unfold oQueue; split <;> (intro q; cases q))

abbrev rmL_box : Room := { frames := 7, cells := 1, slots := 6, locals := 104 }
set_option maxRecDepth 20000 in
theorem h_box {l : Launch} {B : gB} (hlst : l.stackTraces = false) (hI : gI B) (V : gMem) (w : gWd) (p : Int32) (q : Int32) (hQ : COk V w) (hw : wOk w) (hN : N15 V) : gHM l B yL_box cL_box 5 (some .int) [(0, 10, 13, 21)] rmL_box [.ref (B.2.1 0 0 0), .int p, .int q, .ref (B.2.1 28 0 0)] V (hpo w (oBox w p q) V) := by
  refine gHM_of (own := RL) (L := [(0, .ref (B.2.1 0 0 0)), (1, .int p), (2, .int q), (3, .ref (B.2.1 28 0 0))]) hlst (by decide +kernel) rfl hI (Nat.le_of_ble_eq_true rfl) rfl ?_
  intro Z hnL hR X T F
  refine g_aload_n X 3 rfl dL_box_0 ?_
  refine g_iconst X 0 (by decide) dL_box_1 ?_
  refine g_aload_n X 0 rfl dL_box_2 ?_
  refine g_iload_n X 1 rfl dL_box_3 ?_
  refine g_iload_n X 2 rfl dL_box_4 ?_
  refine g_callX X T.tl hR (rest := [.int 0, .ref (B.2.1 28 0 0)]) mX6_box qL_L_51 (x_box T.tl.st hI V w p q hQ hw hN) rfl rfl (Nat.le_of_ble_eq_true rfl) ⟨by decide, by decide⟩ rfl rfl rfl ⟨Nat.le_of_ble_eq_true rfl, Nat.le_of_ble_eq_true rfl, Nat.le_of_ble_eq_true rfl, Nat.le_of_ble_eq_true rfl⟩ dL_box_5 (fun v9 V9 h9 => ?_) (fun E9 V9 h9 => ?_)
  · obtain ⟨hv9, h09, hq9, hn9, hc9⟩ := h9
    subst hv9
    have XO := gX_out (z := (oBox w p q).2.1.toInt64) X
    refine gG_st [.int (oBox w p q).2.1, .int 0, .ref (B.2.1 28 0 0)] rfl ?_
    refine g_i2l X dL_box_8 ?_
    refine g_lastO X dL_box_9 ?_
    refine g_goto XO 17 (by decide) dL_box_10 ?_
    refine g_iconst XO 0 (by decide) dL_box_17 ?_
    exact g_iretH X F ⟨by rw [h09]; rfl, fun _ => rfl, hq9, hn9, hc9⟩ rfl dL_box_18
  · obtain ⟨hV9, hw9, hE9⟩ := h9
    subst hV9
    rcases hE9 with ⟨rfl, h1⟩ | ⟨rfl, h1⟩
    · refine g_catch1 X T rfl (by decide) qCL_L_21 tc_eB (fun q9 => ?_)
      refine g_astore X dL_box_13 [(4, .ref q9), (0, .ref (B.2.1 0 0 0)), (1, .int p), (2, .int q), (3, .ref (B.2.1 28 0 0))] rfl (gnl_lt hnL (by decide)) ?_
      refine g_iconst X 1 (by decide) dL_box_15 ?_
      exact g_iretH (z := B.2.2.2.1) X F ⟨by rw [h1]; rfl, fun q => absurd (h1.symm.trans q) (by decide), by rw [hw9]; exact hQ, hN, cmod.rf⟩ rfl dL_box_16
    · exact absurd h1 (by unfold oBox; split <;> (intro q; cases q))

abbrev rmL_empty : Room := { frames := 7, cells := 1, slots := 6, locals := 105 }
set_option maxRecDepth 20000 in
theorem h_empty {l : Launch} {B : gB} (hlst : l.stackTraces = false) (hI : gI B) (V : gMem) (w : gWd) (p : Int32) (hQ : COk V w) (hw : wOk w) (hN : N15 V) : gHM l B yL_empty cL_empty 4 (some .int) [(0, 9, 12, 21)] rmL_empty [.ref (B.2.1 0 0 0), .int p, .ref (B.2.1 28 0 0)] V (hpo w (oEmpty w p) V) := by
  refine gHM_of (own := RL) (L := [(0, .ref (B.2.1 0 0 0)), (1, .int p), (2, .ref (B.2.1 28 0 0))]) hlst (by decide +kernel) rfl hI (Nat.le_of_ble_eq_true rfl) rfl ?_
  intro Z hnL hR X T F
  refine g_aload_n X 2 rfl dL_empty_0 ?_
  refine g_iconst X 0 (by decide) dL_empty_1 ?_
  refine g_aload_n X 0 rfl dL_empty_2 ?_
  refine g_iload_n X 1 rfl dL_empty_3 ?_
  refine g_callX X T.tl hR (rest := [.int 0, .ref (B.2.1 28 0 0)]) mX6_empty qL_L_54 (x_empty T.tl.st hI V w p hQ hw hN) rfl rfl (Nat.le_of_ble_eq_true rfl) ⟨by decide, by decide⟩ rfl rfl rfl ⟨Nat.le_of_ble_eq_true rfl, Nat.le_of_ble_eq_true rfl, Nat.le_of_ble_eq_true rfl, Nat.le_of_ble_eq_true rfl⟩ dL_empty_4 (fun v9 V9 h9 => ?_) (fun E9 V9 h9 => ?_)
  · obtain ⟨hv9, h09, hq9, hn9, hc9⟩ := h9
    subst hv9
    have XO := gX_out (z := (oEmpty w p).2.1.toInt64) X
    refine gG_st [.int (oEmpty w p).2.1, .int 0, .ref (B.2.1 28 0 0)] rfl ?_
    refine g_i2l X dL_empty_7 ?_
    refine g_lastO X dL_empty_8 ?_
    refine g_goto XO 15 (by decide) dL_empty_9 ?_
    refine g_iconst XO 0 (by decide) dL_empty_15 ?_
    exact g_iretH X F ⟨by rw [h09]; rfl, fun _ => rfl, hq9, hn9, hc9⟩ rfl dL_empty_16
  · obtain ⟨hV9, hw9, hE9⟩ := h9
    subst hV9
    rcases hE9 with ⟨rfl, h1⟩ | ⟨rfl, h1⟩
    · refine g_catch1 X T rfl (by decide) qCL_L_21 tc_eB (fun q9 => ?_)
      refine g_astore_n X rfl dL_empty_12 [(3, .ref q9), (0, .ref (B.2.1 0 0 0)), (1, .int p), (2, .ref (B.2.1 28 0 0))] rfl (gnl_lt hnL (by decide)) ?_
      refine g_iconst X 1 (by decide) dL_empty_13 ?_
      exact g_iretH (z := B.2.2.2.1) X F ⟨by rw [h1]; rfl, fun q => absurd (h1.symm.trans q) (by decide), by rw [hw9]; exact hQ, hN, cmod.rf⟩ rfl dL_empty_14
    · exact absurd h1 (by unfold oEmpty; split <;> (intro q; cases q))

abbrev rmL_pass : Room := { frames := 7, cells := 1, slots := 6, locals := 154 }
set_option maxRecDepth 20000 in
theorem h_pass {l : Launch} {B : gB} (hlst : l.stackTraces = false) (hI : gI B) (V : gMem) (w : gWd) (x : Int32) (hQ : COk V w) (hw : wOk w) (hN : N15 V) : gHM l B yL_pass cL_pass 4 (some .int) [(0, 9, 12, 13)] rmL_pass [.ref (B.2.1 0 0 0), .int x, .ref (B.2.1 28 0 0)] V (hpo w (oPass w x) V) := by
  refine gHM_of (own := RL) (L := [(0, .ref (B.2.1 0 0 0)), (1, .int x), (2, .ref (B.2.1 28 0 0))]) hlst (by decide +kernel) rfl hI (Nat.le_of_ble_eq_true rfl) rfl ?_
  intro Z hnL hR X T F
  refine g_aload_n X 2 rfl dL_pass_0 ?_
  refine g_iconst X 0 (by decide) dL_pass_1 ?_
  refine g_aload_n X 0 rfl dL_pass_2 ?_
  refine g_iload_n X 1 rfl dL_pass_3 ?_
  refine g_callX X T.tl hR (rest := [.int 0, .ref (B.2.1 28 0 0)]) mX6_pass qL_L_57 (x_pass T.tl.st hI V w x hQ hw hN) rfl rfl (Nat.le_of_ble_eq_true rfl) ⟨by decide, by decide⟩ rfl rfl rfl ⟨Nat.le_of_ble_eq_true rfl, Nat.le_of_ble_eq_true rfl, Nat.le_of_ble_eq_true rfl, Nat.le_of_ble_eq_true rfl⟩ dL_pass_4 (fun v9 V9 h9 => ?_) (fun E9 V9 h9 => ?_)
  · obtain ⟨hv9, h09, hq9, hn9, hc9⟩ := h9
    subst hv9
    have XO := gX_out (z := (oPass w x).2.1.toInt64) X
    refine gG_st [.int (oPass w x).2.1, .int 0, .ref (B.2.1 28 0 0)] rfl ?_
    refine g_i2l X dL_pass_7 ?_
    refine g_lastO X dL_pass_8 ?_
    refine g_goto XO 15 (by decide) dL_pass_9 ?_
    refine g_iconst XO 0 (by decide) dL_pass_15 ?_
    exact g_iretH X F ⟨by rw [h09]; rfl, fun _ => rfl, hq9, hn9, hc9⟩ rfl dL_pass_16
  · obtain ⟨hV9, hw9, hE9⟩ := h9
    subst hV9
    rcases hE9 with ⟨rfl, h1⟩ | ⟨rfl, h1⟩
    · refine g_catch1 X T rfl (by decide) qCL_L_13 tc_eA (fun q9 => ?_)
      refine g_astore_n X rfl dL_pass_12 [(3, .ref q9), (0, .ref (B.2.1 0 0 0)), (1, .int x), (2, .ref (B.2.1 28 0 0))] rfl (gnl_lt hnL (by decide)) ?_
      refine g_iconst X 1 (by decide) dL_pass_13 ?_
      exact g_iretH (z := B.2.2.2.1) X F ⟨by rw [h1]; rfl, fun q => absurd (h1.symm.trans q) (by decide), by rw [hw9]; exact hQ, hN, cmod.rf⟩ rfl dL_pass_14
    · exact absurd h1 (by unfold oPass; split <;> (intro q; cases q))

abbrev rmL_count : Room := { frames := 7, cells := 1, slots := 6, locals := 108 }
set_option maxRecDepth 20000 in
theorem h_count {l : Launch} {B : gB} (hlst : l.stackTraces = false) (hI : gI B) (V : gMem) (w : gWd) (x : Int32) (hQ : COk V w) (hw : wOk w) (hN : N15 V) : gHM l B yL_count cL_count 4 (some .int) [(0, 9, 12, 21)] rmL_count [.ref (B.2.1 0 0 0), .int x, .ref (B.2.1 28 0 0)] V (hpo w (oCount w x) V) := by
  refine gHM_of (own := RL) (L := [(0, .ref (B.2.1 0 0 0)), (1, .int x), (2, .ref (B.2.1 28 0 0))]) hlst (by decide +kernel) rfl hI (Nat.le_of_ble_eq_true rfl) rfl ?_
  intro Z hnL hR X T F
  refine g_aload_n X 2 rfl dL_count_0 ?_
  refine g_iconst X 0 (by decide) dL_count_1 ?_
  refine g_aload_n X 0 rfl dL_count_2 ?_
  refine g_iload_n X 1 rfl dL_count_3 ?_
  refine g_callX X T.tl hR (rest := [.int 0, .ref (B.2.1 28 0 0)]) mX6_count qL_L_60 (x_count T.tl.st hI V w x hQ hw hN) rfl rfl (Nat.le_of_ble_eq_true rfl) ⟨by decide, by decide⟩ rfl rfl rfl ⟨Nat.le_of_ble_eq_true rfl, Nat.le_of_ble_eq_true rfl, Nat.le_of_ble_eq_true rfl, Nat.le_of_ble_eq_true rfl⟩ dL_count_4 (fun v9 V9 h9 => ?_) (fun E9 V9 h9 => ?_)
  · obtain ⟨hv9, h09, hq9, hn9, hc9⟩ := h9
    subst hv9
    have XO := gX_out (z := (oCount w x).2.1.toInt64) X
    refine gG_st [.int (oCount w x).2.1, .int 0, .ref (B.2.1 28 0 0)] rfl ?_
    refine g_i2l X dL_count_7 ?_
    refine g_lastO X dL_count_8 ?_
    refine g_goto XO 15 (by decide) dL_count_9 ?_
    refine g_iconst XO 0 (by decide) dL_count_15 ?_
    exact g_iretH X F ⟨by rw [h09]; rfl, fun _ => rfl, hq9, hn9, hc9⟩ rfl dL_count_16
  · obtain ⟨hV9, hw9, hE9⟩ := h9
    subst hV9
    rcases hE9 with ⟨rfl, h1⟩ | ⟨rfl, h1⟩
    · refine g_catch1 X T rfl (by decide) qCL_L_21 tc_eB (fun q9 => ?_)
      refine g_astore_n X rfl dL_count_12 [(3, .ref q9), (0, .ref (B.2.1 0 0 0)), (1, .int x), (2, .ref (B.2.1 28 0 0))] rfl (gnl_lt hnL (by decide)) ?_
      refine g_iconst X 1 (by decide) dL_count_13 ?_
      exact g_iretH (z := B.2.2.2.1) X F ⟨by rw [h1]; rfl, fun q => absurd (h1.symm.trans q) (by decide), by rw [hw9]; exact hQ, hN, cmod.rf⟩ rfl dL_count_14
    · exact absurd h1 (by unfold oCount; split <;> (intro q; cases q))

abbrev rmL_over : Room := { frames := 7, cells := 1, slots := 6, locals := 155 }
set_option maxRecDepth 20000 in
theorem h_over {l : Launch} {B : gB} (hlst : l.stackTraces = false) (hI : gI B) (V : gMem) (w : gWd) (x : Int32) (hQ : COk V w) (hw : wOk w) (hN : N15 V) : gHM l B yL_over cL_over 4 (some .int) [(0, 9, 12, 21)] rmL_over [.ref (B.2.1 0 0 0), .int x, .ref (B.2.1 28 0 0)] V (hpo w (oOver w x) V) := by
  refine gHM_of (own := RL) (L := [(0, .ref (B.2.1 0 0 0)), (1, .int x), (2, .ref (B.2.1 28 0 0))]) hlst (by decide +kernel) rfl hI (Nat.le_of_ble_eq_true rfl) rfl ?_
  intro Z hnL hR X T F
  refine g_aload_n X 2 rfl dL_over_0 ?_
  refine g_iconst X 0 (by decide) dL_over_1 ?_
  refine g_aload_n X 0 rfl dL_over_2 ?_
  refine g_iload_n X 1 rfl dL_over_3 ?_
  refine g_callX X T.tl hR (rest := [.int 0, .ref (B.2.1 28 0 0)]) mX6_over qL_L_63 (x_over T.tl.st hI V w x hQ hw hN) rfl rfl (Nat.le_of_ble_eq_true rfl) ⟨by decide, by decide⟩ rfl rfl rfl ⟨Nat.le_of_ble_eq_true rfl, Nat.le_of_ble_eq_true rfl, Nat.le_of_ble_eq_true rfl, Nat.le_of_ble_eq_true rfl⟩ dL_over_4 (fun v9 V9 h9 => ?_) (fun E9 V9 h9 => ?_)
  · obtain ⟨hv9, h09, hq9, hn9, hc9⟩ := h9
    subst hv9
    have XO := gX_out (z := (oOver w x).2.1.toInt64) X
    refine gG_st [.int (oOver w x).2.1, .int 0, .ref (B.2.1 28 0 0)] rfl ?_
    refine g_i2l X dL_over_7 ?_
    refine g_lastO X dL_over_8 ?_
    refine g_goto XO 15 (by decide) dL_over_9 ?_
    refine g_iconst XO 0 (by decide) dL_over_15 ?_
    exact g_iretH X F ⟨by rw [h09]; rfl, fun _ => rfl, hq9, hn9, hc9⟩ rfl dL_over_16
  · obtain ⟨hV9, hw9, hE9⟩ := h9
    subst hV9
    rcases hE9 with ⟨rfl, h1⟩ | ⟨rfl, h1⟩
    · refine g_catch1 X T rfl (by decide) qCL_L_21 tc_eB (fun q9 => ?_)
      refine g_astore_n X rfl dL_over_12 [(3, .ref q9), (0, .ref (B.2.1 0 0 0)), (1, .int x), (2, .ref (B.2.1 28 0 0))] rfl (gnl_lt hnL (by decide)) ?_
      refine g_iconst X 1 (by decide) dL_over_13 ?_
      exact g_iretH (z := B.2.2.2.1) X F ⟨by rw [h1]; rfl, fun q => absurd (h1.symm.trans q) (by decide), by rw [hw9]; exact hQ, hN, cmod.rf⟩ rfl dL_over_14
    · exact absurd h1 (by unfold oOver; split <;> (intro q; cases q))

abbrev rmL_foresee : Room := { frames := 7, cells := 1, slots := 6, locals := 156 }
set_option maxRecDepth 20000 in
theorem h_foresee {l : Launch} {B : gB} (hlst : l.stackTraces = false) (hI : gI B) (V : gMem) (w : gWd) (p : Int32) (q : Int32) (hQ : COk V w) (hw : wOk w) (hN : N15 V) : gHM l B yL_foresee cL_foresee 5 (some .int) [(0, 10, 13, 13), (0, 10, 17, 21)] rmL_foresee [.ref (B.2.1 0 0 0), .int p, .int q, .ref (B.2.1 28 0 0)] V (hpo w (oSee w p q) V) := by
  refine gHM_of (own := RL) (L := [(0, .ref (B.2.1 0 0 0)), (1, .int p), (2, .int q), (3, .ref (B.2.1 28 0 0))]) hlst (by decide +kernel) rfl hI (Nat.le_of_ble_eq_true rfl) rfl ?_
  intro Z hnL hR X T F
  refine g_aload_n X 3 rfl dL_foresee_0 ?_
  refine g_iconst X 0 (by decide) dL_foresee_1 ?_
  refine g_aload_n X 0 rfl dL_foresee_2 ?_
  refine g_iload_n X 1 rfl dL_foresee_3 ?_
  refine g_iload_n X 2 rfl dL_foresee_4 ?_
  refine g_callX X T.tl hR (rest := [.int 0, .ref (B.2.1 28 0 0)]) mX6_foresee qL_L_66 (x_foresee T.tl.st hI V w p q hQ hw hN) rfl rfl (Nat.le_of_ble_eq_true rfl) ⟨by decide, by decide⟩ rfl rfl rfl ⟨Nat.le_of_ble_eq_true rfl, Nat.le_of_ble_eq_true rfl, Nat.le_of_ble_eq_true rfl, Nat.le_of_ble_eq_true rfl⟩ dL_foresee_5 (fun v9 V9 h9 => ?_) (fun E9 V9 h9 => ?_)
  · obtain ⟨hv9, h09, hq9, hn9, hc9⟩ := h9
    subst hv9
    have XO := gX_out (z := (oSee w p q).2.1.toInt64) X
    refine gG_st [.int (oSee w p q).2.1, .int 0, .ref (B.2.1 28 0 0)] rfl ?_
    refine g_i2l X dL_foresee_8 ?_
    refine g_lastO X dL_foresee_9 ?_
    refine g_goto XO 21 (by decide) dL_foresee_10 ?_
    refine g_iconst XO 0 (by decide) dL_foresee_21 ?_
    exact g_iretH X F ⟨by rw [h09]; rfl, fun _ => rfl, hq9, hn9, hc9⟩ rfl dL_foresee_22
  · obtain ⟨hV9, hw9, hE9⟩ := h9
    subst hV9
    rcases hE9 with ⟨rfl, h1⟩ | ⟨rfl, h1⟩
    · refine g_catch1 X T rfl (by decide) qCL_L_13 tc_eA (fun q9 => ?_)
      refine g_astore X dL_foresee_13 [(4, .ref q9), (0, .ref (B.2.1 0 0 0)), (1, .int p), (2, .int q), (3, .ref (B.2.1 28 0 0))] rfl (gnl_lt hnL (by decide)) ?_
      refine g_iconst X 1 (by decide) dL_foresee_15 ?_
      exact g_iretH (z := B.2.2.2.1) X F ⟨by rw [h1]; rfl, fun q => absurd (h1.symm.trans q) (by decide), by rw [hw9]; exact hQ, hN, cmod.rf⟩ rfl dL_foresee_16
    · refine g_catch2 X T rfl (by decide) (by decide) qCL_L_13 (List.mem_of_getElem? (i := 0) rfl) qCL_L_21 tc_eB (fun q9 => ?_)
      refine g_astore X dL_foresee_17 [(4, .ref q9), (0, .ref (B.2.1 0 0 0)), (1, .int p), (2, .int q), (3, .ref (B.2.1 28 0 0))] rfl (gnl_lt hnL (by decide)) ?_
      refine g_iconst X 2 (by decide) dL_foresee_19 ?_
      exact g_iretH (z := B.2.2.2.1) X F ⟨by rw [h1]; rfl, fun q => absurd (h1.symm.trans q) (by decide), by rw [hw9]; exact hQ, hN, cmod.rf⟩ rfl dL_foresee_20

