/-! THE LAW FROM ITS ENTRY -/
set_option maxRecDepth 20000 in
set_option maxHeartbeats 2000000 in
theorem law_top {p : Program} {e : Env} {s : State} {m : MethodId} {below : List Frame} {meth : Method} {c : Code} (l : Launch) (hflags : l.flags = flags0) {b L : Nat} {xs : Nat → Int32} (hL : L ≤ 3584) (C0 : lw_At p s m meth c b L xs) : W p l e room_1 s m #[Value.ref b] below meth c s.heap [] 0 0 (lw_Z below #[Value.ref b] s) (entryFrame m ([Value.ref b] : List Value).toArray 9) := by
  obtain ⟨hx, hb, hr, hml, hown, hts, hX, hbl, hlocks, hgv⟩ := C0
  have hst : l.stackTraces = false := by
    unfold Launch.stackTraces
    rw [hflags]
    decide +kernel
  have hnar := flat_of_before _ hgv
  have hT : gT s := by
    intro w hw a'
    have h0 := hts w hw.1
    have hg := hw.2
    unfold gok at hg
    cases hq : goodWord w with
    | true => exact word_at (State.WarmedH.refl s) (good_of_word hq) h0
    | false =>
      rw [hq, Bool.false_or] at hg
      split at hg
      · exact va_Nw.use rfl (va_Nw.of rfl h0)
      · exact va_Nw.use rfl (va_Nw.of rfl h0)
      · cases hg
  have hT2 : gT2 s := by
    intro w hw a'
    have h0 := hts w hw.1
    have hg := hw.2
    unfold gok2 gok at hg
    cases hq : goodWord w with
    | true => exact word_at (State.WarmedH.refl s) (good_of_word hq) h0
    | false =>
      rw [hq, Bool.false_or, Bool.or_eq_true] at hg
      rcases hg with hg | hg
      · split at hg
        · exact va_Nw.use rfl (va_Nw.of rfl h0)
        · exact va_Nw.use rfl (va_Nw.of rfl h0)
        · cases hg
      · split at hg
        · exact va_Nw.use rfl (va_Nw.of rfl h0)
        · exact va_Nw.use rfl (va_Nw.of rfl h0)
        · cases hg
  obtain ⟨cc0, ii0, hk0⟩ := u_known (C := RX0) (T := TX0) (N := 11) (n := 11) hts (fun w hw => (gU_X0 w hw).1) (hts _ qIn_X0.1)
  obtain ⟨cc1, ii1, hk1⟩ := u_known (C := RX1) (T := TX1) (N := 11) (n := 11) hts (fun w hw => (gU_X1 w hw).1) (hts _ qIn_X1.1)
  obtain ⟨cc2, ii2, hk2⟩ := u_known (C := RX2) (T := TX2) (N := 3) (n := 3) hts (fun w hw => (gU_X2 w hw).1) (hts _ qIn_X2.1)
  obtain ⟨cc3, ii3, hk3⟩ := u_known (C := RX3) (T := TX3) (N := 5) (n := 5) hts (fun w hw => (gU_X3 w hw).1) (hts _ qIn_X3.1)
  obtain ⟨cc4, ii4, hk4⟩ := u_known (C := RX5) (T := TX5) (N := 2) (n := 2) hts (fun w hw => (gU_X5 w hw).1) (hts _ qIn_X5.1)
  obtain ⟨cc5, ii5, hk5⟩ := u_known (C := RX6) (T := TX6) (N := 5) (n := 5) hts (fun w hw => (gU_X6 w hw).1) (hts _ qIn_X6.1)
  obtain ⟨cc6, ii6, hk6⟩ := u_known (C := RX7) (T := TX7) (N := 8) (n := 8) hts (fun w hw => (gU_X7 w hw).1) (hts _ qIn_X7.1)
  obtain ⟨cc7, ii7, hk7⟩ := u_known (C := RX8) (T := TX8) (N := 10) (n := 10) hts (fun w hw => (gU_X8 w hw).1) (hts _ qIn_X8.1)
  obtain ⟨dC, dI, hKc⟩ : ∃ (dC : Nat → ClassId) (dI : Nat → Nat → Nat), ∀ (k : Nat) (q : vw_C), vwCl[k]? = some q → u_Kn s q.1 q.2.1 q.2.2 (dC k) (dI k) := by
    refine ⟨fun k => if k = 0 then cc0 else if k = 1 then cc1 else if k = 2 then cc2 else if k = 3 then cc3 else if k = 4 then cc4 else if k = 5 then cc5 else if k = 6 then cc6 else cc7, fun k => if k = 0 then ii0 else if k = 1 then ii1 else if k = 2 then ii2 else if k = 3 then ii3 else if k = 4 then ii4 else if k = 5 then ii5 else if k = 6 then ii6 else ii7, ?_⟩
    intro k q hq
    match k, hq with
    | 0, hq => cases hq; exact hk0
    | 1, hq => cases hq; exact hk1
    | 2, hq => cases hq; exact hk2
    | 3, hq => cases hq; exact hk3
    | 4, hq => cases hq; exact hk4
    | 5, hq => cases hq; exact hk5
    | 6, hq => cases hq; exact hk6
    | 7, hq => cases hq; exact hk7
    | k + 8, hq => simp [vwCl] at hq
  obtain ⟨cI, kI, pI, i1, i2, i3⟩ := Cond.arrayClass_spec (show (Cond.arrayClass .int).holds #[Value.ref b] s none s [] = true from hts _ qA_int.1)
  obtain ⟨cL, kL, pL, l1, l2, l3⟩ := Cond.arrayClass_spec (show (Cond.arrayClass .long).holds #[Value.ref b] s none s [] = true from hts _ qA_long.1)
  have hAO : va_AO RX1 s := va_AO.moved (Vm.Alike.refl s.vm) (show va_AO RX1 s from hts (.arrayOver (.object RX1)) (by decide +kernel))
  obtain ⟨pC, cC, kC, o1, -, o3, o4, o5⟩ := Cond.arrayOver_spec (show (Cond.arrayOver (.object RX1)).holds #[] s none s [] = true from hAO)
  have hK : va_K (dC, dI) vwCl [(cI, .int), (cC, .object RX1), (cL, .long)] s := by
    refine ⟨hKc, fun k q hq => ?_⟩
    match k, hq with
    | 0, hq => cases hq; exact ⟨fun n z => ⟨(fun k h => by cases h), kI, i2, pI, i3⟩, i1⟩
    | 1, hq => cases hq; exact ⟨fun n z => ⟨(fun k h => by cases h), kC, o3, pC, o4⟩, kC, pC, o3, o4, o1, o5⟩
    | 2, hq => cases hq; exact ⟨fun n z => ⟨(fun k h => by cases h), kL, l2, pL, l3⟩, l1⟩
    | k + 3, hq => simp at hq
  have hstr : ∀ q ∈ gStr, ∃ a, vk_R RX6 q.1 q.2 a s := by
    have h : (gStr.all fun q => decide (Cond.stringRef RX6 q.1 q.2 ∈ lw_tbl) && decide (Cond.exactly (.string RX6 q.1) "java/lang/String" ∈ flatC (Jvm.Cond.and given_1 narrow_1))) = true := by decide +kernel
    intro q hq
    have h1 := List.all_eq_true.mp h q hq
    simp only [Bool.and_eq_true, decide_eq_true_eq] at h1
    obtain ⟨a, _, _, _, ha, -⟩ := Cond.exactly_spec (show (Cond.exactly (.string RX6 q.1) "java/lang/String").holds #[Value.ref b] s none s [] = true from hnar _ h1.2)
    exact ⟨a, vk_R.of (hts _ h1.1) ha⟩
  have hnc : ∀ q ∈ gNc, va_Nc q.1 q.2 s := by
    have h : (gNc.all fun q => decide (Cond.not (.castable q.1 q.2) ∈ flatC (Jvm.Cond.and given_1 narrow_1))) = true := by decide +kernel
    intro q hq
    exact va_Nc.of (hnar _ (of_decide_eq_true (List.all_eq_true.mp h q hq)))
  obtain ⟨B0, hB0⟩ : ∃ B0 : gB, B0 = ((dC, dI), fun _ _ _ => 0, (cI, cC, cL), (0, 0)) := ⟨_, rfl⟩
  have hg1 : B0.1 = (dC, dI) := by rw [hB0]
  have hg2 : B0.2.2.1 = (cI, cC, cL) := by rw [hB0]
  have hcS : cS B0 s := ⟨⟨hT, by unfold gty; rw [hg1, hg2]; exact hK⟩, hAO⟩
  have X : cX (p, l, e, room_1, s, m, #[Value.ref b], below, meth, c, 9, lw_Z below #[Value.ref b] s) B0 cL_law RL := ⟨hx, hb, hml, hown, hcS, hlocks⟩
  have hR : gRm (p, l, e, room_1, s, m, #[Value.ref b], below, meth, c, 9, lw_Z below #[Value.ref b] s) = room_1 := rfl
  have hnL : gnL (p, l, e, room_1, s, m, #[Value.ref b], below, meth, c, 9, lw_Z below #[Value.ref b] s) = 9 := rfl
  have main : cG (p, l, e, room_1, s, m, #[Value.ref b], below, meth, c, 9, lw_Z below #[Value.ref b] s) B0 s.heap.size [] (0, 0) 0 [(0, .ref b)] [] := by
    refine c_new X hR (ci := 5) (N := 5) rfl gU_X6 tyX6 tyX6_ok qCL_L_8 qIn_X6 qN_X6 (fs := [.null, .null, .null, .null, .null]) (fun j hj => by rcases (show j = 0 ∨ j = 1 ∨ j = 2 ∨ j = 3 ∨ j = 4 by omega) with rfl | rfl | rfl | rfl | rfl <;> rfl) ⟨Nat.le_of_ble_eq_true rfl, Nat.le_of_ble_eq_true rfl⟩ dL_law_0 (fun x => ?_)
    refine c_dup X rfl dL_law_3 ?_
    refine c_callI X hR (As := []) (rest := [.ref x]) qI_yX6_init qC_yX6_init qN_X6 (by decide +kernel) (k := 0) (by decide +kernel) rfl lL_69 (cn_class x) rfl rfl (Nat.le_of_ble_eq_true rfl) 0 rfl ⟨Nat.le_of_ble_eq_true rfl, Nat.le_of_ble_eq_true rfl, Nat.le_of_ble_eq_true rfl, Nat.le_of_ble_eq_true rfl⟩ dL_law_4 (fun e1 n1 h1 => ?_)
    obtain ⟨cd, s1, s2, fg, b0, b1, b2, W0, W1, W2, hw1, hB1, hB2, hB3⟩ := h1
    refine cG_ws _ hw1 ?_
    refine c_astore_n X (k := 1) rfl dL_law_7 [(1, .ref x), (0, .ref b)] rfl (gnl_lt hnL (by decide)) ?_
    refine c_new X hR (ci := 7) (N := 10) rfl gU_X8 tyX8 tyX8_ok qCL_L_70 qIn_X8 qN_X8 (fs := [.int 0, .int 0, .null, .null, .int 0, .int 0, .int 0, .int 0, .null, .null]) (fun j hj => by rcases (show j = 0 ∨ j = 1 ∨ j = 2 ∨ j = 3 ∨ j = 4 ∨ j = 5 ∨ j = 6 ∨ j = 7 ∨ j = 8 ∨ j = 9 by omega) with rfl | rfl | rfl | rfl | rfl | rfl | rfl | rfl | rfl | rfl <;> rfl) ⟨Nat.le_of_ble_eq_true rfl, Nat.le_of_ble_eq_true rfl⟩ dL_law_8 (fun mm => ?_)
    refine c_dup X rfl dL_law_11 ?_
    refine c_callI X hR (As := []) (rest := [.ref mm]) qI_yX8_init qC_yX8_init qN_X8 (by decide +kernel) (k := 0) (by decide +kernel) rfl lL_72 (cn_model mm) rfl rfl (Nat.le_of_ble_eq_true rfl) _ (app_get _ _) ⟨Nat.le_of_ble_eq_true rfl, Nat.le_of_ble_eq_true rfl, Nat.le_of_ble_eq_true rfl, Nat.le_of_ble_eq_true rfl⟩ dL_law_12 (fun e2 n2 h2 => ?_)
    obtain ⟨sg, mf, s0, p1, p2, p3, p4, t0, r1, r2, r3, r4, rfl, rfl⟩ := h2
    refine cG_ws _ (app_set _ _ _ _) ?_
    refine c_astore_n X (k := 2) rfl dL_law_15 [(2, .ref mm), (1, .ref x), (0, .ref b)] rfl (gnl_lt hnL (by decide)) ?_
    refine c_iconst X 1 (by decide) dL_law_16 ?_
    refine c_newL X hR 1 rfl (by decide) ⟨Nat.le_of_ble_eq_true rfl, Nat.le_of_ble_eq_true rfl⟩ dL_law_17 (fun oo => ?_)
    refine c_astore_n X (k := 3) rfl dL_law_19 [(3, .ref oo), (2, .ref mm), (1, .ref x), (0, .ref b)] rfl (gnl_lt hnL (by decide)) ?_
    refine c_iconst X 0 (by decide) dL_law_20 ?_
    refine c_istore X dL_law_21 [(4, .int 0), (3, .ref oo), (2, .ref mm), (1, .ref x), (0, .ref b)] rfl (gnl_lt hnL (by decide)) ?_
    refine cG_n (97, 1377) rfl ?_
    obtain ⟨BF, f1, f2, f3, f4, f5, f6, hw⟩ := law_world (B := B0) (x := x) (cd := cd) (s1 := s1) (s2 := s2) (fg := fg) (m := mm) (sg := sg) (mf := mf) (s0 := s0) (p1 := p1) (p2 := p2) (p3 := p3) (p4 := p4) (t0 := t0) (r1 := r1) (r2 := r2) (r3 := r3) (r4 := r4) (o := oo) hB1 hB2 hB3
    refine cG_ws _ hw ?_
    intro H locs ls hP hD hS hl
    have hP' := law_P f1 f3 rfl hP
    obtain ⟨hI, hA⟩ := law_I f3 rfl hD
    have h00 : BF.2.2.2.2 = 0 := by rw [f3]
    have hge : ∀ q, gA BF s.heap.size q → s.heap.size ≤ q := by
      rintro q (⟨y, hy, rfl⟩ | h)
      · rcases hA y hy with h | h
        · exact Nat.le_of_eq h.symm
        · exact h
      · exact h
    have hS' : va_S (gA BF s.heap.size) s.heap H locs := by
      have hc : ∀ q, cA s.heap.size s.heap.size q → gA BF s.heap.size q := fun q h => Or.inr (h.elim (fun h => Nat.le_of_eq h.symm) id)
      exact ⟨hS.1, fun q h1 h2 => hS.2.1 q h1 (fun h => h2 (hc q h)), fun y hy => hc _ (hS.2.2 y hy)⟩
    have XF : gX (p, l, e, room_1, s, m, #[Value.ref b], below, meth, c, 9, lw_Z below #[Value.ref b] s) BF cL_law RL := ⟨hx, hb, hml, hown, ⟨hT, by unfold gty; rw [f1, f2, hg1, hg2]; exact hK⟩, hI, hlocks⟩
    have hnA : ∀ a : Nat, a < s.heap.size → ¬ gA BF s.heap.size a := fun a ha h => by have := hge a h; omega
    have TF : gTL (p, l, e, room_1, s, m, #[Value.ref b], below, meth, c, 9, lw_Z below #[Value.ref b] s) BF := ⟨hst, hT2, hstr, vx_Zqof (hts (.laysStatic Bundle.tN "UNASSIGNED_STACK" Bundle.steD) (by decide +kernel)) (hts (.initialized Bundle.tN) (by decide +kernel)) (hnar (.isRef (.static Bundle.tN "UNASSIGNED_STACK" Bundle.steD)) (by decide +kernel)) hnA, vx_Zqof (hts (.laysStatic Bundle.tN "SUPPRESSED_SENTINEL" Bundle.listD) (by decide +kernel)) (hts (.initialized Bundle.tN) (by decide +kernel)) (hnar (.isRef (.static Bundle.tN "SUPPRESSED_SENTINEL" Bundle.listD)) (by decide +kernel)) hnA, hnc⟩
    have SC : gSC (p, l, e, room_1, s, m, #[Value.ref b], below, meth, c, 9, lw_Z below #[Value.ref b] s) BF b L xs := ⟨hX, hbl, hnA b hbl⟩
    have hgo : gOut BF 0 = BF := by
      obtain ⟨g1, g2, g3, g4⟩ := BF
      simp only at f3
      subst f3
      rfl
    have loop := law_loop XF TF hR hnL SC h00 hL (c0 := 97) (s0 := 1377) (by decide) (by decide) (by
      intro V' z' n' L' h1 h2 H locs ls hP hS hl
      refine lv_iconst (v := 1) hx hb dL_law_1353 (by decide) ?_
      refine W.widen h1 h2 ?_
      refine va_forget (fun q hq => hge _ (hS.2.2 q hq)) ?_
      exact lw_ret (d0 := s.drawn) (Drawn.sameBut.refl s.drawn lw_cs) hx hb hr hlocks dL_law_1354) (L / 7) 0 V00 w00 0 (by omega) vOk_00 COk_00 MOk_00 N15_00 (Nat.zero_le _)
    rw [hgo, f4, f5, f6] at loop
    exact loop H locs ls hP' hS' (lv_sub hl [4, 3, 2, 1, 0] rfl)
  have hl := lv_entry ([.ref b]) (n := 9) (Nat.le_of_ble_eq_true rfl)
  rw [lg_entry_eq]
  generalize (lg_sl ([.ref b]) ++ List.replicate (9 - (lg_sl ([.ref b])).length) Slot.unset).toArray = ls at hl ⊢
  have hl : lv_has ls 9 [(0, .ref b)] := hl
  exact main s.heap [] ls (fun k q h => by simp at h) ⟨fun i j p q h => by simp at h, fun k q h => by simp at h⟩ va_S.rf hl

