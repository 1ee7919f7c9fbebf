/-! THE LAW FROM ITS ENTRY -/
set_option maxRecDepth 20000 in
set_option maxHeartbeats 2000000 in
theorem law_top {p : Program} {e : Env} {s : State} {m : MethodId} {below : List Frame} {meth : Method} {c : Code} (l : Launch) (hflags : l.flags = flags0) {b L : Nat} {xs : Nat → Int32} (hL : L ≤ 260) (C0 : lw_At p s m meth c b L xs) : W p l e room_1 s m #[Value.ref b] below meth c s.heap [] 0 0 (lw_Z below #[Value.ref b] s) (entryFrame m ([Value.ref b] : List Value).toArray 33) := by
  obtain ⟨hx, hb, hr, hml, hown, hts, hX, hbl, hlocks, hgv⟩ := C0
  have hT : gT s := by
    intro w hw a'
    have h0 := hts w hw.1
    have hg := hw.2
    unfold gok at hg
    cases hq : goodWord w with
    | true => exact word_at (State.WarmedH.refl s) (good_of_word hq) h0
    | false =>
      rw [hq, Bool.false_or] at hg
      split at hg
      · exact va_Nw.use rfl (va_Nw.of rfl h0)
      · exact va_Nw.use rfl (va_Nw.of rfl h0)
      · cases hg
  obtain ⟨cc0, ii0, hk0⟩ := u_known (C := RX0) (T := TX0) (N := 11) (n := 11) hts (fun w hw => (gU_X0 w hw).1) (hts _ qIn_X0.1)
  obtain ⟨cc1, ii1, hk1⟩ := u_known (C := RX1) (T := TX1) (N := 11) (n := 11) hts (fun w hw => (gU_X1 w hw).1) (hts _ qIn_X1.1)
  obtain ⟨cc2, ii2, hk2⟩ := u_known (C := RX2) (T := TX2) (N := 3) (n := 3) hts (fun w hw => (gU_X2 w hw).1) (hts _ qIn_X2.1)
  obtain ⟨cc3, ii3, hk3⟩ := u_known (C := RX3) (T := TX3) (N := 5) (n := 5) hts (fun w hw => (gU_X3 w hw).1) (hts _ qIn_X3.1)
  obtain ⟨cc4, ii4, hk4⟩ := u_known (C := RX5) (T := TX5) (N := 2) (n := 2) hts (fun w hw => (gU_X5 w hw).1) (hts _ qIn_X5.1)
  obtain ⟨cc5, ii5, hk5⟩ := u_known (C := RX6) (T := TX6) (N := 5) (n := 5) hts (fun w hw => (gU_X6 w hw).1) (hts _ qIn_X6.1)
  obtain ⟨dC, dI, hKc⟩ : ∃ (dC : Nat → ClassId) (dI : Nat → Nat → Nat), ∀ (k : Nat) (q : vw_C), vwCl[k]? = some q → u_Kn s q.1 q.2.1 q.2.2 (dC k) (dI k) := by
    refine ⟨fun k => if k = 0 then cc0 else if k = 1 then cc1 else if k = 2 then cc2 else if k = 3 then cc3 else if k = 4 then cc4 else cc5, fun k => if k = 0 then ii0 else if k = 1 then ii1 else if k = 2 then ii2 else if k = 3 then ii3 else if k = 4 then ii4 else ii5, ?_⟩
    intro k q hq
    match k, hq with
    | 0, hq => cases hq; exact hk0
    | 1, hq => cases hq; exact hk1
    | 2, hq => cases hq; exact hk2
    | 3, hq => cases hq; exact hk3
    | 4, hq => cases hq; exact hk4
    | 5, hq => cases hq; exact hk5
    | k + 6, hq => simp [vwCl] at hq
  obtain ⟨cI, kI, pI, i1, i2, i3⟩ := Cond.arrayClass_spec (show (Cond.arrayClass .int).holds #[Value.ref b] s none s [] = true from hts _ qA_int.1)
  have hAO : va_AO RX1 s := va_AO.moved (Vm.Alike.refl s.vm) (show va_AO RX1 s from hts (.arrayOver (.object RX1)) (by decide +kernel))
  obtain ⟨pC, cC, kC, o1, -, o3, o4, o5⟩ := Cond.arrayOver_spec (show (Cond.arrayOver (.object RX1)).holds #[] s none s [] = true from hAO)
  have hK : va_K (dC, dI) vwCl [(cI, .int), (cC, .object RX1)] s := by
    refine ⟨hKc, fun k q hq => ?_⟩
    match k, hq with
    | 0, hq => cases hq; exact ⟨fun n z => ⟨(fun k h => by cases h), kI, i2, pI, i3⟩, i1⟩
    | 1, hq => cases hq; exact ⟨fun n z => ⟨(fun k h => by cases h), kC, o3, pC, o4⟩, kC, pC, o3, o4, o1, o5⟩
    | k + 2, hq => simp at hq
  have hcl : va_Nw (.castable "[I" "java/lang/Cloneable") s := va_Nw.of rfl (hts (.castable "[I" "java/lang/Cloneable") (by decide +kernel))
  obtain ⟨B0, hB0⟩ : ∃ B0 : gB, B0 = ((dC, dI), fun _ _ _ => 0, (cI, cC, cC), (0, 0)) := ⟨_, rfl⟩
  have hg1 : B0.1 = (dC, dI) := by rw [hB0]
  have hg2 : B0.2.2.1 = (cI, cC, cC) := by rw [hB0]
  have hcS : cS B0 s := ⟨⟨hT, by unfold gty; rw [hg1, hg2]; exact hK⟩, hAO⟩
  have hl := lv_entry ([.ref b]) (n := 33) (Nat.le_of_ble_eq_true rfl)
  rw [lg_entry_eq]
  generalize (lg_sl ([.ref b]) ++ List.replicate (33 - (lg_sl ([.ref b])).length) Slot.unset).toArray = ls at hl ⊢
  have hl : lv_has ls 33 [(0, .ref b)] := hl
  refine lv_aload_n hx hb dL_law_0 rfl (lv_at hl 0 rfl) ?_
  obtain ⟨c1, c3, c4, c5, c6⟩ := mL_bridge
  have hws : ∀ w ∈ ([.code yL_bridge cL_bridge 5 (some (.object "FogBridge"))] : List Cond), ∀ (a' : Array Value) (U : State), s.WarmedH U.vm → w.before a' U = true := by
    intro w hw a' U hW
    rw [List.mem_singleton.mp hw]
    exact hT.warm hW _ c3 a'
  have hpre : PreS s s.heap (bPc B0 b L xs s.heap.size) [.ref b] := ⟨bPc_blind, fun U hU hW => ⟨rfl, by rw [hU], by rw [hU]; exact hX.moved hW.alike, by rw [hU]; exact hbl, hcS.warm hW⟩⟩
  have hLk : gW (.methodLink RL 32 yL_bridge) := qL_L_32
  have run : va_Run p l e room_1 s m #[Value.ref b] below meth c s.heap [] 0 0 83 858 (F0 m 1 ls [.ref b]) [] (bQc B0 s.heap.size #[.ref b]) (fun q => s.heap.size ≤ q) :=
    va_runS (own := RL) (Ts := []) (nL := 33) ⟨hx, hb, hml, hown, fun w hw => absurd hw List.not_mem_nil⟩ (c_bridge hL s.heap.size) ⟨⟨rfl, rfl, Nat.le_of_ble_eq_true rfl, Nat.le_of_ble_eq_true rfl, hws, List.mem_singleton.mpr rfl, hT _ c3 _, hT _ c4 _, c5, gar c6, hT _ hLk _⟩, hT _ c1 _⟩ hpre rfl rfl hl.1 rfl (lv_room (Nat.le_of_ble_eq_true rfl)) dL_law_1 ⟨Nat.le_of_ble_eq_true rfl, Nat.le_of_ble_eq_true rfl⟩
  intro T hT9 X9
  obtain ⟨v, st₀, t, T', L0, h0, X', hL0, e1, e2, ⟨⟨BF, V, w, N, hv, f1, f2, f3, hP, hI, hA, hQ, hN15, hvk, h1N, hB⟩, hF⟩, st9⟩ := run T hT9 X9
  cases hv
  obtain ⟨hz, hk2, hS'⟩ := vx_keep h0 e1 (va_S.rf (A := fun q => s.heap.size ≤ q) (H0 := s.heap)) (fun q _ h => h) (fun q h => h) hL0 hF
  have hge : ∀ q, gA BF s.heap.size q → s.heap.size ≤ q := by
    rintro q (⟨y, hy, rfl⟩ | h)
    · exact hA y hy
    · exact h
  have XF : gX (p, l, e, room_1, s, m, #[Value.ref b], below, meth, c, 33, lw_Z below #[Value.ref b] s) BF cL_law RL := ⟨hx, hb, hml, hown, ⟨hT, by unfold gty; rw [f1, f2, hg1, hg2]; exact hK⟩, hI, hlocks⟩
  have SC : gSC (p, l, e, room_1, s, m, #[Value.ref b], below, meth, c, 33, lw_Z below #[Value.ref b] s) BF b L xs := ⟨hX, hbl, fun h => by have := hge b h; omega⟩
  have walk := law_P1 XF SC hcl rfl rfl f3 hL hge (fun B V n L' hge9 q1 q2 => by
    intro H locs ls hP hS hl
    refine lv_iconst (v := 1) hx hb dL_law_1090 (by decide) ?_
    refine W.widen q1 q2 ?_
    refine va_forget (fun q hq => hge9 _ (hS.2.2 q hq)) ?_
    exact lw_ret hx hb hr hlocks dL_law_1091) (V := V) (w := w) (a := fun k => V 29 k 0) ⟨hQ, hN15, fun k => rfl⟩ hvk.1 (N := N) hB.2.1 rfl rfl h1N hB
  obtain ⟨t2, a1, b1⟩ := walk T'.heap ([] ++ L0) ls (by rw [e1]; exact hP) ⟨hS'.1, fun q h1 h2 => hS'.2.1 q h1 (fun z => h2 (Or.inr z)), fun q hq => Or.inr (hS'.2.2 q hq)⟩ hl T' rfl X'
  exact ⟨t2, st9 t2 a1, b1⟩
