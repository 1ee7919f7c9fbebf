/-! THE LAW'S BRIDGE: its contract -/
theorem mL_bridge : gCS yL_bridge cL_bridge 5 (some (.object "FogBridge")) 1 := ⟨qT_yL_bridge, qC_yL_bridge, qN_L, by decide +kernel, by decide +kernel⟩
theorem Bst_00 : Bst w00.1 0 := ⟨rfl, rfl, fun i hi => absurd hi (Nat.not_lt_zero i), fun _ _ => rfl, rfl, fun i hi => absurd hi (Nat.not_lt_zero i)⟩
def bPc (B0 : gB) (b L : Nat) (xs : Nat → Int32) (sz : Nat) : Array Value → State → Prop := va_Pc [.ref b] (fun U => U.heap.size = sz ∧ va_X b L xs U U.heap ∧ b < U.heap.size ∧ cS B0 U)
def bQc (B0 : gB) (sz : Nat) : Array Value → State → Outcome → State → Prop := fun _ st oc t => (∃ (BF : gB) (V : gMem) (w : gWd) (N : Nat), oc = .returned (some (.ref (BF.2.1 0 0 0))) ∧ BF.1 = B0.1 ∧ BF.2.2.1 = B0.2.2.1 ∧ BF.2.2.2.2 = 0 ∧ va_P BF.1 vwCl (gws BF V) t.heap ∧ gI BF ∧ (∀ q ∈ gPX BF, sz ≤ BF.2.1 q.1 q.2.1 q.2.2) ∧ COk V w ∧ N15 V ∧ vOk w ∧ 1 ≤ N ∧ Bst w.1 N) ∧ va_F (fun q => sz ≤ q) st t
theorem bPc_blind {B0 : gB} {b L : Nat} {xs : Nat → Int32} {sz : Nat} : FrameBlind (bPc B0 b L xs sz) := by
  intro a U g mk q
  obtain ⟨q0, q1, q2, q3, q4, q5⟩ := q
  exact ⟨q0, q1, va_X.moved (u := U) (U := U.calling g mk a) (Vm.Alike.refl U.vm) q2, q3, gS.same (s := U) (U := U.calling g mk a) rfl q4, va_AO.moved (u := U) (U := U.calling g mk a) (Vm.Alike.refl U.vm) q5⟩
set_option maxRecDepth 20000 in
set_option maxHeartbeats 1000000 in
theorem c_bridge {l : Launch} {B0 : gB} {b L : Nat} {xs : Nat → Int32} (hLb : L ≤ 260) (sz : Nat) : Met l yL_bridge [.code yL_bridge cL_bridge 5 (some (.object "FogBridge"))] rmL_bridge (bPc B0 b L xs sz) (bQc B0 sz) 83 858 (fun q => sz ≤ q) := by
  refine Met.ofW (cc := cL_bridge) (maxL := 5) (ret := some (.object "FogBridge")) (by decide +kernel) rfl ?_
  intro p e s m args below meth c s₁ B' hml hv
  obtain ⟨rfl, hsz, hXs, hbl, hcS⟩ := hv
  subst hsz
  have hx := B'.exec
  have hb := B'.bytes
  have hret := B'.returns
  have hown : s.vm.findClass RL = some m.cls := findClass_of_methodNamed B'.named
  have hlocks := B'.notSynchronized
  have X : cX (p, l, e, rmL_bridge, s, m, #[Value.ref b], below, meth, c, 5, MQ below (bQc B0 s.heap.size) #[Value.ref b] s 83 858 (fun q => s.heap.size ≤ q)) B0 cL_bridge RL := ⟨hx, hb, hml, hown, hcS, hlocks⟩
  have hR : gRm (p, l, e, rmL_bridge, s, m, #[Value.ref b], below, meth, c, 5, MQ below (bQc B0 s.heap.size) #[Value.ref b] s 83 858 (fun q => s.heap.size ≤ q)) = rmL_bridge := rfl
  have hnL : gnL (p, l, e, rmL_bridge, s, m, #[Value.ref b], below, meth, c, 5, MQ below (bQc B0 s.heap.size) #[Value.ref b] s 83 858 (fun q => s.heap.size ≤ q)) = 5 := rfl
  have main : cG (p, l, e, rmL_bridge, s, m, #[Value.ref b], below, meth, c, 5, MQ below (bQc B0 s.heap.size) #[Value.ref b] s 83 858 (fun q => s.heap.size ≤ q)) B0 s.heap.size [] (0, 0) 0 [(0, .ref b)] [] := by
    refine c_new X hR (ci := 5) (N := 5) rfl gU_X6 tyX6 tyX6_ok qCL_L_9 qIn_X6 qN_X6 (fs := [.null, .null, .null, .null, .null]) (fun j hj => by rcases (show j = 0 ∨ j = 1 ∨ j = 2 ∨ j = 3 ∨ j = 4 by omega) with rfl | rfl | rfl | rfl | rfl <;> rfl) ⟨Nat.le_of_ble_eq_true rfl, Nat.le_of_ble_eq_true rfl⟩ dL_bridge_0 (fun x => ?_)
    refine c_dup X rfl dL_bridge_3 ?_
    refine c_callI X hR (As := []) (rest := [.ref x]) qI_yX6_init qC_yX6_init qN_X6 (by decide +kernel) (k := 0) (by decide +kernel) rfl lL_11 (cn_class x) rfl rfl (Nat.le_of_ble_eq_true rfl) 0 rfl ⟨Nat.le_of_ble_eq_true rfl, Nat.le_of_ble_eq_true rfl, Nat.le_of_ble_eq_true rfl, Nat.le_of_ble_eq_true rfl⟩ dL_bridge_4 (fun e1 n1 h1 => ?_)
    obtain ⟨cd, s1, s2, fg, b0, b1, b2, W0, W1, W2, hw1, hB1, hB2, hB3⟩ := h1
    refine cG_ws _ hw1 ?_
    refine c_astore_n X (k := 1) rfl dL_bridge_7 [(1, .ref x), (0, .ref b)] rfl (gnl_lt hnL (by decide)) ?_
    refine cG_n (83, 858) rfl ?_
    obtain ⟨BF, f1, f2, f3, f4, hw⟩ := law_world (B := B0) (x := x) (cd := cd) (s1 := s1) (s2 := s2) (fg := fg) hB1 hB2 hB3
    refine cG_ws _ hw ?_
    intro H locs ls hP hD hS hl
    have hP' := law_P f1 f3 rfl hP
    obtain ⟨hI, hA⟩ := law_I f3 rfl hD
    have hge : ∀ q, gA BF s.heap.size q → s.heap.size ≤ q := by
      rintro q (⟨y, hy, rfl⟩ | h)
      · rcases hA y hy with h | h
        · exact Nat.le_of_eq h.symm
        · exact h
      · exact h
    have hS' : va_S (gA BF s.heap.size) s.heap H locs := by
      have hc : ∀ q, cA s.heap.size s.heap.size q → gA BF s.heap.size q := fun q h => Or.inr (h.elim (fun h => Nat.le_of_eq h.symm) id)
      exact ⟨hS.1, fun q h1 h2 => hS.2.1 q h1 (fun h => h2 (hc q h)), fun y hy => hc _ (hS.2.2 y hy)⟩
    have XF : gX (p, l, e, rmL_bridge, s, m, #[Value.ref b], below, meth, c, 5, MQ below (bQc B0 s.heap.size) #[Value.ref b] s 83 858 (fun q => s.heap.size ≤ q)) BF cL_bridge RL := ⟨hx, hb, hml, hown, ⟨hcS.1.1, by have z := hcS.1.2; unfold gty at z ⊢; rw [f1, f2]; exact z⟩, hI, hlocks⟩
    have SC : gSC (p, l, e, rmL_bridge, s, m, #[Value.ref b], below, meth, c, 5, MQ below (bQc B0 s.heap.size) #[Value.ref b] s 83 858 (fun q => s.heap.size ≤ q)) BF b L xs := ⟨hXs, hbl, fun h => by have := hge b h; omega⟩
    have walk := br_walk XF SC hR hnL hLb (V := V00) (w := w00) (a := fun k => V00 29 k 0) ⟨COk_00, N15_00, fun k => rfl⟩ vOk_00 Bst_00 (by
      intro V w N L' hL hv h1 hB H locs ls hP hS hl
      exact W.aret hx hb hret (Or.inl ⟨_, rfl⟩) (Or.inr ⟨_, rfl⟩) (fun t ht hW => ⟨⟨BF, V, w, N, rfl, f1, f2, by rw [f3], by rw [ht]; exact hP, hI, fun q hq => hge _ (Or.inl ⟨q, hq, rfl⟩), hL.1, hL.2.1, hv, h1, hB⟩, by rw [ht]; exact hS.1, fun q h1 h2 => by rw [ht]; exact hS.2.1 q h1 (fun z => h2 (hge q z))⟩) (fun q hq => hge _ (hS.2.2 q hq)) dL_bridge_234 hlocks)
    rw [f4] at walk
    exact walk H locs ls hP' hS' (lv_sub hl [1, 0] rfl)
  have hl := lv_entry ([.ref b]) (n := 5) (Nat.le_of_ble_eq_true rfl)
  rw [lg_entry_eq]
  generalize (lg_sl ([.ref b]) ++ List.replicate (5 - (lg_sl ([.ref b])).length) Slot.unset).toArray = ls at hl ⊢
  have hl : lv_has ls 5 [(0, .ref b)] := hl
  exact main s.heap [] ls (fun k q h => by simp at h) ⟨fun i j p q h => by simp at h, fun k q h => by simp at h⟩ va_S.rf hl
