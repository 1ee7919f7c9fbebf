/-! THE LAW'S SCRIPT: cell, below -/
/-- the script -/
def gSC (Z : gZ) (B : gB) (b L : Nat) (xs : Nat → Int32) : Prop := match Z with
  | (_, _, _, _, s, _, _, _, _, _, _, _) => va_X b L xs s s.heap ∧ b < s.heap.size ∧ ¬ gA B s.heap.size b
theorem gSC.s {Z : gZ} {B : gB} {b L a : Nat} {xs : Nat → Int32} (h : gSC Z B b L xs) (ha : gsz Z ≤ a) : gSC Z (gBs B a) b L xs := by
  obtain ⟨p, l, e, R, s, m, args, below, meth, c, nL, Q⟩ := Z
  exact ⟨h.1, h.2.1, fun q => h.2.2 (gA_s' ha q)⟩
theorem mL_cell : gCS yL_cell cL_cell 2 (some .int) 2 := ⟨qT_yL_cell, qC_yL_cell, qN_L, by decide +kernel, by decide +kernel⟩
theorem mL_below : gCS yL_below cL_below 2 (some .int) 2 := ⟨qT_yL_below, qC_yL_below, qN_L, by decide +kernel, by decide +kernel⟩
abbrev rmL_below : Room := { frames := 0, cells := 0, slots := 0, locals := 0 }
set_option maxRecDepth 20000 in
theorem k_below {l : Launch} {B : gB} (hI : gI B) (V : gMem) (x : Int32) (n : Nat) (h0 : 0 < n) (hn : n < 2 ^ 31) : gM l B yL_below cL_below 2 (some .int) rmL_below [.int x, .int (nI n)] V (fun v V' => (∃ j, j < n ∧ v = some (.int (nI j))) ∧ V' = V) := by
  refine gM_of (own := RL) (L := [(0, .int x), (1, .int (nI n))]) (by decide +kernel) rfl hI (Nat.le_of_ble_eq_true rfl) rfl ?_
  intro Z hnL hR X F
  refine g_iload_n X 0 rfl dL_below_0 ?_
  refine g_ldc X 2147483647 qKi_L_7 dL_below_1 ?_
  refine g_iand X dL_below_3 ?_
  obtain ⟨j, hj, hje⟩ := pk_andE x (m := 2147483647) 31 (by decide)
  refine gG_top (nI j) hje ?_
  refine g_iload_n X 1 rfl dL_below_4 ?_
  refine g_irem X (nI_ne0 h0 hn) dL_below_5 ?_
  refine gG_top (nI (j % n)) (pk_rem hj h0 hn) ?_
  refine g_iret X F ?_ rfl dL_below_6
  exact ⟨⟨j % n, Nat.mod_lt _ h0, rfl⟩, rfl⟩
abbrev rmL_cell : Room := { frames := 0, cells := 0, slots := 0, locals := 0 }
def sPc (b L : Nat) (xs : Nat → Int32) (av : List Value) (sz : Nat) : Array Value → State → Prop := va_Pc av (fun U => U.heap.size = sz ∧ va_X b L xs U U.heap ∧ b < U.heap.size ∧ gT U)
def sQc (sz : Nat) : Array Value → State → Outcome → State → Prop := fun _ st oc t => (∃ x : Int32, oc = .returned (some (.int x))) ∧ va_F (fun q => sz ≤ q) st t
theorem gT.same {s U : State} (hv : U.vm = s.vm) (h : gT s) : gT U := h.warm (by rw [hv]; exact State.WarmedH.refl s)
theorem sPc_blind {b L : Nat} {xs : Nat → Int32} {av : List Value} {sz : Nat} : FrameBlind (sPc b L xs av sz) := by
  intro a U g mk q
  obtain ⟨q0, q1, q2, q3, q4⟩ := q
  exact ⟨q0, q1, va_X.moved (u := U) (U := U.calling g mk a) (Vm.Alike.refl U.vm) q2, q3, gT.same (s := U) (U := U.calling g mk a) rfl q4⟩
set_option maxRecDepth 20000 in
theorem c_cell {l : Launch} {b L : Nat} {xs : Nat → Int32} (hL : L < 2 ^ 31) (k : Int32) (hk : ¬ k < 0) (sz : Nat) : Met l yL_cell [.code yL_cell cL_cell 2 (some .int)] rmL_cell (sPc b L xs [.ref b, .int k] sz) (sQc sz) 0 0 (fun q => sz ≤ q) := by
  refine Met.ofW (cc := cL_cell) (maxL := 2) (ret := some .int) (by decide +kernel) rfl ?_
  intro p e s m args below meth c s₁ B' hml hv
  obtain ⟨rfl, hsz, hX, hbl, hT⟩ := hv
  subst hsz
  have hx := B'.exec
  have hb := B'.bytes
  have hown : s.vm.findClass RL = some m.cls := findClass_of_methodNamed B'.named
  have hl := lv_entry [.ref b, .int k] (n := 2) (Nat.le_of_ble_eq_true rfl)
  rw [lg_entry_eq]
  have hS : va_S (fun q => s.heap.size ≤ q) s.heap s.heap [] := va_S.rf
  have hbA : ¬ s.heap.size ≤ b := by omega
  refine lv_iload_n hx hb dL_cell_0 rfl (lv_at hl 1 rfl) ?_
  refine lv_aload_n hx hb dL_cell_1 rfl (lv_at hl 0 rfl) ?_
  refine va_slen hx hb hX hbl hbA hS dL_cell_2 ?_
  refine lv_icmp_ge hx hb (tgt := 12) dL_cell_3 (by decide) (fun q => ?_) (fun q => ?_)
  · refine lv_ldc hx hb hown (hT _ qKi_L_8 _) dL_cell_12 ?_
    refine lv_iload_n hx hb dL_cell_14 rfl (lv_at hl 1 rfl) ?_
    refine lv_iconst (v := 3) hx hb dL_cell_15 (by decide) ?_
    refine lv_iadd hx hb dL_cell_16 ?_
    refine lv_imul hx hb dL_cell_17 ?_
    exact W.iret hx hb B'.returns (fun t ht hW => ⟨⟨_, rfl⟩, hS.F ht⟩) hS.2.2 dL_cell_18 B'.notSynchronized
  · refine lv_aload_n hx hb dL_cell_6 rfl (lv_at hl 0 rfl) ?_
    refine lv_iload_n hx hb dL_cell_7 rfl (lv_at hl 1 rfl) ?_
    have hin : vp_in k L := by
      rcases pk_ix k hL with h | h | ⟨j, h1, h2⟩
      · exact absurd h hk
      · exact absurd h q
      · rw [h2]; exact vp_in_nI h1 hL
    refine va_sld hx hb hX hbl hbA hS hin dL_cell_8 ?_
    refine lv_goto hx hb (tgt := 18) dL_cell_9 (by decide) ?_
    exact W.iret hx hb B'.returns (fun t ht hW => ⟨⟨_, rfl⟩, hS.F ht⟩) hS.2.2 dL_cell_18 B'.notSynchronized
section GCELL
variable {Z : gZ} {B : gB} {n : Nat × Nat} {V : gMem} {pc : Nat} {Lo : List (Nat × Value)} {st : List Value} {cc : ByteArray}
theorem g_callCell (X : gX Z B cc RL) {b L : Nat} {xs : Nat → Int32} (S : gSC Z B b L xs) (hL : L < 2 ^ 31) {rmZ : Room} (hR : gRm Z = rmZ) {k : Nat} (hk : k < 2 ^ 31) (hcat : (st.map fun v => v.category).sum ≤ 8) (hroom : 1 ≤ rmZ.frames ∧ 21 ≤ rmZ.locals ∧ n.1 ≤ rmZ.cells ∧ n.2 ≤ rmZ.slots) (d : decode cc pc = .ok (.invokestatic 12, 3))
    (kk : ∀ x : Int32, gG Z B n V (pc + 3) Lo (.int x :: st)) : gG Z B n V pc Lo (.int (nI k) :: .ref b :: st) := by
  obtain ⟨p, l, e, R, s, m, args, below, meth, c, nL, Q⟩ := Z
  subst hR
  intro H locs ls hP hS hl
  obtain ⟨hx, hb, hml, hown, hs, hI, hlk⟩ := X
  obtain ⟨c1, c3, c4, c5, c6⟩ := mL_cell
  have hws : ∀ w ∈ ([.code yL_cell cL_cell 2 (some .int)] : List Cond), ∀ (a' : Array Value) (U : State), s.WarmedH U.vm → w.before a' U = true := by
    intro w hw a' U hW
    rw [List.mem_singleton.mp hw]
    exact hs.1.warm hW _ c3 a'
  have hb2 : H[b]? = s.heap[b]? := hS.2.1 b S.2.1 S.2.2
  have hbH : b < H.size := Nat.lt_of_lt_of_le S.2.1 hS.1
  have hpre : PreS s H (sPc b L xs [.ref b, .int (nI k)] H.size) [.ref b, .int (nI k)] := ⟨sPc_blind, fun U hU hW => ⟨rfl, by rw [hU], by rw [hU]; exact (S.1.kept hb2).moved hW.alike, by rw [hU]; exact hbH, hs.1.warm hW⟩⟩
  have hLk : gW (.methodLink RL 12 yL_cell) := qL_L_12
  have run : va_Run p l e R s m args below meth c H locs n.1 n.2 0 0 (F0 m pc ls (.int (nI k) :: .ref b :: st)) st (sQc H.size #[.ref b, .int (nI k)]) (fun q => H.size ≤ q) :=
    va_runS (own := RL) (Ts := []) (nL := nL) ⟨hx, hb, hml, hown, fun w hw => absurd hw List.not_mem_nil⟩ (c_cell hL (nI k) (nI_pos hk) H.size) ⟨⟨rfl, rfl, hroom.1, hroom.2.1, hws, List.mem_singleton.mpr rfl, hs.1 _ c3 _, hs.1 _ c4 _, c5, gar c6, hs.1 _ hLk _⟩, hs.1 _ c1 _⟩ hpre rfl rfl hl.1 rfl (lv_room hcat) d hroom.2.2
  have hA : ∀ q, H.size ≤ q → gA B s.heap.size q := fun q h => Or.inr (Nat.le_trans hS.1 h)
  intro T hT X9
  obtain ⟨v, st₀, t, T', L0, h0, X', hL0, e1, e2, ⟨⟨x, hv⟩, hF⟩, st9⟩ := run T hT X9
  cases hv
  obtain ⟨hz, hk2, hS'⟩ := vx_keep h0 e1 hS (fun q _ h => hA q h) hA hL0 hF
  have hP' : va_P B.1 vwCl (gws B V) T'.heap := fun j y hy => (hP j y hy).kept (hk2 y.1 (hP j y hy).lt (by have := (hP j y hy).lt; omega))
  obtain ⟨t2, a1, b1⟩ := kk x T'.heap (locs ++ L0) ls hP' hS' hl T' rfl X'
  exact ⟨t2, st9 t2 a1, b1⟩
end GCELL
