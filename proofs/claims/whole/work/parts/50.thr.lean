/-! THROWING AND CATCHING, over the world -/
abbrev eA : String := "java/lang/IllegalArgumentException"
abbrev eS : String := "java/lang/IllegalStateException"
abbrev eB : String := "java/lang/IndexOutOfBoundsException"
abbrev tqN : List String := ["java/lang/RuntimeException", "java/lang/Exception"]
def gok2 (w : Cond) : Bool := gok w || (match w with
  | .declares _ => true
  | .castable _ _ => true
  | _ => false)
def gW2 (w : Cond) : Prop := w ∈ lw_tbl ∧ gok2 w = true
def gT2 (U : State) : Prop := ∀ w, gW2 w → ∀ a' : Array Value, w.before a' U = true
theorem gT2.warm {s U : State} (hW : s.WarmedH U.vm) (h : gT2 s) : gT2 U := by
  intro w hw a'
  have h0 := h w hw #[]
  have hg := hw.2
  unfold gok2 gok at hg
  cases hq : goodWord w with
  | true => exact word_at hW (good_of_word hq) h0
  | false =>
    rw [hq, Bool.false_or, Bool.or_eq_true] at hg
    rcases hg with hg | hg
    · split at hg
      · exact va_Nw.use rfl (va_Nw.warmF hW h0)
      · exact va_Nw.use rfl (va_Nw.warmM hW h0)
      · cases hg
    · split at hg
      · exact va_Nw.use rfl (va_Nw.warmD hW h0)
      · exact va_Nw.use rfl (va_Nw.warmC hW h0)
      · cases hg
/-- the texts of the exceptions -/
def gStr : List (Nat × String) := [(45, "rings is no number of 1 to 6 digits, 1 or 2 each"), (60, "the code has no room for these rings"), (66, "rings is no row of up to 9 rings"), (74, "what is not 0 to 2"), (85, "there is no such signal"), (99, "length is not 0 to 20"), (104, "tick is not 0 to 19"), (106, "fog is not 0 to 9"), (108, "places is not 4 to 30, or bears is not 10 to 500"), (117, "a cart is on the bridge"), (125, "a toll is not 0 to 9"), (139, "no cart is like this"), (145, "there are 16 carts"), (188, "there is no such cart, or what is not 0 to 8"), (194, "there is no such end, or no such place in its queue"), (199, "end is not 0 to 1, or what is not 0 to 3"), (204, "end is not 0 to 1"), (210, "ticks is not 1 to 200"), (215, "what is not 0 to 10"), (220, "there is no such cart"), (229, "ticks is not 1 to 100")]
/-- who isn't whose -/
def gNc : List (String × String) := [(eB, eA), (eA, eB), (eS, eA)]
/-- what a throw stands on -/
def gTh (B : gB) (sz : Nat) (U : State) : Prop := gT2 U ∧ (∀ q ∈ gStr, ∃ a, vk_R RX6 q.1 q.2 a U) ∧ vx_Zq Bundle.tN "UNASSIGNED_STACK" Bundle.steD (gA B sz) U U.heap ∧ vx_Zq Bundle.tN "SUPPRESSED_SENTINEL" Bundle.listD (gA B sz) U U.heap ∧ ∀ q ∈ gNc, va_Nc q.1 q.2 U
theorem gA_mono {B : gB} {sz sz' q : Nat} (h : sz ≤ sz') (hq : gA B sz' q) : gA B sz q := hq.elim Or.inl (fun z => Or.inr (Nat.le_trans h z))
theorem gTh.step {B : gB} {s U : State} {H : Heap} {locs : List Loc} (h : gTh B s.heap.size s) (hS : va_S (gA B s.heap.size) s.heap H locs) (hU : U.heap = H) (hW : s.WarmedH U.vm) : gTh B H.size U := by
  obtain ⟨h1, h2, h3, h4, h5⟩ := h
  subst hU
  exact ⟨h1.warm hW, fun q hq => (h2 q hq).elim fun a ha => ⟨a, vk_R.warm hW ha⟩, ((vx_Zq.kept h3 hS.2.1).moved hW.alike).narrow (fun q hq => gA_mono hS.1 hq), ((vx_Zq.kept h4 hS.2.1).moved hW.alike).narrow (fun q hq => gA_mono hS.1 hq), fun q hq => (h5 q hq).moved hW.alike⟩
theorem gTh.same {B : gB} {sz : Nat} {s U : State} (h : gTh B sz s) (hv : U.vm = s.vm) (hh : U.heap = s.heap) : gTh B sz U := by
  obtain ⟨h1, h2, h3, h4, h5⟩ := h
  have hW : s.WarmedH U.vm := by rw [hv]; exact State.WarmedH.refl s
  exact ⟨h1.warm hW, fun q hq => (h2 q hq).elim fun a ha => ⟨a, vk_R.warm hW ha⟩, by rw [hh]; exact h3.moved hW.alike, by rw [hh]; exact h4.moved hW.alike, fun q hq => (h5 q hq).moved hW.alike⟩
/-! a method that returns or throws -/
def gXC (B : gB) (xp : String → gMem → Prop) (sz : Nat) : String → State → State → Prop := fun E st t => ∃ V, xp E V ∧ va_P B.1 vwCl (gws B V) t.heap ∧ va_F (gA B sz) st t
def gPcT (B : gB) (V : gMem) (av : List Value) (sz : Nat) : Array Value → State → Prop := va_Pc av (fun U => U.heap.size = sz ∧ va_P B.1 vwCl (gws B V) U.heap ∧ gS B U ∧ gTh B sz U)
theorem gPcT_blind {B : gB} {V : gMem} {av : List Value} {sz : Nat} : FrameBlind (gPcT B V av sz) := by
  intro a U g mk q
  obtain ⟨q0, q1, q2, q3, q4⟩ := q
  exact ⟨q0, q1, q2, gS.same (s := U) (U := U.calling g mk a) rfl q3, q4.same rfl rfl⟩
def gXM (l : Launch) (B : gB) (y : MethodName) (bc : ByteArray) (nL : Nat) (ret : Option FieldType) (rm : Room) (av : List Value) (V : gMem) (post : Option Value → gMem → Prop) (xp : String → gMem → Prop) : Prop :=
  ∀ sz : Nat, vx_Met l y [.code y bc nL ret] rm (gPcT B V av sz) (gQ B post sz) (gXC B xp sz) rm.cells rm.slots (gA B sz)
def gXT (Z : gZ) (B : gB) : Prop := match Z with
  | (_, l, _, _, s, _, _, _, _, c, _, _) => l.stackTraces = false ∧ gTh B s.heap.size s ∧ ∀ x ∈ c.exceptionTable.toList, False
def gFX (Z : gZ) (B : gB) (rm : Room) (ret : Option FieldType) (post : Option Value → gMem → Prop) (xp : String → gMem → Prop) : Prop := match Z with
  | (_, _, _, R, s, _, args, below, meth, _, _, Q) => R = rm ∧ meth.sig.returnType = ret ∧ Q = vx_MQ below (gQ B post s.heap.size) (gXC B xp s.heap.size) args s rm.cells rm.slots (gA B s.heap.size)
theorem gXM_of {l : Launch} {B : gB} {y : MethodName} {bc : ByteArray} {nL : Nat} {ret : Option FieldType} {rm : Room} {av : List Value} {V : gMem} {post : Option Value → gMem → Prop} {xp : String → gMem → Prop} {L : List (Nat × Value)} {own : String} (hl : l.stackTraces = false) (hy : plainName y.cls = true) (hown : y.cls = own) (hI : gI B) (hlen : (lg_sl av).length ≤ nL) (hL : lv_args 0 av = L)
    (body : ∀ Z : gZ, gnL Z = nL → gRm Z = rm → gX Z B bc own → gXT Z B → gFX Z B rm ret post xp → gG Z B (0, 0) V 0 L []) : gXM l B y bc nL ret rm av V post xp := by
  intro sz
  refine vx_ofW (cc := bc) (maxL := nL) (ret := ret) hy rfl ?_
  intro p e s m args below meth c s₁ B' hml ht hv
  obtain ⟨rfl, hsz, hP, hS, hT⟩ := hv
  subst hsz
  subst hown
  have h := body (p, l, e, rm, s, m, av.toArray, below, meth, c, nL, vx_MQ below (gQ B post s.heap.size) (gXC B xp s.heap.size) av.toArray s rm.cells rm.slots (gA B s.heap.size)) rfl rfl ⟨B'.exec, B'.bytes, hml, findClass_of_methodNamed B'.named, hS, hI, B'.notSynchronized⟩ ⟨hl, hT, ht⟩ ⟨rfl, B'.returns, rfl⟩
  have hle := lv_entry av (n := nL) hlen
  rw [lg_entry_eq]
  rw [hL] at hle
  exact h s.heap [] _ hP va_S.rf hle
section GRX
variable {Z : gZ} {B : gB} {n : Nat × Nat} {V : gMem} {pc : Nat} {L L' : List (Nat × Value)} {st : List Value} {cc : ByteArray} {own : String}
theorem g_iretX {rm : Room} {post : Option Value → gMem → Prop} {xp : String → gMem → Prop} (X : gX Z B cc own) (F : gFX Z B rm (some .int) post xp) {v : Int32} (hp : post (some (.int v)) V) (hn : n = (rm.cells, rm.slots)) (d : decode cc pc = .ok (.ireturn, 1)) : gG Z B n V pc L [.int v] := by
  obtain ⟨p, l, e, R, s, m, args, below, meth, c, nL, Q⟩ := Z
  obtain ⟨h1, h2, h3⟩ := F
  subst h3; subst hn
  intro H locs ls hP hS hl
  exact vx_ret (W.iret X.1 X.2.1 h2 (fun t ht hW => ⟨⟨_, V, rfl, hp, by rw [ht]; exact hP⟩, hS.F ht⟩) hS.2.2 d X.2.2.2.2.2.2)
theorem g_throw {rm : Room} {ret : Option FieldType} {post : Option Value → gMem → Prop} {xp : String → gMem → Prop} (X : gX Z B cc RX6) (T : gXT Z B) (F : gFX Z B rm ret post xp) {cls text : String} {ik is ic : Nat} (hcls : Bundle.fit cls = true) (hw : ∀ w ∈ Cond.classLink RX6 ik cls :: Cond.initialized cls :: vx_atS RX6 ic cls tqN, gW2 w) (hgood : ∀ w ∈ Cond.classLink RX6 ik cls :: Cond.initialized cls :: vx_atS RX6 ic cls tqN, vx_ot w = true) (hstr : (is, text) ∈ gStr)
    (d0 : decode cc pc = .ok (.new ik, 3)) (d3 : decode cc (pc + 3) = .ok (.dup, 1)) (d4 : decode cc (pc + 4) = .ok (.ldc is, 2)) (d6 : decode cc (pc + 6) = .ok (.invokespecial ic, 3)) (d9 : decode cc (pc + 9) = .ok (.athrow, 1)) (hroom : 6 ≤ rm.frames ∧ 82 ≤ rm.locals ∧ n.1 + 1 ≤ rm.cells ∧ n.2 + 6 ≤ rm.slots) (hx : xp cls V) : gG Z B n V pc L [] := by
  obtain ⟨p, l, e, R, s, m, args, below, meth, c, nL, Q⟩ := Z
  obtain ⟨h1, h2, h3⟩ := F
  subst h3; subst h1
  obtain ⟨t1, ⟨w2, ws, z1, z2, -⟩, t3⟩ := T
  intro H locs ls hP hS hl
  obtain ⟨sa, hsa⟩ := ws _ hstr
  have hf6 : 6 ≤ R.frames := hroom.1
  have hl82 : 82 ≤ R.locals := hroom.2.1
  exact vx_throwS (names := tqN) (A := gA B s.heap.size) X.1 X.2.1 t1 X.2.2.2.1 hcls (by decide +kernel) (w2 _ (hw _ List.mem_cons_self) _) (w2 _ (hw _ (List.mem_cons_of_mem _ List.mem_cons_self)) _) hsa (fun w hq => w2 w (hw w (List.mem_cons_of_mem _ (List.mem_cons_of_mem _ hq))) _) hgood z1 z2 hS (hl.1.trans X.2.2.1.symm) d0 d3 d4 d6 d9 (fun x hx => (t3 x hx).elim) (by show 2 + 3 < R.frames; omega) (by show 0 + (13 * (2 + 1) + 43) ≤ R.locals; omega) hroom.2.2.1 hroom.2.2.2 X.2.2.2.2.2.2
    (fun t _ hz hk => ⟨V, hx, hP.kept (fun k x hx => hk x.1 (hP k x hx).lt), ⟨Nat.le_trans hS.1 hz, fun q hq hA => (hk q (Nat.lt_of_lt_of_le hq hS.1)).trans (hS.2.1 q hq hA)⟩⟩) (fun z hz => hS.2.2 z hz) hroom.2.2.1 hroom.2.2.2
end GRX

theorem tw_eA : ∀ w ∈ Cond.classLink RX6 43 eA :: Cond.initialized eA :: vx_atS RX6 47 eA tqN, gW2 w := by
  have h : ((Cond.classLink RX6 43 eA :: Cond.initialized eA :: vx_atS RX6 47 eA tqN).all fun w => decide (w ∈ lw_tbl) && gok2 w) = true := by decide +kernel
  intro w hw
  have := List.all_eq_true.mp h w hw
  simp only [Bool.and_eq_true, decide_eq_true_eq] at this
  exact this
theorem to_eA : ∀ w ∈ Cond.classLink RX6 43 eA :: Cond.initialized eA :: vx_atS RX6 47 eA tqN, vx_ot w = true := by
  have h : ((Cond.classLink RX6 43 eA :: Cond.initialized eA :: vx_atS RX6 47 eA tqN).all vx_ot) = true := by decide +kernel
  exact List.all_eq_true.mp h
theorem tf_eA : Bundle.fit eA = true := by decide +kernel

theorem tw_eS : ∀ w ∈ Cond.classLink RX6 58 eS :: Cond.initialized eS :: vx_atS RX6 62 eS tqN, gW2 w := by
  have h : ((Cond.classLink RX6 58 eS :: Cond.initialized eS :: vx_atS RX6 62 eS tqN).all fun w => decide (w ∈ lw_tbl) && gok2 w) = true := by decide +kernel
  intro w hw
  have := List.all_eq_true.mp h w hw
  simp only [Bool.and_eq_true, decide_eq_true_eq] at this
  exact this
theorem to_eS : ∀ w ∈ Cond.classLink RX6 58 eS :: Cond.initialized eS :: vx_atS RX6 62 eS tqN, vx_ot w = true := by
  have h : ((Cond.classLink RX6 58 eS :: Cond.initialized eS :: vx_atS RX6 62 eS tqN).all vx_ot) = true := by decide +kernel
  exact List.all_eq_true.mp h
theorem tf_eS : Bundle.fit eS = true := by decide +kernel

theorem tw_eB : ∀ w ∈ Cond.classLink RX6 72 eB :: Cond.initialized eB :: vx_atS RX6 76 eB tqN, gW2 w := by
  have h : ((Cond.classLink RX6 72 eB :: Cond.initialized eB :: vx_atS RX6 76 eB tqN).all fun w => decide (w ∈ lw_tbl) && gok2 w) = true := by decide +kernel
  intro w hw
  have := List.all_eq_true.mp h w hw
  simp only [Bool.and_eq_true, decide_eq_true_eq] at this
  exact this
theorem to_eB : ∀ w ∈ Cond.classLink RX6 72 eB :: Cond.initialized eB :: vx_atS RX6 76 eB tqN, vx_ot w = true := by
  have h : ((Cond.classLink RX6 72 eB :: Cond.initialized eB :: vx_atS RX6 76 eB tqN).all vx_ot) = true := by decide +kernel
  exact List.all_eq_true.mp h
theorem tf_eB : Bundle.fit eB = true := by decide +kernel

theorem ts_45 : (45, "rings is no number of 1 to 6 digits, 1 or 2 each") ∈ gStr := List.mem_of_getElem? (i := 0) rfl
theorem ts_60 : (60, "the code has no room for these rings") ∈ gStr := List.mem_of_getElem? (i := 1) rfl
theorem ts_66 : (66, "rings is no row of up to 9 rings") ∈ gStr := List.mem_of_getElem? (i := 2) rfl
theorem ts_74 : (74, "what is not 0 to 2") ∈ gStr := List.mem_of_getElem? (i := 3) rfl
theorem ts_85 : (85, "there is no such signal") ∈ gStr := List.mem_of_getElem? (i := 4) rfl
theorem ts_99 : (99, "length is not 0 to 20") ∈ gStr := List.mem_of_getElem? (i := 5) rfl
theorem ts_104 : (104, "tick is not 0 to 19") ∈ gStr := List.mem_of_getElem? (i := 6) rfl
theorem ts_106 : (106, "fog is not 0 to 9") ∈ gStr := List.mem_of_getElem? (i := 7) rfl
theorem ts_108 : (108, "places is not 4 to 30, or bears is not 10 to 500") ∈ gStr := List.mem_of_getElem? (i := 8) rfl
theorem ts_117 : (117, "a cart is on the bridge") ∈ gStr := List.mem_of_getElem? (i := 9) rfl
theorem ts_125 : (125, "a toll is not 0 to 9") ∈ gStr := List.mem_of_getElem? (i := 10) rfl
theorem ts_139 : (139, "no cart is like this") ∈ gStr := List.mem_of_getElem? (i := 11) rfl
theorem ts_145 : (145, "there are 16 carts") ∈ gStr := List.mem_of_getElem? (i := 12) rfl
theorem ts_188 : (188, "there is no such cart, or what is not 0 to 8") ∈ gStr := List.mem_of_getElem? (i := 13) rfl
theorem ts_194 : (194, "there is no such end, or no such place in its queue") ∈ gStr := List.mem_of_getElem? (i := 14) rfl
theorem ts_199 : (199, "end is not 0 to 1, or what is not 0 to 3") ∈ gStr := List.mem_of_getElem? (i := 15) rfl
theorem ts_204 : (204, "end is not 0 to 1") ∈ gStr := List.mem_of_getElem? (i := 16) rfl
theorem ts_210 : (210, "ticks is not 1 to 200") ∈ gStr := List.mem_of_getElem? (i := 17) rfl
theorem ts_215 : (215, "what is not 0 to 10") ∈ gStr := List.mem_of_getElem? (i := 18) rfl
theorem ts_220 : (220, "there is no such cart") ∈ gStr := List.mem_of_getElem? (i := 19) rfl
theorem ts_229 : (229, "ticks is not 1 to 100") ∈ gStr := List.mem_of_getElem? (i := 20) rfl
