/-! CONSTRUCTORS: a world that grows, cell by cell -/
def cS (B : gB) (U : State) : Prop := gS B U ∧ va_AO RX1 U
theorem cS.warm {B : gB} {s U : State} (hW : s.WarmedH U.vm) (h : cS B s) : cS B U := ⟨h.1.warm hW, h.2.moved hW.alike⟩
def cA (a sz : Nat) : Nat → Prop := fun x => x = a ∨ sz ≤ x
def cQ (B : gB) (a : Nat) (post : va_E → va_W → Prop) (sz : Nat) : Array Value → State → Outcome → State → Prop := fun _ st oc t => (∃ (e1 : va_E) (new : va_W), oc = .returned none ∧ post e1 new ∧ va_P B.1 vwCl ((a, e1) :: new) t.heap ∧ va_D (cA a sz) ((a, e1) :: new)) ∧ va_F (cA a sz) st t
def cPc (B : gB) (av : List Value) (a : Nat) (e0 : va_E) (sz : Nat) : Array Value → State → Prop := va_Pc av (fun U => U.heap.size = sz ∧ va_P B.1 vwCl [(a, e0)] U.heap ∧ cS B U)
theorem cPc_blind {B : gB} {av : List Value} {a sz : Nat} {e0 : va_E} : FrameBlind (cPc B av a e0 sz) := by
  intro a' U g mk q
  obtain ⟨q0, q1, q2, q3, q4⟩ := q
  exact ⟨q0, q1, q2, gS.same (s := U) (U := U.calling g mk a') rfl q3, va_AO.moved (u := U) (U := U.calling g mk a') (Vm.Alike.refl U.vm) q4⟩
/-- a constructor's contract: from the cell a, as e0, it returns; a is e1 then, and new is new -/
def cM (l : Launch) (B : gB) (y : MethodName) (bc : ByteArray) (nL : Nat) (rm : Room) (av : List Value) (a : Nat) (e0 : va_E) (post : va_E → va_W → Prop) : Prop := ∀ sz : Nat, Met l y [.code y bc nL none] rm (cPc B av a e0 sz) (cQ B a post sz) rm.cells rm.slots (cA a sz)
def cG (Z : gZ) (B : gB) (a : Nat) (ws : va_W) (n : Nat × Nat) (pc : Nat) (L : List (Nat × Value)) (st : List Value) : Prop := match Z with
  | (p, l, e, R, s, m, args, below, meth, c, nL, Q) => ∀ (H : Heap) (locs : List Loc) (ls : Array Slot), va_P B.1 vwCl ws H → va_D (cA a s.heap.size) ws → va_S (cA a s.heap.size) s.heap H locs → lv_has ls nL L → W p l e R s m args below meth c H locs n.1 n.2 Q (F0 m pc ls st)
def cX (Z : gZ) (B : gB) (cc : ByteArray) (own : String) : Prop := match Z with
  | (p, _, _, _, s, m, _, _, meth, c, nL, _) => p.tables.exec = Jvm.exec ∧ c.code = cc ∧ c.maxLocals = nL ∧ s.vm.findClass own = some m.cls ∧ cS B s ∧ meth.locks = false
def cN (Z : gZ) : Prop := match Z with
  | (_, _, _, _, _, _, _, _, meth, _, _, _) => meth.name = "<init>"
def cF (Z : gZ) (B : gB) (a : Nat) (rm : Room) (post : va_E → va_W → Prop) : Prop := match Z with
  | (_, _, _, R, s, _, args, below, meth, _, _, Q) => R = rm ∧ meth.sig.returnType = none ∧ Q = MQ below (cQ B a post s.heap.size) args s rm.cells rm.slots (cA a s.heap.size)
theorem va_D.one {A : Nat → Prop} {a : Nat} {e : va_E} (h : A a) : va_D A [(a, e)] := by
  have key : ∀ (k : Nat) (q : Nat × va_E), ([(a, e)] : va_W)[k]? = some q → k = 0 ∧ q = (a, e) := by
    intro k q hk
    have hl : k < 1 := (List.getElem?_eq_some_iff.mp hk).1
    have h0 : k = 0 := by omega
    subst h0
    exact ⟨rfl, (Option.some.inj hk).symm⟩
  refine ⟨fun i j p q hp hq _ => (key i p hp).1.trans (key j q hq).1.symm, fun k q hk => ?_⟩
  rw [(key k q hk).2]
  exact h
theorem cM_of {l : Launch} {B : gB} {y : MethodName} {bc : ByteArray} {nL : Nat} {rm : Room} {av : List Value} {a : Nat} {e0 : va_E} {post : va_E → va_W → Prop} {L : List (Nat × Value)} {own : String} (hy : plainName y.cls = true) (hown : y.cls = own) (hin : y.name = "<init>") (hlen : (lg_sl av).length ≤ nL) (hL : lv_args 0 av = L)
    (body : ∀ Z : gZ, gnL Z = nL → gRm Z = rm → cX Z B bc own → cN Z → cF Z B a rm post → cG Z B a [(a, e0)] (0, 0) 0 L []) : cM l B y bc nL rm av a e0 post := by
  intro sz
  refine Met.ofW (cc := bc) (maxL := nL) (ret := none) hy rfl ?_
  intro p e s m args below meth c s₁ B' hml hv
  obtain ⟨rfl, hsz, hP, hS⟩ := hv
  subst hsz
  subst hown
  have h := body (p, l, e, rm, s, m, av.toArray, below, meth, c, nL, MQ below (cQ B a post s.heap.size) av.toArray s rm.cells rm.slots (cA a s.heap.size)) rfl rfl ⟨B'.exec, B'.bytes, hml, findClass_of_methodNamed B'.named, hS, B'.notSynchronized⟩ ((name_of_methodNamed B'.named B'.method).1.trans hin) ⟨rfl, B'.returns, rfl⟩
  have hl := lv_entry av (n := nL) hlen
  rw [lg_entry_eq]
  rw [hL] at hl
  exact h s.heap [] _ hP (va_D.one (Or.inl rfl)) va_S.rf hl
section CR
variable {Z : gZ} {B : gB} {a : Nat} {ws : va_W} {n : Nat × Nat} {pc : Nat} {L L' : List (Nat × Value)} {st : List Value} {cc : ByteArray} {own : String}
theorem cG_ws (ws' : va_W) (h : ws = ws') (k : cG Z B a ws' n pc L st) : cG Z B a ws n pc L st := h ▸ k
theorem cG_n (n' : Nat × Nat) (h : n = n') (k : cG Z B a ws n' pc L st) : cG Z B a ws n pc L st := h ▸ k
theorem cG_L {ks : List Nat} (h : lv_pick L ks = L') (k : cG Z B a ws n pc L' st) : cG Z B a ws n pc L st := by
  obtain ⟨p, l, e, R, s, m, args, below, meth, c, nL, Q⟩ := Z
  exact fun H locs ls hP hD hS hl => k H locs ls hP hD hS (lv_sub hl ks h)

theorem c_iload_n (X : cX Z B cc own) {k : Fin 4} {x : Int32} (j : Nat) (h : L[j]? = some ((k : Nat), .int x)) (d : decode cc pc = .ok (.iload_n k, 1)) (kk : cG Z B a ws n (pc + 1) L (.int x :: st)) : cG Z B a ws n pc L (st) := by
  obtain ⟨p, l, e, R, s, m, args, below, meth, c, nL, Q⟩ := Z
  exact fun H locs ls hP hD hS hl => lv_iload_n X.1 X.2.1 d rfl (lv_at hl j h) (kk H locs ls hP hD hS hl)
theorem c_iload (X : cX Z B cc own) {k : Nat} {x : Int32} (j : Nat) (h : L[j]? = some (k, .int x)) (d : decode cc pc = .ok (.iload k, 2)) (kk : cG Z B a ws n (pc + 2) L (.int x :: st)) : cG Z B a ws n pc L (st) := by
  obtain ⟨p, l, e, R, s, m, args, below, meth, c, nL, Q⟩ := Z
  exact fun H locs ls hP hD hS hl => lv_iload X.1 X.2.1 d (lv_at hl j h) (kk H locs ls hP hD hS hl)
theorem c_aload_n (X : cX Z B cc own) {k : Fin 4} {x : Nat} (j : Nat) (h : L[j]? = some ((k : Nat), .ref x)) (d : decode cc pc = .ok (.aload_n k, 1)) (kk : cG Z B a ws n (pc + 1) L (.ref x :: st)) : cG Z B a ws n pc L (st) := by
  obtain ⟨p, l, e, R, s, m, args, below, meth, c, nL, Q⟩ := Z
  exact fun H locs ls hP hD hS hl => lv_aload_n X.1 X.2.1 d rfl (lv_at hl j h) (kk H locs ls hP hD hS hl)
theorem c_iconst (X : cX Z B cc own) {k : Int} (v : Int32) (h : Int32.ofInt k = v) (d : decode cc pc = .ok (.iconst k, 1)) (kk : cG Z B a ws n (pc + 1) L (.int v :: st)) : cG Z B a ws n pc L (st) := by
  obtain ⟨p, l, e, R, s, m, args, below, meth, c, nL, Q⟩ := Z
  exact fun H locs ls hP hD hS hl => lv_iconst X.1 X.2.1 d h (kk H locs ls hP hD hS hl)
theorem c_bipush (X : cX Z B cc own) {k : Int} (v : Int32) (h : (Int8.ofInt k).toInt32 = v) (d : decode cc pc = .ok (.bipush k, 2)) (kk : cG Z B a ws n (pc + 2) L (.int v :: st)) : cG Z B a ws n pc L (st) := by
  obtain ⟨p, l, e, R, s, m, args, below, meth, c, nL, Q⟩ := Z
  exact fun H locs ls hP hD hS hl => lv_bipush X.1 X.2.1 d h (kk H locs ls hP hD hS hl)
theorem c_sipush (X : cX Z B cc own) {k : Int} (v : Int32) (h : (Int16.ofInt k).toInt32 = v) (d : decode cc pc = .ok (.sipush k, 3)) (kk : cG Z B a ws n (pc + 3) L (.int v :: st)) : cG Z B a ws n pc L (st) := by
  obtain ⟨p, l, e, R, s, m, args, below, meth, c, nL, Q⟩ := Z
  exact fun H locs ls hP hD hS hl => lv_sipush X.1 X.2.1 d h (kk H locs ls hP hD hS hl)
theorem c_dup (X : cX Z B cc own) {v : Value} (h : v.category = 1) (d : decode cc pc = .ok (.dup, 1)) (kk : cG Z B a ws n (pc + 1) L (v :: v :: st)) : cG Z B a ws n pc L (v :: st) := by
  obtain ⟨p, l, e, R, s, m, args, below, meth, c, nL, Q⟩ := Z
  exact fun H locs ls hP hD hS hl => lv_dup X.1 X.2.1 d h (kk H locs ls hP hD hS hl)
theorem c_goto (X : cX Z B cc own) {off : Int} (tgt : Nat) (h : (pc : Int) + off = (tgt : Int)) (d : decode cc pc = .ok (.goto off, 3)) (kk : cG Z B a ws n tgt L (st)) : cG Z B a ws n pc L (st) := by
  obtain ⟨p, l, e, R, s, m, args, below, meth, c, nL, Q⟩ := Z
  exact fun H locs ls hP hD hS hl => lv_goto X.1 X.2.1 d h (kk H locs ls hP hD hS hl)
theorem c_istore_n (X : cX Z B cc own) {k0 : Fin 4} {k : Nat} {x : Int32} (hk : (k0 : Nat) = k) (d : decode cc pc = .ok (.istore_n k0, 1)) (L2 : List (Nat × Value)) (h2 : (k, Value.int x) :: L.filter (fun q => !(q.1 == k) && !(q.1 + 1 == k && q.2.category == 2)) = L2) (hn : k < gnL Z) (kk : cG Z B a ws n (pc + 1) L2 st) : cG Z B a ws n pc L (Value.int x :: st) := by
  obtain ⟨p, l, e, R, s, m, args, below, meth, c, nL, Q⟩ := Z
  exact fun H locs ls hP hD hS hl => lv_istore_n X.1 X.2.1 d hk hl hn h2 (fun ls hl => kk H locs ls hP hD hS hl)
theorem c_istore (X : cX Z B cc own) {k : Nat} {x : Int32} (d : decode cc pc = .ok (.istore k, 2)) (L2 : List (Nat × Value)) (h2 : (k, Value.int x) :: L.filter (fun q => !(q.1 == k) && !(q.1 + 1 == k && q.2.category == 2)) = L2) (hn : k < gnL Z) (kk : cG Z B a ws n (pc + 2) L2 st) : cG Z B a ws n pc L (Value.int x :: st) := by
  obtain ⟨p, l, e, R, s, m, args, below, meth, c, nL, Q⟩ := Z
  exact fun H locs ls hP hD hS hl => lv_istore X.1 X.2.1 d hl hn h2 (fun ls hl => kk H locs ls hP hD hS hl)
theorem c_astore_n (X : cX Z B cc own) {k0 : Fin 4} {k : Nat} {x : Nat} (hk : (k0 : Nat) = k) (d : decode cc pc = .ok (.astore_n k0, 1)) (L2 : List (Nat × Value)) (h2 : (k, Value.ref x) :: L.filter (fun q => !(q.1 == k) && !(q.1 + 1 == k && q.2.category == 2)) = L2) (hn : k < gnL Z) (kk : cG Z B a ws n (pc + 1) L2 st) : cG Z B a ws n pc L (Value.ref x :: st) := by
  obtain ⟨p, l, e, R, s, m, args, below, meth, c, nL, Q⟩ := Z
  exact fun H locs ls hP hD hS hl => lv_astore_n X.1 X.2.1 d hk hl hn h2 (fun ls hl => kk H locs ls hP hD hS hl)
theorem c_iinc (X : cX Z B cc own) {k : Nat} {i : Int} {x : Int32} (j : Nat) (hj : L[j]? = some (k, .int x)) (v : Int32) (hv : x + Int32.ofInt i = v) (d : decode cc pc = .ok (.iinc k i, 3)) (L2 : List (Nat × Value)) (h2 : (k, Value.int v) :: L.filter (fun q => !(q.1 == k) && !(q.1 + 1 == k && q.2.category == 2)) = L2) (hn : k < gnL Z) (kk : cG Z B a ws n (pc + 3) L2 st) : cG Z B a ws n pc L st := by
  obtain ⟨p, l, e, R, s, m, args, below, meth, c, nL, Q⟩ := Z
  exact fun H locs ls hP hD hS hl => lv_iinc X.1 X.2.1 d hl (k := j) hj hv hn h2 (fun ls hl => kk H locs ls hP hD hS hl)
theorem c_icmp_ge (X : cX Z B cc own) {x y : Int32} {off : Int} (tgt : Nat) (h : (pc : Int) + off = (tgt : Int)) (d : decode cc pc = .ok (.if_icmp .ge off, 3)) (kt : y ≤ x → cG Z B a ws n tgt L st) (kf : ¬ y ≤ x → cG Z B a ws n (pc + 3) L st) : cG Z B a ws n pc L (.int y :: .int x :: st) := by
  obtain ⟨p, l, e, R, s, m, args, below, meth, c, nL, Q⟩ := Z
  exact fun H locs ls hP hD hS hl => lv_icmp_ge X.1 X.2.1 d h (fun q => kt q H locs ls hP hD hS hl) (fun q => kf q H locs ls hP hD hS hl)
theorem c_objInit (X : cX Z B cc own) {rmZ : Room} (hR : gRm Z = rmZ) {idx x : Nat} (hl : gW (.methodLink own idx objectInit)) (hroom : 1 ≤ rmZ.frames ∧ 20 ≤ rmZ.locals) (hcat : (st.map fun v => v.category).sum ≤ 8) (d : decode cc pc = .ok (.invokespecial idx, 3)) (kk : cG Z B a ws n (pc + 3) L st) : cG Z B a ws n pc L (.ref x :: st) := by
  obtain ⟨p, l, e, R, s, m, args, below, meth, c, nL, Q⟩ := Z
  subst hR
  intro H locs ls hP hD hS hl9
  have hw := X.2.2.2.2.1.1.1
  have h20 : 20 ≤ R.locals := hroom.2
  exact W.objInit (g := F0 m pc ls (.ref x :: st)) X.1 X.2.1 X.2.2.2.1 (hw _ hl _) (hw _ qI_objectInit _) (hw _ qC_objectInit _) rfl (hl9.1.trans X.2.2.1.symm) rfl d hroom.1 (by show 2 * 0 + (st.map fun v => v.category).sum + 12 ≤ R.locals; omega) (kk H locs ls hP hD hS hl9)
theorem c_newI (X : cX Z B cc own) {rmZ : Room} (hR : gRm Z = rmZ) {x : Int32} (N : Nat) (hx : x = nI N) (hNb : N < 1000) (hroom : n.1 + 1 ≤ rmZ.cells ∧ n.2 + N ≤ rmZ.slots) (d : decode cc pc = .ok (.newarray .int, 2)) (kk : ∀ q, cG Z B a (ws ++ [(q, .inl (B.2.2.1.1, N, .inl (fun _ => 0)))]) (n.1 + 1, n.2 + N) (pc + 2) L (.ref q :: st)) : cG Z B a ws n pc L (.int x :: st) := by
  obtain ⟨p, l, e, R, s, m, args, below, meth, c, nL, Q⟩ := Z
  subst hR; subst hx
  intro H locs ls hP hD hS hl
  obtain ⟨hx, hb, hml, hown, hs, hlk⟩ := X
  refine va_newa (atype := .int) (ty := .int) hx hb (hs.1.1 _ qA_int _) rfl hs.1.2 hP hD hS (fun q h => Or.inr h) (n := nI N) (N' := N) (a0 := (N, .inl (fun _ => 0))) (fun cA => rfl) (nI_pos (by omega)) (nI_clamp (by omega)) (by show N * 4 ≤ 536870912; omega) hroom.1 hroom.2 d (fun q cA H1 hK1 hP1 hD1 hS1 => ?_)
  have hcA : cA = B.2.2.1.1 := by
    have r1 : s.vm.findClass _ = some cA := (hK1.2 2 (cA, .int) rfl).2
    have r2 : s.vm.findClass _ = some B.2.2.1.1 := (hK1.2 0 (B.2.2.1.1, .int) rfl).2
    exact Option.some.inj (r1.symm.trans r2)
  subst hcA
  exact kk q H1 locs ls hP1 hD1 hS1 hl
theorem c_newq (X : cX Z B cc own) {rmZ : Room} (hR : gRm Z = rmZ) {idx : Nat} {x : Int32} (N : Nat) (hx : x = nI N) (hNb : N < 1000) (hcl : gW (.classLink own idx RX1)) (hroom : n.1 + 1 ≤ rmZ.cells ∧ n.2 + N ≤ rmZ.slots) (d : decode cc pc = .ok (.anewarray idx, 3)) (kk : ∀ q, cG Z B a (ws ++ [(q, .inl (B.2.2.1.2.1, N, .inr (.inr (.inr (.inr (fun _ => none))))))]) (n.1 + 1, n.2 + N) (pc + 3) L (.ref q :: st)) : cG Z B a ws n pc L (.int x :: st) := by
  obtain ⟨p, l, e, R, s, m, args, below, meth, c, nL, Q⟩ := Z
  subst hR; subst hx
  intro H locs ls hP hD hS hl
  obtain ⟨hx, hb, hml, hown, hs, hlk⟩ := X
  refine va_newq (C := RX1) hx hb hown (hs.1.1 _ hcl _) hs.2 hs.1.2 hP hD hS (fun q h => Or.inr h) (n := nI N) (N' := N) (nI_pos (by omega)) (nI_clamp (by omega)) (by omega) hroom.1 hroom.2 d (fun q cA H1 hK1 hP1 hD1 hS1 => ?_)
  have hcA : cA = B.2.2.1.2.1 := by
    obtain ⟨-, -, -, -, -, r1⟩ := (hK1.2 2 (cA, .object RX1) rfl).2
    obtain ⟨-, -, -, -, -, r2⟩ := (hK1.2 1 (B.2.2.1.2.1, .object RX1) rfl).2
    exact Option.some.inj (r1.symm.trans r2)
  subst hcA
  exact kk q H1 locs ls hP1 hD1 hS1 hl
theorem c_new (X : cX Z B cc own) {rmZ : Room} (hR : gRm Z = rmZ) {ci N idx : Nat} {C : String} {T : u_T} (hc : vwCl[ci]? = some (C, T, N)) (hu : ∀ w ∈ u_ws C T N, gW w) (ty : Nat → FieldType) (hty : ∀ k, k < N → parseFieldDescriptor (T k).2.2.1 = some (ty k)) (hcl : gW (.classLink own idx C)) (hin : gW (.instantiable C N)) (hini : gW (.initialized C)) {fs : List Value} (hfs : ∀ j, j < N → defaultValue (ty j) = vp_V fs j) (hroom : n.1 + 1 ≤ rmZ.cells ∧ n.2 + N ≤ rmZ.slots) (d : decode cc pc = .ok (.new idx, 3)) (kk : ∀ q, cG Z B a (ws ++ [(q, .inr (ci, fs))]) (n.1 + 1, n.2 + N) (pc + 3) L (.ref q :: st)) : cG Z B a ws n pc L st := by
  obtain ⟨p, l, e, R, s, m, args, below, meth, c, nL, Q⟩ := Z
  subst hR
  intro H locs ls hP hD hS hl
  obtain ⟨hx, hb, hml, hown, hs, hlk⟩ := X
  have hts : ∀ w ∈ u_ws C T N, w.before args s = true := fun w hw => hs.1.1 w (hu w hw) args
  exact va_new hx hb hts (fun w hw => hw) ty hty hown (hs.1.1 _ hcl _) (hs.1.1 _ hin _) (hs.1.1 _ hini _) hs.1.2 hP hD hS (fun q h => Or.inr h) hc hfs hroom.1 hroom.2 d (fun q H1 hP1 hD1 hS1 => kk q H1 locs ls hP1 hD1 hS1 hl)
theorem c_put (X : cX Z B cc own) {ci N idx ad : Nat} {C : String} {T : u_T} {fs : List Value} {v : Value} {ty : FieldType} (hc : vwCl[ci]? = some (C, T, N)) (hu : ∀ w ∈ u_ws C T N, gW w) (ty0 : Nat → FieldType) (hty : ∀ k, k < N → parseFieldDescriptor (T k).2.2.1 = some (ty0 k)) (hnm : ∀ a, a < N → ∀ b, b < N → a ≠ b → (T a).2.1 ≠ (T b).2.1) (q0 : Nat) (he : ws[q0]? = some (ad, .inr (ci, fs))) (k : Nat) (hk : k < N) (hT : (T k).1 = C) (hfin : (T k).2.2.2 = false) (hd : parseFieldDescriptor (T k).2.2.1 = some ty) (hn : narrow ty v = v) (hfit : fits ty v = true) (hl : k < fs.length) (hq : gW (.fieldLink own idx C (T k).2.1 (T k).2.2.1)) (d : decode cc pc = .ok (.putfield idx, 3)) (kk : cG Z B a (ws.set q0 (ad, .inr (ci, fs.set k v))) n (pc + 3) L st) : cG Z B a ws n pc L (v :: .ref ad :: st) := by
  obtain ⟨p, l, e, R, s, m, args, below, meth, c, nL, Q⟩ := Z
  intro H locs ls hP hD hS hl9
  obtain ⟨hx, hb, hml, hown, hs, hlk⟩ := X
  have hts : ∀ w ∈ u_ws C T N, w.before args s = true := fun w hw => hs.1.1 w (hu w hw) args
  exact va_put hx hb hts (fun w hw => hw) ty0 hty hnm hown hs.1.2 hP hD hS q0 he hc k hk (hs.1.1 _ hq _) (fun x hx => by rw [hT] at hx; exact hx) hfin hd hn hfit hl d (fun H1 locs1 hP1 hD1 hS1 => kk H1 locs1 ls hP1 hD1 hS1 hl9)
theorem c_putF (X : cX Z B cc own) (hN : cN Z) {ci N idx ad : Nat} {T : u_T} {fs : List Value} {v : Value} {ty : FieldType} (hc : vwCl[ci]? = some (own, T, N)) (hu : ∀ w ∈ u_ws own T N, gW w) (ty0 : Nat → FieldType) (hty : ∀ k, k < N → parseFieldDescriptor (T k).2.2.1 = some (ty0 k)) (hnm : ∀ a, a < N → ∀ b, b < N → a ≠ b → (T a).2.1 ≠ (T b).2.1) (q0 : Nat) (he : ws[q0]? = some (ad, .inr (ci, fs))) (k : Nat) (hk : k < N) (hT : (T k).1 = own) (hfin : (T k).2.2.2 = true) (hd : parseFieldDescriptor (T k).2.2.1 = some ty) (hn : narrow ty v = v) (hfit : fits ty v = true) (hl : k < fs.length) (hq : gW (.fieldLink own idx own (T k).2.1 (T k).2.2.1)) (d : decode cc pc = .ok (.putfield idx, 3)) (kk : cG Z B a (ws.set q0 (ad, .inr (ci, fs.set k v))) n (pc + 3) L st) : cG Z B a ws n pc L (v :: .ref ad :: st) := by
  obtain ⟨p, l, e, R, s, m, args, below, meth, c, nL, Q⟩ := Z
  intro H locs ls hP hD hS hl9
  obtain ⟨hx, hb, hml, hown, hs, hlk⟩ := X
  have hts : ∀ w ∈ u_ws own T N, w.before args s = true := fun w hw => hs.1.1 w (hu w hw) args
  exact va_putF (ref := own) hx hb hts (fun w hw => hw) ty0 hty hnm hown hs.1.2 hP hD hS q0 he hc k hk (hs.1.1 _ hq _) (fun x hx => by rw [hT] at hx; exact hx) hfin hN hT hd hn hfit hl d (fun H1 locs1 hP1 hD1 hS1 => kk H1 locs1 ls hP1 hD1 hS1 hl9)
theorem c_get (X : cX Z B cc own) {ci N idx ad : Nat} {C : String} {T : u_T} {fs : List Value} {v : Value} (hc : vwCl[ci]? = some (C, T, N)) (hu : ∀ w ∈ u_ws C T N, gW w) (q0 : Nat) (he : ws[q0]? = some (ad, .inr (ci, fs))) (k : Nat) (hk : k < N) (hT : (T k).1 = C) (hv : fs[k]? = some v) (hq : gW (.fieldLink own idx C (T k).2.1 (T k).2.2.1)) (d : decode cc pc = .ok (.getfield idx, 3)) (kk : cG Z B a ws n (pc + 3) L (v :: st)) : cG Z B a ws n pc L (.ref ad :: st) := by
  obtain ⟨p, l, e, R, s, m, args, below, meth, c, nL, Q⟩ := Z
  intro H locs ls hP hD hS hl9
  obtain ⟨hx, hb, hml, hown, hs, hlk⟩ := X
  have hts : ∀ w ∈ u_ws C T N, w.before args s = true := fun w hw => hs.1.1 w (hu w hw) args
  exact va_get hx hb hts (fun w hw => hw) hown hs.1.2 hP q0 he hc k hk (hs.1.1 _ hq _) (fun x hx => by rw [hT] at hx; exact hx) hv d (kk H locs ls hP hD hS hl9)
theorem c_alenQ (X : cX Z B cc own) {ad N : Nat} {f : Nat → Option Nat} (q0 : Nat) (he : ws[q0]? = some (ad, .inl (B.2.2.1.2.1, N, .inr (.inr (.inr (.inr f)))))) (d : decode cc pc = .ok (.arraylength, 1)) (kk : cG Z B a ws n (pc + 1) L (.int (nI N) :: st)) : cG Z B a ws n pc L (.ref ad :: st) := by
  obtain ⟨p, l, e, R, s, m, args, below, meth, c, nL, Q⟩ := Z
  intro H locs ls hP hD hS hl
  exact va_alen X.1 X.2.1 X.2.2.2.2.1.1.2 hP q0 1 he rfl (v := nI N) rfl d (kk H locs ls hP hD hS hl)
theorem c_iast (X : cX Z B cc own) {ad N : Nat} {f : Nat → Int32} {x v : Int32} (q0 : Nat) (he : ws[q0]? = some (ad, .inl (B.2.2.1.1, N, .inl f))) (j : Nat) (hx : x = nI j) (hj : j < N) (hN : N < 2 ^ 31) (d : decode cc pc = .ok (.iastore, 1)) (kk : cG Z B a (ws.set q0 (ad, .inl (B.2.2.1.1, N, .inl (upd f j v)))) n (pc + 1) L st) : cG Z B a ws n pc L (.int v :: .int x :: .ref ad :: st) := by
  obtain ⟨p, l, e, R, s, m, args, below, meth, c, nL, Q⟩ := Z
  subst hx
  intro H locs ls hP hD hS hl
  refine va_iast X.1 X.2.1 X.2.2.2.2.1.1.2 hP hD hS q0 0 he rfl (vp_in_nI hj hN) d (fun H1 locs1 hP1 hD1 hS1 => ?_)
  rw [nI_clamp (by omega)] at hP1 hD1
  exact kk H1 locs1 ls hP1 hD1 hS1 hl
theorem c_astq (X : cX Z B cc own) {ad N u : Nat} {f : Nat → Option Nat} {vs : List Value} {x : Int32} (q0 qk : Nat) (he : ws[q0]? = some (ad, .inl (B.2.2.1.2.1, N, .inr (.inr (.inr (.inr f)))))) (hv : ws[qk]? = some (u, .inr (1, vs))) (j : Nat) (hx : x = nI j) (hj : j < N) (hN : N < 2 ^ 31) (d : decode cc pc = .ok (.aastore, 1)) (kk : cG Z B a (ws.set q0 (ad, .inl (B.2.2.1.2.1, N, .inr (.inr (.inr (.inr (va_up f j (some u)))))))) n (pc + 1) L st) : cG Z B a ws n pc L (.ref u :: .int x :: .ref ad :: st) := by
  obtain ⟨p, l, e, R, s, m, args, below, meth, c, nL, Q⟩ := Z
  subst hx
  intro H locs ls hP hD hS hl
  refine va_astq X.1 X.2.1 X.2.2.2.2.1.1.2 hP hD hS q0 1 qk 1 he rfl hv rfl (vp_in_nI hj hN) d (fun H1 locs1 hP1 hD1 hS1 => ?_)
  rw [nI_clamp (by omega)] at hP1 hD1
  exact kk H1 locs1 ls hP1 hD1 hS1 hl
theorem c_callI (X : cX Z B cc own) {rmZ rm : Room} (hR : gRm Z = rmZ) {y : MethodName} {bc : ByteArray} {mL idx ad k : Nat} {As rest st0 : List Value} {e0 : va_E} {post : va_E → va_W → Prop} (c1 : gW (.instanceMethod y)) (c3 : gW (.code y bc mL none)) (c4 : gW (.initialized y.cls)) (c5 : y.cls ≠ "java/lang/invoke/MethodHandle" ∧ y.cls ≠ "java/lang/invoke/VarHandle") (c6 : (parseMethodDescriptor y.desc).map (fun d => d.parameters.length) = some k) (hy : y.name = "<init>") (hL : gML own idx y) (hM : cM (gl Z) B y bc mL rm (.ref ad :: As) ad e0 post) (hk : As.length = k) (hst : st0 = As.reverse ++ .ref ad :: rest) (hcat : (rest.map fun v => v.category).sum ≤ 8) (q0 : Nat) (he : ws[q0]? = some (ad, e0))
    (hroom : rm.frames + 1 ≤ rmZ.frames ∧ 8 + (mL + 11) + rm.locals ≤ rmZ.locals ∧ n.1 + rm.cells ≤ rmZ.cells ∧ n.2 + rm.slots ≤ rmZ.slots) (d : decode cc pc = .ok (.invokespecial idx, 3))
    (kk : ∀ (e1 : va_E) (new : va_W), post e1 new → cG Z B a (ws.set q0 (ad, e1) ++ new) (n.1 + rm.cells, n.2 + rm.slots) (pc + 3) L rest) : cG Z B a ws n pc L st0 := by
  obtain ⟨p, l, e, R, s, m, args, below, meth, c, nL, Q⟩ := Z
  subst hR; subst hst
  intro H locs ls hP hD hS hl
  obtain ⟨hx, hb, hml, hown, hs, hlk⟩ := X
  have hws : ∀ w ∈ ([.code y bc mL none] : List Cond), ∀ (a' : Array Value) (U : State), s.WarmedH U.vm → w.before a' U = true := by
    intro w hw a' U hW
    rw [List.mem_singleton.mp hw]
    exact hs.1.1.warm hW _ c3 a'
  have hP1 : va_P B.1 vwCl [(ad, e0)] H := by
    intro k q hk
    have h1 : k < 1 := (List.getElem?_eq_some_iff.mp hk).1
    have h0 : k = 0 := by omega
    subst h0
    rw [← Option.some.inj hk]
    exact hP q0 _ he
  have hpre : PreS s H (cPc B (.ref ad :: As) ad e0 H.size) (.ref ad :: As) := ⟨cPc_blind, fun U hU hW => ⟨rfl, by rw [hU], by rw [hU]; exact hP1, hs.warm hW⟩⟩
  have run : va_Run p l e R s m args below meth c H locs n.1 n.2 rm.cells rm.slots (F0 m pc ls (As.reverse ++ .ref ad :: rest)) rest (cQ B ad post H.size (Value.ref ad :: As).toArray) (cA ad H.size) := by
    rcases hL with hL | ⟨h, hL⟩
    · exact va_runI (own := own) (Ts := []) (nL := nL) ⟨hx, hb, hml, hown, fun w hw => absurd hw List.not_mem_nil⟩ (hM H.size) ⟨⟨rfl, rfl, hroom.1, hroom.2.1, hws, List.mem_singleton.mpr rfl, hs.1.1 _ c3 _, hs.1.1 _ c4 _, c5, gar c6, hs.1.1 _ hL _⟩, hy, hs.1.1 _ c1 _⟩ hpre rfl hk hl.1 rfl (lv_room hcat) d hroom.2.2
    · exact va_runIN (own := own) (Ts := []) (nL := nL) ⟨hx, hb, hml, hown, fun w hw => absurd hw List.not_mem_nil⟩ (hM H.size) ⟨⟨⟨rfl, rfl, hroom.1, hroom.2.1, hws, List.mem_singleton.mpr rfl⟩, hs.1.1 _ c3 _, hs.1.1 _ c4 _, c5, gar c6, hs.1.1 _ hL _⟩, hy, hs.1.1 _ c1 _⟩ hpre rfl hk hl.1 rfl (lv_room hcat) d hroom.2.2
  have hAad : cA a s.heap.size ad := hD.2 q0 _ he
  have hadl : ad < H.size := (hP q0 _ he).lt
  have hA : ∀ q, cA ad H.size q → cA a s.heap.size q := fun q h => h.elim (fun h => h ▸ hAad) (fun h => Or.inr (Nat.le_trans hS.1 h))
  intro U hU X9
  obtain ⟨v, st₀, t, T', L0, h0, X', hL0, e1', e2, ⟨⟨e1, new, hv, hp, hP', hD'⟩, hF⟩, hgo⟩ := run U hU X9
  cases hv
  obtain ⟨hz, hk2, hS'⟩ := vx_keep h0 e1' hS (fun q _ h => hA q h) hA hL0 hF
  have hl0 := (List.getElem?_eq_some_iff.mp he).1
  have hnew : ∀ (j : Nat) (x : Nat × va_E), new[j]? = some x → H.size ≤ x.1 := by
    intro j x hx9
    rcases hD'.2 (j + 1) x hx9 with h | h
    · have := hD'.1 (j + 1) 0 x (ad, e1) hx9 rfl h
      omega
    · exact h
  have old : ∀ (j : Nat) (x : Nat × va_E), ws[j]? = some x → j ≠ q0 → T'.heap[x.1]? = H[x.1]? := by
    intro j x hx9 hj
    refine hk2 x.1 (hP j x hx9).lt (fun h => ?_)
    rcases h with h | h
    · exact hj (hD.1 j q0 x _ hx9 he h)
    · have := (hP j x hx9).lt; omega
  have hPn : va_P B.1 vwCl (ws.set q0 (ad, e1) ++ new) T'.heap := by
    have hP9 : va_P B.1 vwCl ((ad, e1) :: new) T'.heap := by rw [e1']; exact hP'
    refine va_P.app (fun j x hx9 => ?_) (fun j x hx9 => hP9 (j + 1) x hx9)
    by_cases hj : j = q0
    · subst hj
      rw [List.getElem?_set_self hl0] at hx9
      rw [← Option.some.inj hx9]
      exact hP9 0 _ rfl
    · rw [List.getElem?_set_ne (Ne.symm hj)] at hx9
      exact (hP j x hx9).kept (old j x hx9 hj)
  have hDn : va_D (cA a s.heap.size) (ws.set q0 (ad, e1) ++ new) := by
    have key : ∀ (j : Nat) (x : Nat × va_E), (ws.set q0 (ad, e1) ++ new)[j]? = some x → (j < ws.length ∧ ∃ e9, ws[j]? = some (x.1, e9)) ∨ (ws.length ≤ j ∧ new[j - ws.length]? = some x) := by
      intro j x hx9
      by_cases hjl : j < ws.length
      · rw [List.getElem?_append_left (by rw [List.length_set]; exact hjl)] at hx9
        refine Or.inl ⟨hjl, ?_⟩
        by_cases hj : j = q0
        · subst hj
          rw [List.getElem?_set_self hl0] at hx9
          rw [← Option.some.inj hx9]
          exact ⟨_, he⟩
        · rw [List.getElem?_set_ne (Ne.symm hj)] at hx9
          exact ⟨x.2, hx9⟩
      · rw [List.getElem?_append_right (by rw [List.length_set]; omega), List.length_set] at hx9
        exact Or.inr ⟨by omega, hx9⟩
    refine ⟨fun i j x y hx9 hy9 hxy => ?_, fun j x hx9 => ?_⟩
    · rcases key i x hx9 with ⟨h1, e9, h2⟩ | ⟨h1, h2⟩ <;> rcases key j y hy9 with ⟨h3, e8, h4⟩ | ⟨h3, h4⟩
      · exact hD.1 i j _ _ h2 h4 hxy
      · have q1 := (hP i _ h2).lt
        have q2 := hnew _ _ h4
        simp only at q1
        omega
      · have q1 := (hP j _ h4).lt
        have q2 := hnew _ _ h2
        simp only at q1
        omega
      · have := hD'.1 (i - ws.length + 1) (j - ws.length + 1) x y h2 h4 hxy
        omega
    · rcases key j x hx9 with ⟨-, e9, h2⟩ | ⟨-, h2⟩
      · exact hD.2 j (x.1, e9) h2
      · exact Or.inr (Nat.le_trans hS.1 (hnew _ _ h2))
  obtain ⟨t2, a1, b1⟩ := kk e1 new hp T'.heap (locs ++ L0) ls hPn hDn hS' hl T' rfl X'
  exact ⟨t2, hgo t2 a1, b1⟩
theorem c_ret {rm : Room} {post : va_E → va_W → Prop} {e1 : va_E} {new : va_W} (X : cX Z B cc own) (F : cF Z B a rm post) (hws : ws = (a, e1) :: new) (hp : post e1 new) (hn : n = (rm.cells, rm.slots)) (d : decode cc pc = .ok (.return_, 1)) : cG Z B a ws n pc L [] := by
  obtain ⟨p, l, e, R, s, m, args, below, meth, c, nL, Q⟩ := Z
  obtain ⟨h1, h2, h3⟩ := F
  subst h3; subst hn; subst hws
  intro H locs ls hP hD hS hl
  exact W.vret X.1 X.2.1 h2 (fun t ht hW => ⟨⟨e1, new, rfl, hp, by rw [ht]; exact hP, hD⟩, hS.F ht⟩) hS.2.2 d X.2.2.2.2.2
end CR

