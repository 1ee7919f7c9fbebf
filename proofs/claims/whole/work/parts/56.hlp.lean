/-! THE LAW'S HELPERS: a call that may throw, what is thrown is caught -/
def gOut (B : gB) (z : Int64) : gB := (B.1, B.2.1, B.2.2.1, (z, B.2.2.2.2))
theorem gE_out (B : gB) (z : Int64) (b i : Nat) (f : Nat → Int32) : ∀ {K : Nat}, K ≠ 28 → gE (gOut B z) K b i f = gE B K b i f := fun {K} h => match K, h with
  | 0, h => rfl
  | 1, h => rfl
  | 2, h => rfl
  | 3, h => rfl
  | 4, h => rfl
  | 5, h => rfl
  | 6, h => rfl
  | 7, h => rfl
  | 8, h => rfl
  | 9, h => rfl
  | 10, h => rfl
  | 11, h => rfl
  | 12, h => rfl
  | 13, h => rfl
  | 14, h => rfl
  | 15, h => rfl
  | 16, h => rfl
  | 17, h => rfl
  | 18, h => rfl
  | 19, h => rfl
  | 20, h => rfl
  | 21, h => rfl
  | 22, h => rfl
  | 23, h => rfl
  | 24, h => rfl
  | 25, h => rfl
  | 26, h => rfl
  | 27, h => rfl
  | 28, h => absurd rfl h
  | _ + 29, _ => rfl
theorem Met_of_vx {l : Launch} {y : MethodName} {ws : List Cond} {rm : Room} {Pc : Array Value → State → Prop} {Qc : Array Value → State → Outcome → State → Prop} {mc ms : Nat} {free : Addr → Prop} (h : vx_Met l y ws rm Pc Qc (fun _ _ _ => False) mc ms free) : Met l y ws rm Pc Qc mc ms free :=
  MetFree.mono h (fun _ _ q => q) (fun _ _ _ _ _ q => q) (fun _ _ _ _ _ q => q.elim id (fun ⟨_, _, _, _, _, hx, _⟩ => hx.elim))
def gQH (B : gB) (post : Option Value → gMem → Int64 → Prop) (sz : Nat) : Array Value → State → Outcome → State → Prop := fun _ st oc t => (∃ (v : Option Value) (V : gMem) (z : Int64), oc = .returned v ∧ post v V z ∧ va_P B.1 vwCl (gws (gOut B z) V) t.heap) ∧ va_F (gA B sz) st t
def gHM (l : Launch) (B : gB) (y : MethodName) (bc : ByteArray) (nL : Nat) (ret : Option FieldType) (hh : List (Nat × Nat × Nat × Nat)) (rm : Room) (av : List Value) (V : gMem) (post : Option Value → gMem → Int64 → Prop) : Prop :=
  ∀ sz : Nat, Met l y [.codeWith y bc nL ret hh] rm (gPcT B V av sz) (gQH B post sz) rm.cells rm.slots (gA B sz)
def gXH (Z : gZ) (B : gB) (hh : List (Nat × Nat × Nat × Nat)) : Prop := match Z with
  | (_, l, _, _, s, _, _, _, _, c, _, _) => l.stackTraces = false ∧ gTh B s.heap.size s ∧ c.exceptionTable.toList = tableOf hh
def gFH (Z : gZ) (B : gB) (rm : Room) (ret : Option FieldType) (post : Option Value → gMem → Int64 → Prop) : Prop := match Z with
  | (_, _, _, R, s, _, args, below, meth, _, _, Q) => R = rm ∧ meth.sig.returnType = ret ∧ Q = vx_MQ below (gQH B post s.heap.size) (fun _ _ _ => False) args s rm.cells rm.slots (gA B s.heap.size)
def gTL (Z : gZ) (B : gB) : Prop := match Z with
  | (_, l, _, _, s, _, _, _, _, _, _, _) => l.stackTraces = false ∧ gTh B s.heap.size s
theorem gXH.tl {Z : gZ} {B : gB} {hh : List (Nat × Nat × Nat × Nat)} (h : gXH Z B hh) : gTL Z B := by
  obtain ⟨p, l, e, R, s, m, args, below, meth, c, nL, Q⟩ := Z
  exact ⟨h.1, h.2.1⟩
theorem gTL.st {Z : gZ} {B : gB} (h : gTL Z B) : (gl Z).stackTraces = false := by
  obtain ⟨p, l, e, R, s, m, args, below, meth, c, nL, Q⟩ := Z
  exact h.1
theorem gHM_of {l : Launch} {B : gB} {y : MethodName} {bc : ByteArray} {nL : Nat} {ret : Option FieldType} {hh : List (Nat × Nat × Nat × Nat)} {rm : Room} {av : List Value} {V : gMem} {post : Option Value → gMem → Int64 → Prop} {L : List (Nat × Value)} {own : String} (hl : l.stackTraces = false) (hy : plainName y.cls = true) (hown : y.cls = own) (hI : gI B) (hlen : (lg_sl av).length ≤ nL) (hL : lv_args 0 av = L)
    (body : ∀ Z : gZ, gnL Z = nL → gRm Z = rm → gX Z B bc own → gXH Z B hh → gFH Z B rm ret post → gG Z B (0, 0) V 0 L []) : gHM l B y bc nL ret hh rm av V post := by
  intro sz
  refine Met_of_vx (vx_ofWH (cc := bc) (maxL := nL) (ret := ret) (hh := hh) hy rfl ?_)
  intro p e s m args below meth c s₁ B' hml hv
  obtain ⟨rfl, hsz, hP, hS, hT⟩ := hv
  subst hsz
  subst hown
  have ht := vx_table (x := y) B' (atoms_spec (ws := [.codeWith y bc nL ret hh]) B'.pre _ List.mem_cons_self)
  have h := body (p, l, e, rm, s, m, av.toArray, below, meth, c, nL, vx_MQ below (gQH B post s.heap.size) (fun _ _ _ => False) av.toArray s rm.cells rm.slots (gA B s.heap.size)) rfl rfl ⟨B'.exec, B'.bytes, hml, findClass_of_methodNamed B'.named, hS, hI, B'.notSynchronized⟩ ⟨hl, hT, ht⟩ ⟨rfl, B'.returns, rfl⟩
  have hle := lv_entry av (n := nL) hlen
  rw [lg_entry_eq]
  rw [hL] at hle
  exact h s.heap [] _ hP va_S.rf hle
/-- q is thrown at pc -/
def gGx (Z : gZ) (B : gB) (n : Nat × Nat) (V : gMem) (pc : Nat) (L : List (Nat × Value)) (E : String) : Prop := match Z with
  | (p, l, e, R, s, m, args, below, meth, c, nL, Q) => ∀ (H : Heap) (locs : List Loc) (ls : Array Slot) (q : Addr) (ce : Cell) (rest : List Value), va_P B.1 vwCl (gws B V) H → va_S (gA B s.heap.size) s.heap H locs → lv_has ls nL L → H[q]? = some ce → ce.vm = .none → s.vm.findClass E = some ce.cls → vx_W p l e R s m args below meth c H locs n.1 n.2 Q (F0 m pc ls rest) q
section GRH
variable {Z : gZ} {B : gB} {n : Nat × Nat} {V : gMem} {pc : Nat} {L L' : List (Nat × Value)} {st : List Value} {cc : ByteArray} {own : String}
theorem g_callX (X : gX Z B cc own) (T : gTL Z B) {rmZ rm : Room} (hR : gRm Z = rmZ) {y : MethodName} {bc : ByteArray} {mL idx : Nat} {ret : Option FieldType} {K b i ci : Nat} {fs : List Value} {q : vw_C} {As rest st0 : List Value} {post : Option Value → gMem → Prop} {xp : String → gMem → Prop} {k : Nat} (hC : gCV y bc mL ret k) (hL : gW (.methodLink own idx y)) (hM : gXM (gl Z) B y bc mL ret rm (.ref (B.2.1 K b i) :: As) V post xp) (hk : As.length = k) (hst : st0 = As.reverse ++ .ref (B.2.1 K b i) :: rest) (hcat : (rest.map fun v => v.category).sum ≤ 8) (hp : gP K b i) (he : gE B K b i (V K b i) = .inr (ci, fs)) (hc : vwCl[ci]? = some q) (hq : q.1 = y.cls)
    (hroom : rm.frames + 1 ≤ rmZ.frames ∧ 8 + (mL + 11) + rm.locals ≤ rmZ.locals ∧ n.1 + rm.cells ≤ rmZ.cells ∧ n.2 + rm.slots ≤ rmZ.slots) (d : decode cc pc = .ok (.invokevirtual idx, 3))
    (kk : ∀ (v : Option Value) (V' : gMem), post v V' → gG Z B (n.1 + rm.cells, n.2 + rm.slots) V' (pc + 3) L (v.toList ++ rest))
    (kx : ∀ (E : String) (V' : gMem), xp E V' → gGx Z B (n.1 + rm.cells, n.2 + rm.slots) V' pc L E) : gG Z B n V pc L st0 := by
  obtain ⟨p, l, e, R, s, m, args, below, meth, c, nL, Q⟩ := Z
  subst hR; subst hst
  intro H locs ls hP hS hl
  obtain ⟨hx, hb, hml, hown, hs, hI, hlk⟩ := X
  obtain ⟨c1, c2, c3, c4, c5, c6⟩ := hC
  obtain ⟨q0, -, hq0⟩ := gws_at B V hp
  rw [he] at hq0
  have hws : ∀ w ∈ ([.code y bc mL ret] : List Cond), ∀ (a' : Array Value) (U : State), s.WarmedH U.vm → w.before a' U = true := by
    intro w hw a' U hW
    rw [List.mem_singleton.mp hw]
    exact hs.1.warm hW _ c3 a'
  have hrecv := va_recv hs.2 hP hc hq0
  rw [hq] at hrecv
  have hpre : PreV s H y.cls (B.2.1 K b i) (gPcT B V (.ref (B.2.1 K b i) :: As) H.size) As := ⟨gPcT_blind, hrecv, fun U hU hW => ⟨rfl, by rw [hU], by rw [hU]; exact hP, hs.warm hW, T.2.step hS hU hW⟩⟩
  have run : vx_Run p l e R s m args below meth c H locs n.1 n.2 rm.cells rm.slots (F0 m pc ls (As.reverse ++ .ref (B.2.1 K b i) :: rest)) rest (gQ B post H.size (Value.ref (B.2.1 K b i) :: As).toArray) (gXC B xp H.size) (gA B H.size) :=
    vx_runV (C := y.cls) (own := own) (Ts := []) (nL := nL) ⟨hx, hb, hml, hown, fun w hw => absurd hw List.not_mem_nil⟩ (hM H.size) ⟨⟨rfl, rfl, hroom.1, hroom.2.1, hws, List.mem_singleton.mpr rfl, hs.1 _ c3 _, hs.1 _ c4 _, c5, gar c6, hs.1 _ hL _⟩, hs.1 _ c1 _, hs.1 _ c2 _⟩ hpre rfl hk hl.1 rfl (lv_room hcat) d hroom.2.2
  have hA : ∀ q, gA B H.size q → gA B s.heap.size q := fun q h => gA_mono hS.1 h
  intro U hU X9
  rcases run U hU X9 with ⟨v, st₀, t, T', L0, h0, X', hL0, e1, e2, ⟨⟨v2, V', hv, hp', hP'⟩, hF⟩, hgo⟩ | ⟨q9, st₀, t, T', L0, E, ce, h0, X', hL0, e1, e2, ⟨V', hxp, hP', hF⟩, hce, hcv, hcl, hgo⟩
  · cases hv
    obtain ⟨-, -, hS'⟩ := vx_keep h0 e1 hS (fun q _ h => hA q h) hA hL0 hF
    obtain ⟨t2, a1, b1⟩ := kk v V' hp' T'.heap (locs ++ L0) ls (by rw [e1]; exact hP') hS' hl T' rfl X'
    exact ⟨t2, hgo t2 a1, b1⟩
  · obtain ⟨-, -, hS'⟩ := vx_keep h0 e1 hS (fun q _ h => hA q h) hA hL0 hF
    obtain ⟨t2, a1, b1⟩ := kx E V' hxp T'.heap (locs ++ L0) ls q9 ce rest (by rw [e1]; exact hP') hS' hl (by rw [e1]; exact hce) hcv hcl T' rfl X'
    exact ⟨t2, hgo.trans a1, b1⟩
theorem g_catch1 (X : gX Z B cc own) {s0 e0 h0 t0 : Nat} {suf : List (Nat × Nat × Nat × Nat)} (T : gXH Z B ((s0, e0, h0, t0) :: suf)) {E : String} (hx : covers ⟨s0, e0, h0, t0⟩ pc = true) (ht : t0 ≠ 0) (hlink : gW (.classLink own t0 E)) (hcast : gW2 (.castable E E)) (kk : ∀ q, gG Z B n V h0 L [.ref q]) : gGx Z B n V pc L E := by
  obtain ⟨p, l, e, R, s, m, args, below, meth, c, nL, Q⟩ := Z
  intro H locs ls q ce rest hP hS hl hce hcv hcl
  exact vx_catch X.2.2.2.1 [] ⟨s0, e0, h0, t0⟩ (tableOf suf) T.2.2 (fun z hz => nomatch hz) hx ht (X.2.2.2.2.1.1 _ hlink _) (T.2.1.1 _ hcast _) hce hcv hcl (kk q H locs ls hP hS hl)
theorem g_catch2 (X : gX Z B cc own) {s0 e0 h0 t0 s1 e1 h1 t1 : Nat} {suf : List (Nat × Nat × Nat × Nat)} (T : gXH Z B ((s0, e0, h0, t0) :: (s1, e1, h1, t1) :: suf)) {E E0 : String} (hx : covers ⟨s1, e1, h1, t1⟩ pc = true) (ht0 : t0 ≠ 0) (ht : t1 ≠ 0) (hlink0 : gW (.classLink own t0 E0)) (hno : (E, E0) ∈ gNc) (hlink : gW (.classLink own t1 E)) (hcast : gW2 (.castable E E)) (kk : ∀ q, gG Z B n V h1 L [.ref q]) : gGx Z B n V pc L E := by
  obtain ⟨p, l, e, R, s, m, args, below, meth, c, nL, Q⟩ := Z
  intro H locs ls q ce rest hP hS hl hce hcv hcl
  exact vx_catch X.2.2.2.1 [⟨s0, e0, h0, t0⟩] ⟨s1, e1, h1, t1⟩ (tableOf suf) T.2.2 (fun z hz => by
    rw [List.mem_singleton.mp hz]
    exact Or.inr ⟨ht0, E0, X.2.2.2.2.1.1 _ hlink0 _, T.2.1.2.2.2.2 _ hno⟩) hx ht (X.2.2.2.2.1.1 _ hlink _) (T.2.1.1 _ hcast _) hce hcv hcl (kk q H locs ls hP hS hl)
theorem arr1 (cA : ClassId) {f g : Nat → Value} (h : f 0 = g 0) : arrV cA 1 f = arrV cA 1 g := by
  unfold arrV
  congr 1
  apply Array.ext
  · simp
  · intro i h1 h2
    have : i = 0 := by simp at h1; omega
    subst this
    simpa using h
theorem g_lastO (X : gX Z B cc own) {z : Int64} (d : decode cc pc = .ok (.lastore, 1)) (kk : gG Z (gOut B z) n V (pc + 1) L st) : gG Z B n V pc L (.long z :: .int 0 :: .ref (B.2.1 28 0 0) :: st) := by
  obtain ⟨p, l, e, R, s, m, args, below, meth, c, nL, Q⟩ := Z
  intro H locs ls hP hS hl
  obtain ⟨q0, hk0, hq0⟩ := gws_at B V (K := 28) (b := 0) (i := 0) ⟨Nat.zero_lt_one, Nat.zero_lt_one⟩
  refine va_last X.1 X.2.1 X.2.2.2.2.1.2 hP (gws_D V _ X.2.2.2.2.2.1) hS q0 2 hq0 rfl (vp_in_nI (n := 0) (N := 1) (by decide) (by decide)) d (fun H1 locs1 hP1 _ hS1 => ?_)
  refine kk H1 locs1 ls (fun k x hx => ?_) hS1 hl
  by_cases hk : k = q0
  · subst hk
    have h1 := hP1 k (B.2.1 28 0 0, .inl (B.2.2.1.2.2, 1, .inr (.inl (vp_updL (fun _ => B.2.2.2.1) 0 z)))) (List.getElem?_set_self (List.getElem?_eq_some_iff.mp hq0).1)
    have h2 : (gws (gOut B z) V)[k]? = some (B.2.1 28 0 0, .inl (B.2.2.1.2.2, 1, .inr (.inl (fun _ => z)))) := by
      show ((gPX B).map (gAt (gOut B z) V))[k]? = _
      rw [List.getElem?_map, hk0]
      rfl
    rw [h2] at hx
    cases hx
    show H1[B.2.1 28 0 0]? = some (arrV B.2.2.1.2.2 1 (fun _ => .long z))
    have h3 : H1[B.2.1 28 0 0]? = some (arrV B.2.2.1.2.2 1 (fun j => .long (vp_updL (fun _ => B.2.2.2.1) 0 z j))) := h1
    rw [h3, arr1 B.2.2.1.2.2 (g := fun _ => .long z) rfl]
  · refine hP1 k x ?_
    rw [List.getElem?_set_ne (Ne.symm hk)]
    have h2 : (gws (gOut B z) V)[k]? = some x := hx
    have h3 : ((gPX B).map (gAt (gOut B z) V))[k]? = some x := h2
    show ((gPX B).map (gAt B V))[k]? = some x
    rw [List.getElem?_map] at h3 ⊢
    cases hq : (gPX B)[k]? with
    | none => rw [hq] at h3; cases h3
    | some y =>
      rw [hq] at h3
      rw [← h3]
      obtain ⟨K, b, i⟩ := y
      have hK : ¬ (K = 28 ∧ b = 0 ∧ i = 0) := by
        rintro ⟨rfl, rfl, rfl⟩
        exact hk (gPX_one hq hk0)
      show some (B.2.1 K b i, gE B K b i (V K b i)) = some (B.2.1 K b i, gE (gOut B z) K b i (V K b i))
      by_cases h28 : K = 28
      · subst h28
        have hm := List.mem_of_getElem? hq
        have : gP 28 b i := by
          rcases List.mem_append.mp (show (28, b, i) ∈ gPL ++ _ from hm) with h | h
          · exact gPL_of h
          · split at h
            · cases h
            · cases List.mem_singleton.mp h
        exact absurd ⟨rfl, Nat.lt_one_iff.mp this.1, Nat.lt_one_iff.mp this.2⟩ hK
      · rw [gE_out B z b i _ h28]
theorem g_iretH {rm : Room} {post : Option Value → gMem → Int64 → Prop} (X : gX Z B cc own) (F : gFH Z B rm (some .int) post) {v : Int32} {z : Int64} (hp : post (some (.int v)) V z) (hn : n = (rm.cells, rm.slots)) (d : decode cc pc = .ok (.ireturn, 1)) : gG Z (gOut B z) n V pc L [.int v] := by
  obtain ⟨p, l, e, R, s, m, args, below, meth, c, nL, Q⟩ := Z
  obtain ⟨h1, h2, h3⟩ := F
  subst h3; subst hn
  intro H locs ls hP hS hl
  exact vx_ret (W.iret X.1 X.2.1 h2 (fun t ht hW => ⟨⟨_, V, z, rfl, hp, by rw [ht]; exact hP⟩, hS.F ht⟩) hS.2.2 d X.2.2.2.2.2.2)
/-- the law calls a helper -/
theorem g_callH (X : gX Z B cc own) (T : gTL Z B) {rmZ rm : Room} (hR : gRm Z = rmZ) {y : MethodName} {bc : ByteArray} {mL idx : Nat} {ret : Option FieldType} {hh : List (Nat × Nat × Nat × Nat)} {As rest st0 : List Value} {post : Option Value → gMem → Int64 → Prop} {k : Nat} (c1 : gW (.static y)) (c3 : gW (.codeWith y bc mL ret hh)) (c4 : gW (.initialized y.cls)) (c5 : y.cls ≠ "java/lang/invoke/MethodHandle" ∧ y.cls ≠ "java/lang/invoke/VarHandle") (c6 : (parseMethodDescriptor y.desc).map (fun d => d.parameters.length) = some k) (hL : gW (.methodLink own idx y)) (hM : gHM (gl Z) B y bc mL ret hh rm As V post) (hk : As.length = k) (hst : st0 = As.reverse ++ rest) (hcat : (rest.map fun v => v.category).sum ≤ 8)
    (hroom : rm.frames + 1 ≤ rmZ.frames ∧ 8 + (mL + 11) + rm.locals ≤ rmZ.locals ∧ n.1 + rm.cells ≤ rmZ.cells ∧ n.2 + rm.slots ≤ rmZ.slots) (d : decode cc pc = .ok (.invokestatic idx, 3))
    (kk : ∀ (v : Option Value) (V' : gMem) (z : Int64), post v V' z → gG Z (gOut B z) (n.1 + rm.cells, n.2 + rm.slots) V' (pc + 3) L (v.toList ++ rest)) : gG Z B n V pc L st0 := by
  obtain ⟨p, l, e, R, s, m, args, below, meth, c, nL, Q⟩ := Z
  subst hR; subst hst
  intro H locs ls hP hS hl
  obtain ⟨hx, hb, hml, hown, hs, hI, hlk⟩ := X
  have hws : ∀ w ∈ ([.codeWith y bc mL ret hh] : List Cond), ∀ (a' : Array Value) (U : State), s.WarmedH U.vm → w.before a' U = true := by
    intro w hw a' U hW
    rw [List.mem_singleton.mp hw]
    exact hs.1.warm hW _ c3 a'
  have hpre : PreS s H (gPcT B V As H.size) As := ⟨gPcT_blind, fun U hU hW => ⟨rfl, by rw [hU], by rw [hU]; exact hP, hs.warm hW, T.2.step hS hU hW⟩⟩
  have run : va_Run p l e R s m args below meth c H locs n.1 n.2 rm.cells rm.slots (F0 m pc ls (As.reverse ++ rest)) rest (gQH B post H.size As.toArray) (gA B H.size) := vx_runSW (own := own) (Ts := []) (nL := nL) ⟨hx, hb, hml, hown, fun w hw => absurd hw List.not_mem_nil⟩ (hM H.size) ⟨⟨rfl, rfl, hroom.1, hroom.2.1, hws, List.mem_singleton.mpr rfl⟩, hs.1 _ c3 _, hs.1 _ c4 _, c5, gar c6, hs.1 _ hL _, hs.1 _ c1 _⟩ hpre rfl hk hl.1 rfl (lv_room hcat) d hroom.2.2
  have hA : ∀ q, gA B H.size q → gA B s.heap.size q := fun q h => gA_mono hS.1 h
  intro U hU X9
  obtain ⟨v, st₀, t, T', L0, h0, X', hL0, e1, e2, ⟨⟨v2, V', z, hv, hp', hP'⟩, hF⟩, hgo⟩ := run U hU X9
  cases hv
  obtain ⟨-, -, hS'⟩ := vx_keep h0 e1 hS (fun q _ h => hA q h) hA hL0 hF
  obtain ⟨t2, a1, b1⟩ := kk v V' z hp' T'.heap (locs ++ L0) ls (by rw [e1]; exact hP') hS' hl T' rfl X'
  exact ⟨t2, hgo t2 a1, b1⟩
end GRH
abbrev hpo (w : gWd) (o : gOu) (V : gMem) : Option Value → gMem → Int64 → Prop := fun v V' z => v = some (.int (nI o.1)) ∧ (o.1 = 0 → z = o.2.1.toInt64) ∧ COk V' o.2.2 ∧ N15 V' ∧ cmod V V'
theorem tc_eA : gW2 (.castable eA eA) := ⟨by decide +kernel, rfl⟩
theorem tc_eS : gW2 (.castable eS eS) := ⟨by decide +kernel, rfl⟩
theorem tc_eB : gW2 (.castable eB eB) := ⟨by decide +kernel, rfl⟩

