/-! THE MEMORY: every int of class and reference by four numbers: kind K of the cell, number b of its bridge or state, number i in its kind, slot j. THE WORLD: the cells at the places, each at its address. -/
abbrev gMem : Type := Nat → Nat → Nat → Nat → Int32
def gup (V : gMem) (K b i j : Nat) (x : Int32) : gMem := fun K' b' i' j' => if K' = K ∧ b' = b ∧ i' = i ∧ j' = j then x else V K' b' i' j'
abbrev gB : Type := va_G × (Nat → Nat → Nat → Nat) × (ClassId × ClassId × ClassId) × (Int64 × Nat)
def gN (K : Nat) : Nat × Nat := match K with
  | 0 => (1, 1)
  | 1 => (1, 1)
  | 2 => (1, 1)
  | 3 => (1, 1)
  | 4 => (1, 1)
  | 10 => (3, 1)
  | 11 => (3, 1)
  | 12 => (3, 2)
  | 13 => (3, 3)
  | 14 => (3, 3)
  | 15 => (3, 16)
  | _ => (0, 0)
def gP (K b i : Nat) : Prop := b < (gN K).1 ∧ i < (gN K).2
def gPL : List (Nat × Nat × Nat) := (List.range 29).flatMap fun K => (List.range (gN K).1).flatMap fun b => (List.range (gN K).2).map fun i => (K, b, i)
theorem gP_K {K b i : Nat} (h : gP K b i) : K < 29 := by
  rcases Nat.lt_or_ge K 29 with q | q
  · exact q
  · obtain ⟨n, rfl⟩ : ∃ n, K = n + 29 := ⟨K - 29, by omega⟩
    exact absurd h.1 (Nat.not_lt_zero b)
theorem gPL_in {K b i : Nat} (h : gP K b i) : (K, b, i) ∈ gPL := by
  simp only [gPL, List.mem_flatMap, List.mem_map, List.mem_range]
  exact ⟨K, gP_K h, b, h.1, i, h.2, rfl⟩
theorem gPL_of {q : Nat × Nat × Nat} (h : q ∈ gPL) : gP q.1 q.2.1 q.2.2 := by
  simp only [gPL, List.mem_flatMap, List.mem_map, List.mem_range] at h
  obtain ⟨K, -, b, hb, i, hi, rfl⟩ := h
  exact ⟨hb, hi⟩
theorem gP_10 {b : Nat} (h : b < 3) : gP 10 b 0 := ⟨h, Nat.zero_lt_one⟩
theorem gP_11 {b : Nat} (h : b < 3) : gP 11 b 0 := ⟨h, Nat.zero_lt_one⟩
theorem gP_12 {b i : Nat} (h : b < 3) (h2 : i < 2) : gP 12 b i := ⟨h, h2⟩
theorem gP_13 {b i : Nat} (h : b < 3) (h2 : i < 3) : gP 13 b i := ⟨h, h2⟩
theorem gP_14 {b i : Nat} (h : b < 3) (h2 : i < 3) : gP 14 b i := ⟨h, h2⟩
theorem gP_15 {b i : Nat} (h : b < 3) (h2 : i < 16) : gP 15 b i := ⟨h, h2⟩
theorem gPL_nd : gPL.Nodup := by decide +kernel
/-- how long the law's own rows are: coins, how, had 16, sorts 4 -/
def gLn (k : Nat) : Nat := if k = 3 then 4 else 16
/-- what the cell at a place is -/
def gE (B : gB) (K b i : Nat) (f : Nat → Int32) : va_E := match K with
  | 0 => .inr (5, [.ref (B.2.1 1 0 0), .ref (B.2.1 4 0 0), .ref (B.2.1 10 0 0), .ref (B.2.1 10 1 0), .ref (B.2.1 10 2 0)])
  | 1 => .inr (2, [.ref (B.2.1 2 0 0), .ref (B.2.1 3 0 0), .int (f 2)])
  | 2 => .inl (B.2.2.1.1, 8, .inl f)
  | 3 => .inl (B.2.2.1.1, 21, .inl f)
  | 4 => .inl (B.2.2.1.1, 20, .inl f)
  | 10 => .inr (0, [.int (f 0), .int (f 1), .int (f 2), .int (f 3), .int (f 4), .int (f 5), .int (f 6), .ref (B.2.1 11 b 0), .ref (B.2.1 12 b 0), .ref (B.2.1 12 b 1), .ref (B.2.1 13 b 2)])
  | 11 => .inl (B.2.2.1.2.1, 16, .inr (.inr (.inr (.inr (fun j => some (B.2.1 15 b j))))))
  | 12 => .inr (3, [.ref (B.2.1 13 b i), .int (f 1), .int (f 2), .int (f 3), .int (f 4)])
  | 13 => .inr (4, [.ref (B.2.1 14 b i), .int (f 1)])
  | 14 => .inl (B.2.2.1.1, 16, .inl f)
  | 15 => .inr (1, [.int (f 0), .int (f 1), .int (f 2), .int (f 3), .int (f 4), .int (f 5), .int (f 6), .int (f 7), .int (f 8), .int (f 9), .int (f 10)])
  | _ => .inl (B.2.2.1.1, gLn b, .inl f)
/-- the places, and the law's own rows, as many as stand -/
def gPX (B : gB) : List (Nat × Nat × Nat) := gPL ++ (List.range B.2.2.2.2).map (fun k => (29, k, 0))
theorem gPX_in {B : gB} {K b i : Nat} (h : gP K b i) : (K, b, i) ∈ gPX B := List.mem_append_left _ (gPL_in h)
theorem gPX_own {B : gB} {k : Nat} (h : k < B.2.2.2.2) : (29, k, 0) ∈ gPX B := List.mem_append_right _ (List.mem_map.mpr ⟨k, List.mem_range.mpr h, rfl⟩)
theorem gPX_nd (B : gB) : (gPX B).Nodup := by
  unfold gPX
  refine List.nodup_append.mpr ⟨gPL_nd, ?_, fun q hq p hp e => ?_⟩
  · exact List.Pairwise.map (fun k => ((29, k, 0) : Nat × Nat × Nat)) (fun x y h e => h (congrArg (fun z => z.2.1) e)) List.nodup_range
  · obtain ⟨k, -, rfl⟩ := List.mem_map.mp hp
    subst e
    exact absurd (gP_K (gPL_of hq)) (by show ¬ 29 < 29; decide)
def gAt (B : gB) (V : gMem) (q : Nat × Nat × Nat) : Nat × va_E := (B.2.1 q.1 q.2.1 q.2.2, gE B q.1 q.2.1 q.2.2 (V q.1 q.2.1 q.2.2))
def gws (B : gB) (V : gMem) : va_W := (gPX B).map (gAt B V)
def gI (B : gB) : Prop := ∀ p ∈ gPX B, ∀ q ∈ gPX B, B.2.1 p.1 p.2.1 p.2.2 = B.2.1 q.1 q.2.1 q.2.2 → p = q
def gA (B : gB) (sz : Nat) : Nat → Prop := fun a => (∃ q ∈ gPX B, a = B.2.1 q.1 q.2.1 q.2.2) ∨ sz ≤ a
def gty (B : gB) : List (ClassId × FieldType) := [(B.2.2.1.1, .int), (B.2.2.1.2.1, .object RX1)]
def gT (U : State) : Prop := ∀ w, gW w → ∀ a' : Array Value, w.before a' U = true
def gS (B : gB) (U : State) : Prop := gT U ∧ va_K B.1 vwCl (gty B) U
theorem gT.warm {s U : State} (hW : s.WarmedH U.vm) (h : gT s) : gT U := by
  intro w hw a'
  have h0 := h w hw #[]
  have hg := hw.2
  unfold gok at hg
  cases hq : goodWord w with
  | true => exact word_at hW (good_of_word hq) h0
  | false =>
    rw [hq, Bool.false_or] at hg
    split at hg
    · exact va_Nw.use rfl (va_Nw.warmF hW h0)
    · exact va_Nw.use rfl (va_Nw.warmM hW h0)
    · cases hg
theorem gS.warm {B : gB} {s U : State} (hW : s.WarmedH U.vm) (h : gS B s) : gS B U := ⟨h.1.warm hW, va_K.moved hW.alike h.2⟩
theorem gS.same {B : gB} {s U : State} (hv : U.vm = s.vm) (h : gS B s) : gS B U := h.warm (by rw [hv]; exact State.WarmedH.refl s)
theorem gws_atX (B : gB) (V : gMem) {K b i : Nat} (h : (K, b, i) ∈ gPX B) : ∃ k : Nat, (gPX B)[k]? = some (K, b, i) ∧ (gws B V)[k]? = some (B.2.1 K b i, gE B K b i (V K b i)) := by
  obtain ⟨k, hk⟩ := List.getElem?_of_mem h
  exact ⟨k, hk, by simp [gws, gAt, hk]⟩
theorem gws_at (B : gB) (V : gMem) {K b i : Nat} (h : gP K b i) : ∃ k : Nat, (gPX B)[k]? = some (K, b, i) ∧ (gws B V)[k]? = some (B.2.1 K b i, gE B K b i (V K b i)) := gws_atX B V (gPX_in h)
theorem gPX_one {B : gB} {j k : Nat} {q : Nat × Nat × Nat} (hj : (gPX B)[j]? = some q) (hk : (gPX B)[k]? = some q) : j = k := by
  have hjl := (List.getElem?_eq_some_iff.mp hj).1
  exact (List.getElem?_inj hjl (gPX_nd B)).mp (hj.trans hk.symm)
theorem gws_D {B : gB} (V : gMem) (sz : Nat) (hI : gI B) : va_D (gA B sz) (gws B V) := by
  have key : ∀ (k : Nat) (p : Nat × va_E), (gws B V)[k]? = some p → ∃ q, (gPX B)[k]? = some q ∧ p.1 = B.2.1 q.1 q.2.1 q.2.2 := by
    intro k p hp
    simp only [gws, List.getElem?_map] at hp
    cases hq : (gPX B)[k]? with
    | none => rw [hq] at hp; cases hp
    | some q => rw [hq] at hp; cases hp; exact ⟨q, rfl, rfl⟩
  refine ⟨fun i j p q hp hq hpq => ?_, fun k p hp => ?_⟩
  · obtain ⟨x, h1, h2⟩ := key i p hp
    obtain ⟨y, h3, h4⟩ := key j q hq
    have := hI x (List.mem_of_getElem? h1) y (List.mem_of_getElem? h3) (h2.symm.trans (hpq.trans h4))
    subst this
    exact gPX_one h1 h3
  · obtain ⟨x, h1, h2⟩ := key k p hp
    exact Or.inl ⟨x, List.mem_of_getElem? h1, h2⟩
theorem gup_row (V : gMem) (K b i j : Nat) (x : Int32) : gup V K b i j x K b i = upd (V K b i) j x := by
  funext k
  simp [gup, upd]
theorem gup_off (V : gMem) {K b i j K' b' i' : Nat} (x : Int32) (h : ¬ (K' = K ∧ b' = b ∧ i' = i)) : gup V K b i j x K' b' i' = V K' b' i' := by
  funext k
  simp only [gup]
  rw [if_neg (fun q => h ⟨q.1, q.2.1, q.2.2.1⟩)]
theorem gws_set {B : gB} {V : gMem} {K b i k : Nat} (j : Nat) (x : Int32) (hk : (gPX B)[k]? = some (K, b, i)) {e : va_E} (he : e = gE B K b i (upd (V K b i) j x)) : (gws B V).set k (B.2.1 K b i, e) = gws B (gup V K b i j x) := by
  subst he
  have hl := (List.getElem?_eq_some_iff.mp hk).1
  apply List.ext_getElem?
  intro n
  by_cases hn : n = k
  · subst hn
    rw [List.getElem?_set_self (by simp [gws]; exact hl)]
    simp only [gws, List.getElem?_map, hk, Option.map_some, gAt, gup_row]
  · rw [List.getElem?_set_ne (Ne.symm hn)]
    simp only [gws, List.getElem?_map]
    cases hq : (gPX B)[n]? with
    | none => rfl
    | some q =>
      have hne : ¬ (q.1 = K ∧ q.2.1 = b ∧ q.2.2 = i) := by
        rintro ⟨rfl, rfl, rfl⟩
        exact hn (gPX_one hq hk)
      simp only [Option.map_some, gAt, gup_off V x hne]
/-! the judgement -/
abbrev gZ : Type := Program × Launch × Env × Room × State × MethodId × Array Value × List Frame × Method × Code × Nat × (State → Prop)
def gG (Z : gZ) (B : gB) (n : Nat × Nat) (V : gMem) (pc : Nat) (L : List (Nat × Value)) (st : List Value) : Prop := match Z with
  | (p, l, e, R, s, m, args, below, meth, c, nL, Q) => ∀ (H : Heap) (locs : List Loc) (ls : Array Slot), va_P B.1 vwCl (gws B V) H → va_S (gA B s.heap.size) s.heap H locs → lv_has ls nL L → W p l e R s m args below meth c H locs n.1 n.2 Q (F0 m pc ls st)
def gX (Z : gZ) (B : gB) (cc : ByteArray) (own : String) : Prop := match Z with
  | (p, _, _, _, s, m, _, _, meth, c, nL, _) => p.tables.exec = Jvm.exec ∧ c.code = cc ∧ c.maxLocals = nL ∧ s.vm.findClass own = some m.cls ∧ gS B s ∧ gI B ∧ meth.locks = false
def gQ (B : gB) (post : Option Value → gMem → Prop) (sz : Nat) : Array Value → State → Outcome → State → Prop := fun _ st oc t => (∃ (v : Option Value) (V : gMem), oc = .returned v ∧ post v V ∧ va_P B.1 vwCl (gws B V) t.heap) ∧ va_F (gA B sz) st t
def gF (Z : gZ) (B : gB) (rm : Room) (ret : Option FieldType) (post : Option Value → gMem → Prop) : Prop := match Z with
  | (_, _, _, R, s, _, args, below, meth, _, _, Q) => R = rm ∧ meth.sig.returnType = ret ∧ Q = MQ below (gQ B post s.heap.size) args s rm.cells rm.slots (gA B s.heap.size)
def gl (Z : gZ) : Launch := Z.2.1
def gnL (Z : gZ) : Nat := Z.2.2.2.2.2.2.2.2.2.2.1
def gRm (Z : gZ) : Room := Z.2.2.2.1
theorem gnl_lt {Z : gZ} {k n : Nat} (h : gnL Z = n) (hk : k < n) : k < gnL Z := h ▸ hk
/-- a method's contract: from the memory V, with these arguments, it returns, with post -/
def gM (l : Launch) (B : gB) (y : MethodName) (bc : ByteArray) (nL : Nat) (ret : Option FieldType) (rm : Room) (av : List Value) (V : gMem) (post : Option Value → gMem → Prop) : Prop :=
  ∀ sz : Nat, Met l y [.code y bc nL ret] rm (va_Pc av (fun U => U.heap.size = sz ∧ va_P B.1 vwCl (gws B V) U.heap ∧ gS B U)) (gQ B post sz) rm.cells rm.slots (gA B sz)
theorem gM_of {l : Launch} {B : gB} {y : MethodName} {bc : ByteArray} {nL : Nat} {ret : Option FieldType} {rm : Room} {av : List Value} {V : gMem} {post : Option Value → gMem → Prop} {L : List (Nat × Value)} {own : String} (hy : plainName y.cls = true) (hown : y.cls = own) (hI : gI B) (hlen : (lg_sl av).length ≤ nL) (hL : lv_args 0 av = L)
    (body : ∀ Z : gZ, gnL Z = nL → gRm Z = rm → gX Z B bc own → gF Z B rm ret post → gG Z B (0, 0) V 0 L []) : gM l B y bc nL ret rm av V post := by
  intro sz
  refine Met.ofW (cc := bc) (maxL := nL) (ret := ret) hy rfl ?_
  intro p e s m args below meth c s₁ B' hml hv
  obtain ⟨rfl, hsz, hP, hS⟩ := hv
  subst hsz
  subst hown
  have h := body (p, l, e, rm, s, m, av.toArray, below, meth, c, nL, MQ below (gQ B post s.heap.size) av.toArray s rm.cells rm.slots (gA B s.heap.size)) rfl rfl ⟨B'.exec, B'.bytes, hml, findClass_of_methodNamed B'.named, hS, hI, B'.notSynchronized⟩ ⟨rfl, B'.returns, rfl⟩
  have hl := lv_entry av (n := nL) hlen
  rw [lg_entry_eq]
  rw [hL] at hl
  exact h s.heap [] _ hP va_S.rf hl
theorem gM.mono {l : Launch} {B : gB} {y : MethodName} {bc : ByteArray} {nL : Nat} {ret : Option FieldType} {rm : Room} {av : List Value} {V : gMem} {post post' : Option Value → gMem → Prop} (h : gM l B y bc nL ret rm av V post) (hp : ∀ v V', post v V' → post' v V') : gM l B y bc nL ret rm av V post' := by
  intro sz
  exact MetFree.mono (h sz) (fun _ _ q => q) (fun _ _ _ _ _ q => q) (fun a s o s' _ q => ⟨⟨q.1.1.elim fun v q => q.elim fun V' q => ⟨v, V', q.1, hp _ _ q.2.1, q.2.2⟩, q.1.2⟩, q.2⟩)
theorem gG_st {Z : gZ} {B : gB} {n : Nat × Nat} {V : gMem} {pc : Nat} {L : List (Nat × Value)} {st : List Value} (st' : List Value) (h : st = st') (k : gG Z B n V pc L st') : gG Z B n V pc L st := h ▸ k
theorem gG_V {Z : gZ} {B : gB} {n : Nat × Nat} {V : gMem} {pc : Nat} {L : List (Nat × Value)} {st : List Value} (V' : gMem) (h : V = V') (k : gG Z B n V' pc L st) : gG Z B n V pc L st := h ▸ k
theorem gG_L {Z : gZ} {B : gB} {n : Nat × Nat} {V : gMem} {pc : Nat} {L L' : List (Nat × Value)} {st : List Value} (ks : List Nat) (h : lv_pick L ks = L') (k : gG Z B n V pc L' st) : gG Z B n V pc L st := by
  obtain ⟨p, l, e, R, s, m, args, below, meth, c, nL, Q⟩ := Z
  exact fun H locs ls hP hS hl => k H locs ls hP hS (lv_sub hl ks h)
theorem gG_Le {Z : gZ} {B : gB} {n : Nat × Nat} {V : gMem} {pc : Nat} {L : List (Nat × Value)} {st : List Value} (L' : List (Nat × Value)) (h : L = L') (k : gG Z B n V pc L' st) : gG Z B n V pc L st := h ▸ k
theorem gG_ret {Z : gZ} {B : gB} {n : Nat × Nat} {V V' : gMem} {pc : Nat} {L : List (Nat × Value)} {rest : List Value} {v v0 : Option Value} (h1 : v = v0) (h2 : V' = V) (k : gG Z B n V pc L (v0.toList ++ rest)) : gG Z B n V' pc L (v.toList ++ rest) := by
  subst h1; subst h2
  exact k
theorem gG_rv {Z : gZ} {B : gB} {n : Nat × Nat} {V : gMem} {pc : Nat} {L : List (Nat × Value)} {rest : List Value} {v v0 : Option Value} (h1 : v = v0) (k : gG Z B n V pc L (v0.toList ++ rest)) : gG Z B n V pc L (v.toList ++ rest) := by
  subst h1
  exact k
theorem iinc_1 (k : Nat) : nI k + Int32.ofInt 1 = nI (k + 1) := nI_1 k
theorem iinc_m1 (k : Nat) : nI (k + 1) + Int32.ofInt (-1) = nI k := by
  have h : Int32.ofInt (-1) = -1 := by decide
  rw [h]
  exact pk_m1 k
theorem gG_nm {Z : gZ} {B : gB} {n : Nat × Nat} {V : gMem} {pc : Nat} {L : List (Nat × Value)} {st : List Value} (k : ∀ V1, V1 = V → gG Z B n V1 pc L st) : gG Z B n V pc L st := k V rfl
theorem gG_nmi {Z : gZ} {B : gB} {n : Nat × Nat} {V : gMem} {pc : Nat} {L : List (Nat × Value)} {st : List Value} {x : Int32} (k : ∀ y, y = x → gG Z B n V pc L (.int y :: st)) : gG Z B n V pc L (.int x :: st) := k x rfl
theorem gG_top {Z : gZ} {B : gB} {n : Nat × Nat} {V : gMem} {pc : Nat} {L : List (Nat × Value)} {st : List Value} {x : Int32} (y : Int32) (h : x = y) (k : gG Z B n V pc L (.int y :: st)) : gG Z B n V pc L (.int x :: st) := h ▸ k
section GR
variable {Z : gZ} {B : gB} {n : Nat × Nat} {V : gMem} {pc : Nat} {L L' : List (Nat × Value)} {st : List Value} {cc : ByteArray} {own : String}
theorem g_iload_n (X : gX Z B cc own) {k : Fin 4} {x : Int32} (j : Nat) (h : L[j]? = some ((k : Nat), .int x)) (d : decode cc pc = .ok (.iload_n k, 1)) (kk : gG Z B n V (pc + 1) L (.int x :: st)) : gG Z B n V pc L (st) := by
  obtain ⟨p, l, e, R, s, m, args, below, meth, c, nL, Q⟩ := Z
  exact fun H locs ls hP hS hl => lv_iload_n X.1 X.2.1 d rfl (lv_at hl j h) (kk H locs ls hP hS hl)
theorem g_iload (X : gX Z B cc own) {k : Nat} {x : Int32} (j : Nat) (h : L[j]? = some (k, .int x)) (d : decode cc pc = .ok (.iload k, 2)) (kk : gG Z B n V (pc + 2) L (.int x :: st)) : gG Z B n V pc L (st) := by
  obtain ⟨p, l, e, R, s, m, args, below, meth, c, nL, Q⟩ := Z
  exact fun H locs ls hP hS hl => lv_iload X.1 X.2.1 d (lv_at hl j h) (kk H locs ls hP hS hl)
theorem g_lload_n (X : gX Z B cc own) {k : Fin 4} {x : Int64} (j : Nat) (h : L[j]? = some ((k : Nat), .long x)) (d : decode cc pc = .ok (.lload_n k, 1)) (kk : gG Z B n V (pc + 1) L (.long x :: st)) : gG Z B n V pc L (st) := by
  obtain ⟨p, l, e, R, s, m, args, below, meth, c, nL, Q⟩ := Z
  exact fun H locs ls hP hS hl => lv_lload_n X.1 X.2.1 d rfl (lv_at hl j h) (kk H locs ls hP hS hl)
theorem g_lload (X : gX Z B cc own) {k : Nat} {x : Int64} (j : Nat) (h : L[j]? = some (k, .long x)) (d : decode cc pc = .ok (.lload k, 2)) (kk : gG Z B n V (pc + 2) L (.long x :: st)) : gG Z B n V pc L (st) := by
  obtain ⟨p, l, e, R, s, m, args, below, meth, c, nL, Q⟩ := Z
  exact fun H locs ls hP hS hl => lv_lload X.1 X.2.1 d (lv_at hl j h) (kk H locs ls hP hS hl)
theorem g_aload_n (X : gX Z B cc own) {k : Fin 4} {x : Nat} (j : Nat) (h : L[j]? = some ((k : Nat), .ref x)) (d : decode cc pc = .ok (.aload_n k, 1)) (kk : gG Z B n V (pc + 1) L (.ref x :: st)) : gG Z B n V pc L (st) := by
  obtain ⟨p, l, e, R, s, m, args, below, meth, c, nL, Q⟩ := Z
  exact fun H locs ls hP hS hl => lv_aload_n X.1 X.2.1 d rfl (lv_at hl j h) (kk H locs ls hP hS hl)
theorem g_aload (X : gX Z B cc own) {k : Nat} {x : Nat} (j : Nat) (h : L[j]? = some (k, .ref x)) (d : decode cc pc = .ok (.aload k, 2)) (kk : gG Z B n V (pc + 2) L (.ref x :: st)) : gG Z B n V pc L (st) := by
  obtain ⟨p, l, e, R, s, m, args, below, meth, c, nL, Q⟩ := Z
  exact fun H locs ls hP hS hl => lv_aload X.1 X.2.1 d (lv_at hl j h) (kk H locs ls hP hS hl)
theorem g_aload_nN (X : gX Z B cc own) {k : Fin 4} (j : Nat) (h : L[j]? = some ((k : Nat), .null)) (d : decode cc pc = .ok (.aload_n k, 1)) (kk : gG Z B n V (pc + 1) L (.null :: st)) : gG Z B n V pc L (st) := by
  obtain ⟨p, l, e, R, s, m, args, below, meth, c, nL, Q⟩ := Z
  exact fun H locs ls hP hS hl => lv_aload_nN X.1 X.2.1 d rfl (lv_at hl j h) (kk H locs ls hP hS hl)
theorem g_aloadN (X : gX Z B cc own) {k : Nat} (j : Nat) (h : L[j]? = some (k, .null)) (d : decode cc pc = .ok (.aload k, 2)) (kk : gG Z B n V (pc + 2) L (.null :: st)) : gG Z B n V pc L (st) := by
  obtain ⟨p, l, e, R, s, m, args, below, meth, c, nL, Q⟩ := Z
  exact fun H locs ls hP hS hl => lv_aloadN X.1 X.2.1 d (lv_at hl j h) (kk H locs ls hP hS hl)
theorem g_iconst (X : gX Z B cc own) {k : Int} (v : Int32) (h : Int32.ofInt k = v) (d : decode cc pc = .ok (.iconst k, 1)) (kk : gG Z B n V (pc + 1) L (.int v :: st)) : gG Z B n V pc L (st) := by
  obtain ⟨p, l, e, R, s, m, args, below, meth, c, nL, Q⟩ := Z
  exact fun H locs ls hP hS hl => lv_iconst X.1 X.2.1 d h (kk H locs ls hP hS hl)
theorem g_bipush (X : gX Z B cc own) {k : Int} (v : Int32) (h : (Int8.ofInt k).toInt32 = v) (d : decode cc pc = .ok (.bipush k, 2)) (kk : gG Z B n V (pc + 2) L (.int v :: st)) : gG Z B n V pc L (st) := by
  obtain ⟨p, l, e, R, s, m, args, below, meth, c, nL, Q⟩ := Z
  exact fun H locs ls hP hS hl => lv_bipush X.1 X.2.1 d h (kk H locs ls hP hS hl)
theorem g_sipush (X : gX Z B cc own) {k : Int} (v : Int32) (h : (Int16.ofInt k).toInt32 = v) (d : decode cc pc = .ok (.sipush k, 3)) (kk : gG Z B n V (pc + 3) L (.int v :: st)) : gG Z B n V pc L (st) := by
  obtain ⟨p, l, e, R, s, m, args, below, meth, c, nL, Q⟩ := Z
  exact fun H locs ls hP hS hl => lv_sipush X.1 X.2.1 d h (kk H locs ls hP hS hl)
theorem g_lconst (X : gX Z B cc own) {k : Fin 2} (v : Int64) (h : Int64.ofNat (k : Nat) = v) (d : decode cc pc = .ok (.lconst k, 1)) (kk : gG Z B n V (pc + 1) L (.long v :: st)) : gG Z B n V pc L (st) := by
  obtain ⟨p, l, e, R, s, m, args, below, meth, c, nL, Q⟩ := Z
  exact fun H locs ls hP hS hl => lv_lconst X.1 X.2.1 d h (kk H locs ls hP hS hl)
theorem g_ldc2 (X : gX Z B cc own) {index : Nat} (v : Int64) (h : gW (.constantLong own index v)) (d : decode cc pc = .ok (.ldc2_w index, 3)) (kk : gG Z B n V (pc + 3) L (.long v :: st)) : gG Z B n V pc L (st) := by
  obtain ⟨p, l, e, R, s, m, args, below, meth, c, nL, Q⟩ := Z
  exact fun H locs ls hP hS hl => lv_ldc2 X.1 X.2.1 X.2.2.2.1 (X.2.2.2.2.1.1 _ h _) d (kk H locs ls hP hS hl)
theorem g_null (X : gX Z B cc own) (d : decode cc pc = .ok (.aconst_null, 1)) (kk : gG Z B n V (pc + 1) L (.null :: st)) : gG Z B n V pc L (st) := by
  obtain ⟨p, l, e, R, s, m, args, below, meth, c, nL, Q⟩ := Z
  exact fun H locs ls hP hS hl => lv_null X.1 X.2.1 d (kk H locs ls hP hS hl)
theorem g_iadd (X : gX Z B cc own) {x y : Int32} (d : decode cc pc = .ok (.iadd, 1)) (kk : gG Z B n V (pc + 1) L (.int (x + y) :: st)) : gG Z B n V pc L (.int y :: .int x :: st) := by
  obtain ⟨p, l, e, R, s, m, args, below, meth, c, nL, Q⟩ := Z
  exact fun H locs ls hP hS hl => lv_iadd X.1 X.2.1 d (kk H locs ls hP hS hl)
theorem g_isub (X : gX Z B cc own) {x y : Int32} (d : decode cc pc = .ok (.isub, 1)) (kk : gG Z B n V (pc + 1) L (.int (x - y) :: st)) : gG Z B n V pc L (.int y :: .int x :: st) := by
  obtain ⟨p, l, e, R, s, m, args, below, meth, c, nL, Q⟩ := Z
  exact fun H locs ls hP hS hl => lv_isub X.1 X.2.1 d (kk H locs ls hP hS hl)
theorem g_imul (X : gX Z B cc own) {x y : Int32} (d : decode cc pc = .ok (.imul, 1)) (kk : gG Z B n V (pc + 1) L (.int (x * y) :: st)) : gG Z B n V pc L (.int y :: .int x :: st) := by
  obtain ⟨p, l, e, R, s, m, args, below, meth, c, nL, Q⟩ := Z
  exact fun H locs ls hP hS hl => lv_imul X.1 X.2.1 d (kk H locs ls hP hS hl)
theorem g_ior (X : gX Z B cc own) {x y : Int32} (d : decode cc pc = .ok (.ior, 1)) (kk : gG Z B n V (pc + 1) L (.int (x ||| y) :: st)) : gG Z B n V pc L (.int y :: .int x :: st) := by
  obtain ⟨p, l, e, R, s, m, args, below, meth, c, nL, Q⟩ := Z
  exact fun H locs ls hP hS hl => lv_ior X.1 X.2.1 d (kk H locs ls hP hS hl)
theorem g_iand (X : gX Z B cc own) {x y : Int32} (d : decode cc pc = .ok (.iand, 1)) (kk : gG Z B n V (pc + 1) L (.int (x &&& y) :: st)) : gG Z B n V pc L (.int y :: .int x :: st) := by
  obtain ⟨p, l, e, R, s, m, args, below, meth, c, nL, Q⟩ := Z
  exact fun H locs ls hP hS hl => lv_iand X.1 X.2.1 d (kk H locs ls hP hS hl)
theorem g_idiv (X : gX Z B cc own) {x y : Int32} (h : ¬ y = 0) (d : decode cc pc = .ok (.idiv, 1)) (kk : gG Z B n V (pc + 1) L (.int (x / y) :: st)) : gG Z B n V pc L (.int y :: .int x :: st) := by
  obtain ⟨p, l, e, R, s, m, args, below, meth, c, nL, Q⟩ := Z
  exact fun H locs ls hP hS hl => lv_idiv X.1 X.2.1 d h (kk H locs ls hP hS hl)
theorem g_irem (X : gX Z B cc own) {x y : Int32} (h : ¬ y = 0) (d : decode cc pc = .ok (.irem, 1)) (kk : gG Z B n V (pc + 1) L (.int (x - x / y * y) :: st)) : gG Z B n V pc L (.int y :: .int x :: st) := by
  obtain ⟨p, l, e, R, s, m, args, below, meth, c, nL, Q⟩ := Z
  exact fun H locs ls hP hS hl => lv_irem X.1 X.2.1 d h (kk H locs ls hP hS hl)
theorem g_ishl (X : gX Z B cc own) {x y : Int32} (d : decode cc pc = .ok (.ishl, 1)) (kk : gG Z B n V (pc + 1) L (.int (x <<< (y &&& 31)) :: st)) : gG Z B n V pc L (.int y :: .int x :: st) := by
  obtain ⟨p, l, e, R, s, m, args, below, meth, c, nL, Q⟩ := Z
  exact fun H locs ls hP hS hl => lv_ishl X.1 X.2.1 d (kk H locs ls hP hS hl)
theorem g_ishr (X : gX Z B cc own) {x y : Int32} (d : decode cc pc = .ok (.ishr, 1)) (kk : gG Z B n V (pc + 1) L (.int (x >>> (y &&& 31)) :: st)) : gG Z B n V pc L (.int y :: .int x :: st) := by
  obtain ⟨p, l, e, R, s, m, args, below, meth, c, nL, Q⟩ := Z
  exact fun H locs ls hP hS hl => lv_ishr X.1 X.2.1 d (kk H locs ls hP hS hl)
theorem g_ldc (X : gX Z B cc own) {index : Nat} (v : Int32) (h : gW (.constant own index v)) (d : decode cc pc = .ok (.ldc index, 2)) (kk : gG Z B n V (pc + 2) L (.int v :: st)) : gG Z B n V pc L (st) := by
  obtain ⟨p, l, e, R, s, m, args, below, meth, c, nL, Q⟩ := Z
  exact fun H locs ls hP hS hl => lv_ldc X.1 X.2.1 X.2.2.2.1 (X.2.2.2.2.1.1 _ h _) d (kk H locs ls hP hS hl)
theorem g_ladd (X : gX Z B cc own) {x y : Int64} (d : decode cc pc = .ok (.ladd, 1)) (kk : gG Z B n V (pc + 1) L (.long (x + y) :: st)) : gG Z B n V pc L (.long y :: .long x :: st) := by
  obtain ⟨p, l, e, R, s, m, args, below, meth, c, nL, Q⟩ := Z
  exact fun H locs ls hP hS hl => lv_ladd X.1 X.2.1 d (kk H locs ls hP hS hl)
theorem g_lmul (X : gX Z B cc own) {x y : Int64} (d : decode cc pc = .ok (.lmul, 1)) (kk : gG Z B n V (pc + 1) L (.long (x * y) :: st)) : gG Z B n V pc L (.long y :: .long x :: st) := by
  obtain ⟨p, l, e, R, s, m, args, below, meth, c, nL, Q⟩ := Z
  exact fun H locs ls hP hS hl => lv_lmul X.1 X.2.1 d (kk H locs ls hP hS hl)
theorem g_i2l (X : gX Z B cc own) {x : Int32} (d : decode cc pc = .ok (.i2l, 1)) (kk : gG Z B n V (pc + 1) L (.long x.toInt64 :: st)) : gG Z B n V pc L (.int x :: st) := by
  obtain ⟨p, l, e, R, s, m, args, below, meth, c, nL, Q⟩ := Z
  exact fun H locs ls hP hS hl => lv_i2l X.1 X.2.1 d rfl (kk H locs ls hP hS hl)
theorem g_lcmp (X : gX Z B cc own) {x y : Int64} (d : decode cc pc = .ok (.lcmp, 1)) (kk : gG Z B n V (pc + 1) L (.int (lg_cmp x y) :: st)) : gG Z B n V pc L (.long y :: .long x :: st) := by
  obtain ⟨p, l, e, R, s, m, args, below, meth, c, nL, Q⟩ := Z
  exact fun H locs ls hP hS hl => W.lcmp X.1 X.2.1 d (kk H locs ls hP hS hl)
theorem g_dup (X : gX Z B cc own) {v : Value} (h : v.category = 1) (d : decode cc pc = .ok (.dup, 1)) (kk : gG Z B n V (pc + 1) L (v :: v :: st)) : gG Z B n V pc L (v :: st) := by
  obtain ⟨p, l, e, R, s, m, args, below, meth, c, nL, Q⟩ := Z
  exact fun H locs ls hP hS hl => lv_dup X.1 X.2.1 d h (kk H locs ls hP hS hl)
theorem g_dup2 (X : gX Z B cc own) {v w : Value} (h : v.category = 1) (h2 : w.category = 1) (d : decode cc pc = .ok (.dup2, 1)) (kk : gG Z B n V (pc + 1) L (v :: w :: v :: w :: st)) : gG Z B n V pc L (v :: w :: st) := by
  obtain ⟨p, l, e, R, s, m, args, below, meth, c, nL, Q⟩ := Z
  exact fun H locs ls hP hS hl => lv_dup2_11 X.1 X.2.1 d h h2 (kk H locs ls hP hS hl)
theorem g_pop (X : gX Z B cc own) {v : Value} (h : v.category = 1) (d : decode cc pc = .ok (.pop, 1)) (kk : gG Z B n V (pc + 1) L (st)) : gG Z B n V pc L (v :: st) := by
  obtain ⟨p, l, e, R, s, m, args, below, meth, c, nL, Q⟩ := Z
  exact fun H locs ls hP hS hl => lv_pop X.1 X.2.1 d h (kk H locs ls hP hS hl)
theorem g_goto (X : gX Z B cc own) {off : Int} (tgt : Nat) (h : (pc : Int) + off = (tgt : Int)) (d : decode cc pc = .ok (.goto off, 3)) (kk : gG Z B n V tgt L (st)) : gG Z B n V pc L (st) := by
  obtain ⟨p, l, e, R, s, m, args, below, meth, c, nL, Q⟩ := Z
  exact fun H locs ls hP hS hl => lv_goto X.1 X.2.1 d h (kk H locs ls hP hS hl)
theorem g_ifnull (X : gX Z B cc own) {off : Int} {x : Nat} (d : decode cc pc = .ok (.ifnull off, 3)) (kk : gG Z B n V (pc + 3) L (st)) : gG Z B n V pc L (.ref x :: st) := by
  obtain ⟨p, l, e, R, s, m, args, below, meth, c, nL, Q⟩ := Z
  exact fun H locs ls hP hS hl => lv_ifnull X.1 X.2.1 d (kk H locs ls hP hS hl)
theorem g_ifnullN (X : gX Z B cc own) {off : Int} (tgt : Nat) (h : (pc : Int) + off = (tgt : Int)) (d : decode cc pc = .ok (.ifnull off, 3)) (kk : gG Z B n V tgt L (st)) : gG Z B n V pc L (.null :: st) := by
  obtain ⟨p, l, e, R, s, m, args, below, meth, c, nL, Q⟩ := Z
  exact fun H locs ls hP hS hl => lv_ifnullN X.1 X.2.1 d h (kk H locs ls hP hS hl)
theorem g_ifnonnull (X : gX Z B cc own) {off : Int} {x : Nat} (tgt : Nat) (h : (pc : Int) + off = (tgt : Int)) (d : decode cc pc = .ok (.ifnonnull off, 3)) (kk : gG Z B n V tgt L (st)) : gG Z B n V pc L (.ref x :: st) := by
  obtain ⟨p, l, e, R, s, m, args, below, meth, c, nL, Q⟩ := Z
  exact fun H locs ls hP hS hl => lv_ifnonnull X.1 X.2.1 d h (kk H locs ls hP hS hl)
theorem g_ifnonnullN (X : gX Z B cc own) {off : Int} (d : decode cc pc = .ok (.ifnonnull off, 3)) (kk : gG Z B n V (pc + 3) L (st)) : gG Z B n V pc L (.null :: st) := by
  obtain ⟨p, l, e, R, s, m, args, below, meth, c, nL, Q⟩ := Z
  exact fun H locs ls hP hS hl => lv_ifnonnullN X.1 X.2.1 d (kk H locs ls hP hS hl)
theorem g_istore (X : gX Z B cc own) {k : Nat} {x : Int32} (d : decode cc pc = .ok (.istore k, 2)) (L2 : List (Nat × Value)) (h2 : (k, Value.int x) :: L.filter (fun q => !(q.1 == k) && !(q.1 + 1 == k && q.2.category == 2)) = L2) (hn : k < gnL Z) (kk : gG Z B n V (pc + 2) L2 st) : gG Z B n V pc L (Value.int x :: st) := by
  obtain ⟨p, l, e, R, s, m, args, below, meth, c, nL, Q⟩ := Z
  exact fun H locs ls hP hS hl => lv_istore X.1 X.2.1 d hl hn h2 (fun ls hl => kk H locs ls hP hS hl)
theorem g_istore_n (X : gX Z B cc own) {k0 : Fin 4} {k : Nat} {x : Int32} (hk : (k0 : Nat) = k) (d : decode cc pc = .ok (.istore_n k0, 1)) (L2 : List (Nat × Value)) (h2 : (k, Value.int x) :: L.filter (fun q => !(q.1 == k) && !(q.1 + 1 == k && q.2.category == 2)) = L2) (hn : k < gnL Z) (kk : gG Z B n V (pc + 1) L2 st) : gG Z B n V pc L (Value.int x :: st) := by
  obtain ⟨p, l, e, R, s, m, args, below, meth, c, nL, Q⟩ := Z
  exact fun H locs ls hP hS hl => lv_istore_n X.1 X.2.1 d hk hl hn h2 (fun ls hl => kk H locs ls hP hS hl)
theorem g_astore (X : gX Z B cc own) {k : Nat} {x : Nat} (d : decode cc pc = .ok (.astore k, 2)) (L2 : List (Nat × Value)) (h2 : (k, Value.ref x) :: L.filter (fun q => !(q.1 == k) && !(q.1 + 1 == k && q.2.category == 2)) = L2) (hn : k < gnL Z) (kk : gG Z B n V (pc + 2) L2 st) : gG Z B n V pc L (Value.ref x :: st) := by
  obtain ⟨p, l, e, R, s, m, args, below, meth, c, nL, Q⟩ := Z
  exact fun H locs ls hP hS hl => lv_astore X.1 X.2.1 d hl hn h2 (fun ls hl => kk H locs ls hP hS hl)
theorem g_astore_n (X : gX Z B cc own) {k0 : Fin 4} {k : Nat} {x : Nat} (hk : (k0 : Nat) = k) (d : decode cc pc = .ok (.astore_n k0, 1)) (L2 : List (Nat × Value)) (h2 : (k, Value.ref x) :: L.filter (fun q => !(q.1 == k) && !(q.1 + 1 == k && q.2.category == 2)) = L2) (hn : k < gnL Z) (kk : gG Z B n V (pc + 1) L2 st) : gG Z B n V pc L (Value.ref x :: st) := by
  obtain ⟨p, l, e, R, s, m, args, below, meth, c, nL, Q⟩ := Z
  exact fun H locs ls hP hS hl => lv_astore_n X.1 X.2.1 d hk hl hn h2 (fun ls hl => kk H locs ls hP hS hl)
theorem g_astoreN (X : gX Z B cc own) {k : Nat} (d : decode cc pc = .ok (.astore k, 2)) (L2 : List (Nat × Value)) (h2 : (k, Value.null) :: L.filter (fun q => !(q.1 == k) && !(q.1 + 1 == k && q.2.category == 2)) = L2) (hn : k < gnL Z) (kk : gG Z B n V (pc + 2) L2 st) : gG Z B n V pc L (Value.null :: st) := by
  obtain ⟨p, l, e, R, s, m, args, below, meth, c, nL, Q⟩ := Z
  exact fun H locs ls hP hS hl => lv_astoreN X.1 X.2.1 d hl hn h2 (fun ls hl => kk H locs ls hP hS hl)
theorem g_astore_nN (X : gX Z B cc own) {k0 : Fin 4} {k : Nat} (hk : (k0 : Nat) = k) (d : decode cc pc = .ok (.astore_n k0, 1)) (L2 : List (Nat × Value)) (h2 : (k, Value.null) :: L.filter (fun q => !(q.1 == k) && !(q.1 + 1 == k && q.2.category == 2)) = L2) (hn : k < gnL Z) (kk : gG Z B n V (pc + 1) L2 st) : gG Z B n V pc L (Value.null :: st) := by
  obtain ⟨p, l, e, R, s, m, args, below, meth, c, nL, Q⟩ := Z
  exact fun H locs ls hP hS hl => lv_astore_nN X.1 X.2.1 d hk hl hn h2 (fun ls hl => kk H locs ls hP hS hl)
theorem g_lstore (X : gX Z B cc own) {k : Nat} {x : Int64} (d : decode cc pc = .ok (.lstore k, 2)) (L2 : List (Nat × Value)) (h2 : (k, Value.long x) :: L.filter (fun q => !(q.1 == k) && (!(q.1 == k + 1) && !(q.1 + 1 == k && q.2.category == 2))) = L2) (hn : k + 1 < gnL Z) (kk : gG Z B n V (pc + 2) L2 st) : gG Z B n V pc L (Value.long x :: st) := by
  obtain ⟨p, l, e, R, s, m, args, below, meth, c, nL, Q⟩ := Z
  exact fun H locs ls hP hS hl => lv_lstore X.1 X.2.1 d hl hn h2 (fun ls hl => kk H locs ls hP hS hl)
theorem g_lstore_n (X : gX Z B cc own) {k0 : Fin 4} {k : Nat} {x : Int64} (hk : (k0 : Nat) = k) (d : decode cc pc = .ok (.lstore_n k0, 1)) (L2 : List (Nat × Value)) (h2 : (k, Value.long x) :: L.filter (fun q => !(q.1 == k) && (!(q.1 == k + 1) && !(q.1 + 1 == k && q.2.category == 2))) = L2) (hn : k + 1 < gnL Z) (kk : gG Z B n V (pc + 1) L2 st) : gG Z B n V pc L (Value.long x :: st) := by
  obtain ⟨p, l, e, R, s, m, args, below, meth, c, nL, Q⟩ := Z
  exact fun H locs ls hP hS hl => lv_lstore_n X.1 X.2.1 d hk hl hn h2 (fun ls hl => kk H locs ls hP hS hl)
theorem g_iinc (X : gX Z B cc own) {k : Nat} {i : Int} {x : Int32} (j : Nat) (hj : L[j]? = some (k, .int x)) (v : Int32) (hv : x + Int32.ofInt i = v) (d : decode cc pc = .ok (.iinc k i, 3)) (L2 : List (Nat × Value)) (h2 : (k, Value.int v) :: L.filter (fun q => !(q.1 == k) && !(q.1 + 1 == k && q.2.category == 2)) = L2) (hn : k < gnL Z) (kk : gG Z B n V (pc + 3) L2 st) : gG Z B n V pc L st := by
  obtain ⟨p, l, e, R, s, m, args, below, meth, c, nL, Q⟩ := Z
  exact fun H locs ls hP hS hl => lv_iinc X.1 X.2.1 d hl (k := j) hj hv hn h2 (fun ls hl => kk H locs ls hP hS hl)
theorem g_icmp_eq (X : gX Z B cc own) {x y : Int32} {off : Int} (tgt : Nat) (h : (pc : Int) + off = (tgt : Int)) (d : decode cc pc = .ok (.if_icmp .eq off, 3)) (kt : x = y → gG Z B n V tgt L st) (kf : ¬ x = y → gG Z B n V (pc + 3) L st) : gG Z B n V pc L (.int y :: .int x :: st) := by
  obtain ⟨p, l, e, R, s, m, args, below, meth, c, nL, Q⟩ := Z
  exact fun H locs ls hP hS hl => lv_icmp_eq X.1 X.2.1 d h (fun q => kt q H locs ls hP hS hl) (fun q => kf q H locs ls hP hS hl)
theorem g_if_eq (X : gX Z B cc own) {x : Int32} {off : Int} (tgt : Nat) (h : (pc : Int) + off = (tgt : Int)) (d : decode cc pc = .ok (.ifCond .eq off, 3)) (kt : x = 0 → gG Z B n V tgt L st) (kf : ¬ x = 0 → gG Z B n V (pc + 3) L st) : gG Z B n V pc L (.int x :: st) := by
  obtain ⟨p, l, e, R, s, m, args, below, meth, c, nL, Q⟩ := Z
  exact fun H locs ls hP hS hl => lv_if_eq X.1 X.2.1 d h (fun q => kt q H locs ls hP hS hl) (fun q => kf q H locs ls hP hS hl)
theorem g_icmp_ne (X : gX Z B cc own) {x y : Int32} {off : Int} (tgt : Nat) (h : (pc : Int) + off = (tgt : Int)) (d : decode cc pc = .ok (.if_icmp .ne off, 3)) (kt : ¬ x = y → gG Z B n V tgt L st) (kf : x = y → gG Z B n V (pc + 3) L st) : gG Z B n V pc L (.int y :: .int x :: st) := by
  obtain ⟨p, l, e, R, s, m, args, below, meth, c, nL, Q⟩ := Z
  exact fun H locs ls hP hS hl => lv_icmp_ne X.1 X.2.1 d h (fun q => kt q H locs ls hP hS hl) (fun q => kf q H locs ls hP hS hl)
theorem g_if_ne (X : gX Z B cc own) {x : Int32} {off : Int} (tgt : Nat) (h : (pc : Int) + off = (tgt : Int)) (d : decode cc pc = .ok (.ifCond .ne off, 3)) (kt : ¬ x = 0 → gG Z B n V tgt L st) (kf : x = 0 → gG Z B n V (pc + 3) L st) : gG Z B n V pc L (.int x :: st) := by
  obtain ⟨p, l, e, R, s, m, args, below, meth, c, nL, Q⟩ := Z
  exact fun H locs ls hP hS hl => lv_if_ne X.1 X.2.1 d h (fun q => kt q H locs ls hP hS hl) (fun q => kf q H locs ls hP hS hl)
theorem g_icmp_lt (X : gX Z B cc own) {x y : Int32} {off : Int} (tgt : Nat) (h : (pc : Int) + off = (tgt : Int)) (d : decode cc pc = .ok (.if_icmp .lt off, 3)) (kt : x < y → gG Z B n V tgt L st) (kf : ¬ x < y → gG Z B n V (pc + 3) L st) : gG Z B n V pc L (.int y :: .int x :: st) := by
  obtain ⟨p, l, e, R, s, m, args, below, meth, c, nL, Q⟩ := Z
  exact fun H locs ls hP hS hl => lv_icmp_lt X.1 X.2.1 d h (fun q => kt q H locs ls hP hS hl) (fun q => kf q H locs ls hP hS hl)
theorem g_if_lt (X : gX Z B cc own) {x : Int32} {off : Int} (tgt : Nat) (h : (pc : Int) + off = (tgt : Int)) (d : decode cc pc = .ok (.ifCond .lt off, 3)) (kt : x < 0 → gG Z B n V tgt L st) (kf : ¬ x < 0 → gG Z B n V (pc + 3) L st) : gG Z B n V pc L (.int x :: st) := by
  obtain ⟨p, l, e, R, s, m, args, below, meth, c, nL, Q⟩ := Z
  exact fun H locs ls hP hS hl => lv_if_lt X.1 X.2.1 d h (fun q => kt q H locs ls hP hS hl) (fun q => kf q H locs ls hP hS hl)
theorem g_icmp_ge (X : gX Z B cc own) {x y : Int32} {off : Int} (tgt : Nat) (h : (pc : Int) + off = (tgt : Int)) (d : decode cc pc = .ok (.if_icmp .ge off, 3)) (kt : y ≤ x → gG Z B n V tgt L st) (kf : ¬ y ≤ x → gG Z B n V (pc + 3) L st) : gG Z B n V pc L (.int y :: .int x :: st) := by
  obtain ⟨p, l, e, R, s, m, args, below, meth, c, nL, Q⟩ := Z
  exact fun H locs ls hP hS hl => lv_icmp_ge X.1 X.2.1 d h (fun q => kt q H locs ls hP hS hl) (fun q => kf q H locs ls hP hS hl)
theorem g_if_ge (X : gX Z B cc own) {x : Int32} {off : Int} (tgt : Nat) (h : (pc : Int) + off = (tgt : Int)) (d : decode cc pc = .ok (.ifCond .ge off, 3)) (kt : 0 ≤ x → gG Z B n V tgt L st) (kf : ¬ 0 ≤ x → gG Z B n V (pc + 3) L st) : gG Z B n V pc L (.int x :: st) := by
  obtain ⟨p, l, e, R, s, m, args, below, meth, c, nL, Q⟩ := Z
  exact fun H locs ls hP hS hl => lv_if_ge X.1 X.2.1 d h (fun q => kt q H locs ls hP hS hl) (fun q => kf q H locs ls hP hS hl)
theorem g_icmp_gt (X : gX Z B cc own) {x y : Int32} {off : Int} (tgt : Nat) (h : (pc : Int) + off = (tgt : Int)) (d : decode cc pc = .ok (.if_icmp .gt off, 3)) (kt : y < x → gG Z B n V tgt L st) (kf : ¬ y < x → gG Z B n V (pc + 3) L st) : gG Z B n V pc L (.int y :: .int x :: st) := by
  obtain ⟨p, l, e, R, s, m, args, below, meth, c, nL, Q⟩ := Z
  exact fun H locs ls hP hS hl => lv_icmp_gt X.1 X.2.1 d h (fun q => kt q H locs ls hP hS hl) (fun q => kf q H locs ls hP hS hl)
theorem g_if_gt (X : gX Z B cc own) {x : Int32} {off : Int} (tgt : Nat) (h : (pc : Int) + off = (tgt : Int)) (d : decode cc pc = .ok (.ifCond .gt off, 3)) (kt : 0 < x → gG Z B n V tgt L st) (kf : ¬ 0 < x → gG Z B n V (pc + 3) L st) : gG Z B n V pc L (.int x :: st) := by
  obtain ⟨p, l, e, R, s, m, args, below, meth, c, nL, Q⟩ := Z
  exact fun H locs ls hP hS hl => lv_if_gt X.1 X.2.1 d h (fun q => kt q H locs ls hP hS hl) (fun q => kf q H locs ls hP hS hl)
theorem g_icmp_le (X : gX Z B cc own) {x y : Int32} {off : Int} (tgt : Nat) (h : (pc : Int) + off = (tgt : Int)) (d : decode cc pc = .ok (.if_icmp .le off, 3)) (kt : x ≤ y → gG Z B n V tgt L st) (kf : ¬ x ≤ y → gG Z B n V (pc + 3) L st) : gG Z B n V pc L (.int y :: .int x :: st) := by
  obtain ⟨p, l, e, R, s, m, args, below, meth, c, nL, Q⟩ := Z
  exact fun H locs ls hP hS hl => lv_icmp_le X.1 X.2.1 d h (fun q => kt q H locs ls hP hS hl) (fun q => kf q H locs ls hP hS hl)
theorem g_if_le (X : gX Z B cc own) {x : Int32} {off : Int} (tgt : Nat) (h : (pc : Int) + off = (tgt : Int)) (d : decode cc pc = .ok (.ifCond .le off, 3)) (kt : x ≤ 0 → gG Z B n V tgt L st) (kf : ¬ x ≤ 0 → gG Z B n V (pc + 3) L st) : gG Z B n V pc L (.int x :: st) := by
  obtain ⟨p, l, e, R, s, m, args, below, meth, c, nL, Q⟩ := Z
  exact fun H locs ls hP hS hl => lv_if_le X.1 X.2.1 d h (fun q => kt q H locs ls hP hS hl) (fun q => kf q H locs ls hP hS hl)
theorem g_tableIn (X : gX Z B cc own) {dflt lo hi : Int} {offs : Array Int} {len : Nat} {x : Int32} (off : Int) (tgt : Nat) (h1 : ¬ x.toInt < lo) (h2 : ¬ hi < x.toInt) (ho : offs[(x.toInt - lo).toNat]? = some off) (ht : (pc : Int) + off = (tgt : Int)) (d : decode cc pc = .ok (.tableswitch dflt lo hi offs, len)) (kk : gG Z B n V tgt L st) : gG Z B n V pc L (.int x :: st) := by
  obtain ⟨p, l, e, R, s, m, args, below, meth, c, nL, Q⟩ := Z
  exact fun H locs ls hP hS hl => lv_tableIn X.1 X.2.1 d h1 h2 ho ht (kk H locs ls hP hS hl)
theorem g_tableOut (X : gX Z B cc own) {dflt lo hi : Int} {offs : Array Int} {len : Nat} {x : Int32} (tgt : Nat) (h1 : x.toInt < lo ∨ hi < x.toInt) (ht : (pc : Int) + dflt = (tgt : Int)) (d : decode cc pc = .ok (.tableswitch dflt lo hi offs, len)) (kk : gG Z B n V tgt L st) : gG Z B n V pc L (.int x :: st) := by
  obtain ⟨p, l, e, R, s, m, args, below, meth, c, nL, Q⟩ := Z
  exact fun H locs ls hP hS hl => lv_tableOut X.1 X.2.1 d h1 ht (kk H locs ls hP hS hl)
theorem g_lookup (X : gX Z B cc own) {dflt : Int} {ps : Array (Int × Int)} {len : Nat} {x : Int32} (off : Int) (tgt : Nat) (hp : (ps.toList.zip (ps.toList.drop 1)).all (fun (a, next) => a.1 < next.1) = true) (ho : Op.lookupswitch.offset ps.toList dflt x.toInt = off) (ht : (pc : Int) + off = (tgt : Int)) (d : decode cc pc = .ok (.lookupswitch dflt ps, len)) (kk : gG Z B n V tgt L st) : gG Z B n V pc L (.int x :: st) := by
  obtain ⟨p, l, e, R, s, m, args, below, meth, c, nL, Q⟩ := Z
  exact fun H locs ls hP hS hl => lv_lookup X.1 X.2.1 d hp ho ht (kk H locs ls hP hS hl)
/-- a field link, plain or of a nest mate -/
def gFL (own : String) (idx : Nat) (C nm ds : String) : Prop := gW (.fieldLink own idx C nm ds) ∨ ∃ h, gW (.fieldLinkNest own idx C nm ds h)
theorem g_get (X : gX Z B cc own) {ci N : Nat} {C : String} {T : u_T} {K b i idx : Nat} {fs : List Value} {v : Value} (hc : vwCl[ci]? = some (C, T, N)) (hu : ∀ w ∈ u_ws C T N, gW w) (k : Nat) (hk : k < N) (hT : (T k).1 = C) (hp : gP K b i) (he : gE B K b i (V K b i) = .inr (ci, fs)) (hv : fs[k]? = some v) (hq : gFL own idx C (T k).2.1 (T k).2.2.1) (d : decode cc pc = .ok (.getfield idx, 3)) (kk : gG Z B n V (pc + 3) L (v :: st)) : gG Z B n V pc L (.ref (B.2.1 K b i) :: st) := by
  obtain ⟨p, l, e, R, s, m, args, below, meth, c, nL, Q⟩ := Z
  intro H locs ls hP hS hl
  obtain ⟨q0, -, hq0⟩ := gws_at B V hp
  rw [he] at hq0
  have hts : ∀ w ∈ u_ws C T N, w.before args s = true := fun w hw => X.2.2.2.2.1.1 w (hu w hw) args
  rcases hq with hq | ⟨h, hq⟩
  · exact va_get X.1 X.2.1 hts (fun w hw => hw) X.2.2.2.1 X.2.2.2.2.1.2 hP q0 hq0 hc k hk (X.2.2.2.2.1.1 _ hq args) (fun x hx => by rw [hT] at hx; exact hx) hv d (kk H locs ls hP hS hl)
  · exact va_getN X.1 X.2.1 hts (fun w hw => hw) X.2.2.2.1 X.2.2.2.2.1.2 hP q0 hq0 hc k hk (X.2.2.2.2.1.1 _ hq args) (fun x hx => by rw [hT] at hx; exact hx) hv d (kk H locs ls hP hS hl)
theorem g_put (X : gX Z B cc own) {ci N : Nat} {C : String} {T : u_T} {K b i idx : Nat} {fs : List Value} {x : Int32} {ty : FieldType} (hc : vwCl[ci]? = some (C, T, N)) (hu : ∀ w ∈ u_ws C T N, gW w) (ty0 : Nat → FieldType) (hty : ∀ k, k < N → parseFieldDescriptor (T k).2.2.1 = some (ty0 k)) (hnm : ∀ a, a < N → ∀ b, b < N → a ≠ b → (T a).2.1 ≠ (T b).2.1) (k : Nat) (hk : k < N) (hT : (T k).1 = C) (hfin : (T k).2.2.2 = false) (hd : parseFieldDescriptor (T k).2.2.1 = some ty) (hn : narrow ty (.int x) = .int x) (hfit : fits ty (.int x) = true) (hp : gP K b i) (he : gE B K b i (V K b i) = .inr (ci, fs)) (hl : k < fs.length) (hs : Sum.inr (ci, fs.set k (.int x)) = gE B K b i (upd (V K b i) k x)) (hq : gFL own idx C (T k).2.1 (T k).2.2.1) (d : decode cc pc = .ok (.putfield idx, 3)) (kk : gG Z B n (gup V K b i k x) (pc + 3) L st) : gG Z B n V pc L (.int x :: .ref (B.2.1 K b i) :: st) := by
  obtain ⟨p, l, e, R, s, m, args, below, meth, c, nL, Q⟩ := Z
  intro H locs ls hP hS hl9
  obtain ⟨q0, hk0, hq0⟩ := gws_at B V hp
  rw [he] at hq0
  have hts : ∀ w ∈ u_ws C T N, w.before args s = true := fun w hw => X.2.2.2.2.1.1 w (hu w hw) args
  have go : ∀ (H1 : Heap) (locs1 : List Loc), va_P B.1 vwCl ((gws B V).set q0 (B.2.1 K b i, .inr (ci, fs.set k (.int x)))) H1 → va_D (gA B s.heap.size) ((gws B V).set q0 (B.2.1 K b i, .inr (ci, fs.set k (.int x)))) → va_S (gA B s.heap.size) s.heap H1 locs1 → W p l e R s m args below meth c H1 locs1 n.1 n.2 Q (F0 m (pc + 3) ls st) := by
    intro H1 locs1 hP1 _ hS1
    rw [gws_set k x hk0 hs] at hP1
    exact kk H1 locs1 ls hP1 hS1 hl9
  rcases hq with hq | ⟨h, hq⟩
  · exact va_put X.1 X.2.1 hts (fun w hw => hw) ty0 hty hnm X.2.2.2.1 X.2.2.2.2.1.2 hP (gws_D V _ X.2.2.2.2.2.1) hS q0 hq0 hc k hk (X.2.2.2.2.1.1 _ hq args) (fun x hx => by rw [hT] at hx; exact hx) hfin hd hn hfit hl d go
  · exact va_putN X.1 X.2.1 hts (fun w hw => hw) ty0 hty hnm X.2.2.2.1 X.2.2.2.2.1.2 hP (gws_D V _ X.2.2.2.2.2.1) hS q0 hq0 hc k hk (X.2.2.2.2.1.1 _ hq args) (fun x hx => by rw [hT] at hx; exact hx) hfin hd hn hfit hl d go
theorem g_ialdX (X : gX Z B cc own) {K b i N : Nat} {x : Int32} (hp : (K, b, i) ∈ gPX B) (he : gE B K b i (V K b i) = .inl (B.2.2.1.1, N, .inl (V K b i))) (hin : vp_in x N) (d : decode cc pc = .ok (.iaload, 1)) (kk : gG Z B n V (pc + 1) L (.int (V K b i x.toNatClampNeg) :: st)) : gG Z B n V pc L (.int x :: .ref (B.2.1 K b i) :: st) := by
  obtain ⟨p, l, e, R, s, m, args, below, meth, c, nL, Q⟩ := Z
  intro H locs ls hP hS hl
  obtain ⟨q0, -, hq0⟩ := gws_atX B V hp
  rw [he] at hq0
  exact va_iald X.1 X.2.1 X.2.2.2.2.1.2 hP q0 0 hq0 rfl hin d (kk H locs ls hP hS hl)
theorem g_iastX (X : gX Z B cc own) {K b i N : Nat} {x v : Int32} (hp : (K, b, i) ∈ gPX B) (he : ∀ f, gE B K b i f = .inl (B.2.2.1.1, N, .inl f)) (hin : vp_in x N) (d : decode cc pc = .ok (.iastore, 1)) (kk : gG Z B n (gup V K b i x.toNatClampNeg v) (pc + 1) L st) : gG Z B n V pc L (.int v :: .int x :: .ref (B.2.1 K b i) :: st) := by
  obtain ⟨p, l, e, R, s, m, args, below, meth, c, nL, Q⟩ := Z
  intro H locs ls hP hS hl
  obtain ⟨q0, hk0, hq0⟩ := gws_atX B V hp
  rw [he] at hq0
  refine va_iast X.1 X.2.1 X.2.2.2.2.1.2 hP (gws_D V _ X.2.2.2.2.2.1) hS q0 0 hq0 rfl hin d (fun H1 locs1 hP1 _ hS1 => ?_)
  rw [gws_set x.toNatClampNeg v hk0 (he _).symm] at hP1
  exact kk H1 locs1 ls hP1 hS1 hl
theorem g_ialdNX (X : gX Z B cc own) {K b i N : Nat} {x : Int32} (j : Nat) (hx : x = nI j) (hj : j < N) (hN : N < 2 ^ 31) (hp : (K, b, i) ∈ gPX B) (he : gE B K b i (V K b i) = .inl (B.2.2.1.1, N, .inl (V K b i))) (d : decode cc pc = .ok (.iaload, 1)) (kk : gG Z B n V (pc + 1) L (.int (V K b i j) :: st)) : gG Z B n V pc L (.int x :: .ref (B.2.1 K b i) :: st) := by
  subst hx
  refine g_ialdX X hp he (vp_in_nI hj hN) d ?_
  rw [nI_clamp (by omega)]
  exact kk
theorem g_iastNX (X : gX Z B cc own) {K b i N : Nat} {x v : Int32} (j : Nat) (hx : x = nI j) (hj : j < N) (hN : N < 2 ^ 31) (hp : (K, b, i) ∈ gPX B) (he : ∀ f, gE B K b i f = .inl (B.2.2.1.1, N, .inl f)) (d : decode cc pc = .ok (.iastore, 1)) (kk : gG Z B n (gup V K b i j v) (pc + 1) L st) : gG Z B n V pc L (.int v :: .int x :: .ref (B.2.1 K b i) :: st) := by
  subst hx
  refine g_iastX X hp he (vp_in_nI hj hN) d ?_
  rw [nI_clamp (by omega)]
  exact kk
theorem g_ialdN (X : gX Z B cc own) {K b i N : Nat} {x : Int32} (j : Nat) (hx : x = nI j) (hj : j < N) (hN : N < 2 ^ 31) (hp : gP K b i) (he : gE B K b i (V K b i) = .inl (B.2.2.1.1, N, .inl (V K b i))) (d : decode cc pc = .ok (.iaload, 1)) (kk : gG Z B n V (pc + 1) L (.int (V K b i j) :: st)) : gG Z B n V pc L (.int x :: .ref (B.2.1 K b i) :: st) := g_ialdNX X j hx hj hN (gPX_in hp) he d kk
theorem g_iastN (X : gX Z B cc own) {K b i N : Nat} {x v : Int32} (j : Nat) (hx : x = nI j) (hj : j < N) (hN : N < 2 ^ 31) (hp : gP K b i) (he : ∀ f, gE B K b i f = .inl (B.2.2.1.1, N, .inl f)) (d : decode cc pc = .ok (.iastore, 1)) (kk : gG Z B n (gup V K b i j v) (pc + 1) L st) : gG Z B n V pc L (.int v :: .int x :: .ref (B.2.1 K b i) :: st) := g_iastNX X j hx hj hN (gPX_in hp) he d kk
theorem g_alen (X : gX Z B cc own) {K b i N : Nat} {v : Int32} (hp : gP K b i) (he : gE B K b i (V K b i) = .inl (B.2.2.1.1, N, .inl (V K b i))) (hv : Int32.ofNat N = v) (d : decode cc pc = .ok (.arraylength, 1)) (kk : gG Z B n V (pc + 1) L (.int v :: st)) : gG Z B n V pc L (.ref (B.2.1 K b i) :: st) := by
  obtain ⟨p, l, e, R, s, m, args, below, meth, c, nL, Q⟩ := Z
  intro H locs ls hP hS hl
  obtain ⟨q0, -, hq0⟩ := gws_at B V hp
  rw [he] at hq0
  exact va_alen X.1 X.2.1 X.2.2.2.2.1.2 hP q0 0 hq0 rfl hv d (kk H locs ls hP hS hl)
/-- the carts' own array -/
theorem g_alenC (X : gX Z B cc own) {b : Nat} (hb : b < 3) (d : decode cc pc = .ok (.arraylength, 1)) (kk : gG Z B n V (pc + 1) L (.int 16 :: st)) : gG Z B n V pc L (.ref (B.2.1 11 b 0) :: st) := by
  obtain ⟨p, l, e, R, s, m, args, below, meth, c, nL, Q⟩ := Z
  intro H locs ls hP hS hl
  obtain ⟨q0, -, hq0⟩ := gws_at B V (K := 11) (b := b) (i := 0) ⟨hb, Nat.zero_lt_one⟩
  exact va_alen X.1 X.2.1 X.2.2.2.2.1.2 hP q0 1 hq0 rfl (v := 16) rfl d (kk H locs ls hP hS hl)
theorem g_aaldC (X : gX Z B cc own) {b : Nat} {x : Int32} (j : Nat) (hx : x = nI j) (hj : j < 16) (hb : b < 3) (d : decode cc pc = .ok (.aaload, 1)) (kk : gG Z B n V (pc + 1) L (.ref (B.2.1 15 b j) :: st)) : gG Z B n V pc L (.int x :: .ref (B.2.1 11 b 0) :: st) := by
  obtain ⟨p, l, e, R, s, m, args, below, meth, c, nL, Q⟩ := Z
  intro H locs ls hP hS hl
  subst hx
  obtain ⟨q0, -, hq0⟩ := gws_at B V (K := 11) (b := b) (i := 0) ⟨hb, Nat.zero_lt_one⟩
  refine va_aldq X.1 X.2.1 X.2.2.2.2.1.2 hP q0 1 hq0 rfl (vp_in_nI hj (by decide)) d ?_
  rw [nI_clamp (by omega)]
  exact kk H locs ls hP hS hl
/-! ends -/
theorem g_iret {rm : Room} {post : Option Value → gMem → Prop} (X : gX Z B cc own) (F : gF Z B rm (some .int) post) {v : Int32} (hp : post (some (.int v)) V) (hn : n = (rm.cells, rm.slots)) (d : decode cc pc = .ok (.ireturn, 1)) : gG Z B n V pc L [.int v] := by
  obtain ⟨p, l, e, R, s, m, args, below, meth, c, nL, Q⟩ := Z
  obtain ⟨h1, h2, h3⟩ := F
  subst h3; subst hn
  intro H locs ls hP hS hl
  exact W.iret X.1 X.2.1 h2 (fun t ht hW => ⟨⟨_, V, rfl, hp, by rw [ht]; exact hP⟩, hS.F ht⟩) hS.2.2 d X.2.2.2.2.2.2
theorem g_zret {rm : Room} {post : Option Value → gMem → Prop} (X : gX Z B cc own) (F : gF Z B rm (some .boolean) post) {v : Int32} (hb : narrow .boolean (.int v) = .int v) (hp : post (some (.int v)) V) (hn : n = (rm.cells, rm.slots)) (d : decode cc pc = .ok (.ireturn, 1)) : gG Z B n V pc L [.int v] := by
  obtain ⟨p, l, e, R, s, m, args, below, meth, c, nL, Q⟩ := Z
  obtain ⟨h1, h2, h3⟩ := F
  subst h3; subst hn
  intro H locs ls hP hS hl
  exact W.zret X.1 X.2.1 h2 hb (fun t ht hW => ⟨⟨_, V, rfl, hp, by rw [ht]; exact hP⟩, hS.F ht⟩) hS.2.2 d X.2.2.2.2.2.2
theorem g_lret {rm : Room} {post : Option Value → gMem → Prop} (X : gX Z B cc own) (F : gF Z B rm (some .long) post) {v : Int64} (hp : post (some (.long v)) V) (hn : n = (rm.cells, rm.slots)) (d : decode cc pc = .ok (.lreturn, 1)) : gG Z B n V pc L [.long v] := by
  obtain ⟨p, l, e, R, s, m, args, below, meth, c, nL, Q⟩ := Z
  obtain ⟨h1, h2, h3⟩ := F
  subst h3; subst hn
  intro H locs ls hP hS hl
  exact W.lret X.1 X.2.1 h2 (fun t ht hW => ⟨⟨_, V, rfl, hp, by rw [ht]; exact hP⟩, hS.F ht⟩) hS.2.2 d X.2.2.2.2.2.2
theorem g_vret {rm : Room} {post : Option Value → gMem → Prop} (X : gX Z B cc own) (F : gF Z B rm none post) (hp : post none V) (hn : n = (rm.cells, rm.slots)) (d : decode cc pc = .ok (.return_, 1)) : gG Z B n V pc L [] := by
  obtain ⟨p, l, e, R, s, m, args, below, meth, c, nL, Q⟩ := Z
  obtain ⟨h1, h2, h3⟩ := F
  subst h3; subst hn
  intro H locs ls hP hS hl
  exact W.vret X.1 X.2.1 h2 (fun t ht hW => ⟨⟨_, V, rfl, hp, by rw [ht]; exact hP⟩, hS.F ht⟩) hS.2.2 d X.2.2.2.2.2.2
theorem g_aret {rm : Room} {post : Option Value → gMem → Prop} {t0 : String} (X : gX Z B cc own) (F : gF Z B rm (some (.object t0)) post) {v : Value} (hv : v = .null ∨ ∃ a, v = .ref a) (hp : post (some v) V) (hn : n = (rm.cells, rm.slots)) (d : decode cc pc = .ok (.areturn, 1)) : gG Z B n V pc L [v] := by
  obtain ⟨p, l, e, R, s, m, args, below, meth, c, nL, Q⟩ := Z
  obtain ⟨h1, h2, h3⟩ := F
  subst h3; subst hn
  intro H locs ls hP hS hl
  exact W.aret X.1 X.2.1 h2 (Or.inl ⟨_, rfl⟩) hv (fun t ht hW => ⟨⟨_, V, rfl, hp, by rw [ht]; exact hP⟩, hS.F ht⟩) hS.2.2 d X.2.2.2.2.2.2
/-! calls -/
/-- what a callee's tables say: an instance method, selected in its own class -/
def gCV (y : MethodName) (bc : ByteArray) (mL : Nat) (ret : Option FieldType) (k : Nat) : Prop := gW (.instanceMethod y) ∧ gW (.selects y.cls y y) ∧ gW (.code y bc mL ret) ∧ gW (.initialized y.cls) ∧ (y.cls ≠ "java/lang/invoke/MethodHandle" ∧ y.cls ≠ "java/lang/invoke/VarHandle") ∧ (parseMethodDescriptor y.desc).map (fun d => d.parameters.length) = some k
def gCS (y : MethodName) (bc : ByteArray) (mL : Nat) (ret : Option FieldType) (k : Nat) : Prop := gW (.static y) ∧ gW (.code y bc mL ret) ∧ gW (.initialized y.cls) ∧ (y.cls ≠ "java/lang/invoke/MethodHandle" ∧ y.cls ≠ "java/lang/invoke/VarHandle") ∧ (parseMethodDescriptor y.desc).map (fun d => d.parameters.length) = some k
def gML (own : String) (idx : Nat) (y : MethodName) : Prop := gW (.methodLink own idx y) ∨ ∃ h, gW (.methodLinkNest own idx y h)
theorem gPc_blind {B : gB} {V : gMem} {av : List Value} {sz : Nat} : FrameBlind (va_Pc av (fun U => U.heap.size = sz ∧ va_P B.1 vwCl (gws B V) U.heap ∧ gS B U)) := by
  intro a U g mk q
  obtain ⟨q0, q1, q2, q3⟩ := q
  exact ⟨q0, q1, q2, gS.same (s := U) (U := U.calling g mk a) rfl q3⟩
theorem gar {y : MethodName} {k : Nat} (h : (parseMethodDescriptor y.desc).map (fun d => d.parameters.length) = some k) : ∀ sig, parseMethodDescriptor y.desc = some sig → k = sig.parameters.length := by
  intro sig h2
  rw [h2] at h
  exact (Option.some.inj h).symm
theorem g_after {p : Program} {l : Launch} {e : Env} {R : Room} {s : State} {m : MethodId} {args : Array Value} {below : List Frame} {meth : Method} {c : Code} {nL : Nat} {Q : State → Prop} {rm : Room} {post : Option Value → gMem → Prop} {rest st0 : List Value} {a : Array Value} {H : Heap} {locs : List Loc} {ls : Array Slot} (hr : va_Run p l e R s m args below meth c H locs n.1 n.2 rm.cells rm.slots (F0 m pc ls st0) rest (gQ B post H.size a) (gA B H.size)) (hS : va_S (gA B s.heap.size) s.heap H locs) (hl : lv_has ls nL L)
    (kk : ∀ (v : Option Value) (V' : gMem), post v V' → gG (p, l, e, R, s, m, args, below, meth, c, nL, Q) B (n.1 + rm.cells, n.2 + rm.slots) V' (pc + 3) L (v.toList ++ rest)) : W p l e R s m args below meth c H locs n.1 n.2 Q (F0 m pc ls st0) := by
  have hA : ∀ q, gA B H.size q → gA B s.heap.size q := fun q h => h.elim (fun h => Or.inl h) (fun h => Or.inr (Nat.le_trans hS.1 h))
  intro T hT X
  obtain ⟨v, st₀, t, T', L0, h0, X', hL, e1, e2, ⟨⟨v2, V', hv, hp, hP'⟩, hz, hk⟩, st⟩ := hr T hT X
  cases hv
  rw [h0] at hz hk
  have hS' : va_S (gA B s.heap.size) s.heap T'.heap (locs ++ L0) := ⟨Nat.le_trans hS.1 (by rw [e1]; exact hz), fun q h1 h2 => by rw [e1, hk q (Nat.lt_of_lt_of_le h1 hS.1) (fun z => h2 (hA q z))]; exact hS.2.1 q h1 h2, fun q hq => by
      rcases List.mem_append.mp hq with h | h
      · exact hS.2.2 q h
      · exact hA _ (hL q h)⟩
  obtain ⟨t2, a1, b1⟩ := kk v V' hp T'.heap (locs ++ L0) ls (by rw [e1]; exact hP') hS' hl T' rfl X'
  exact ⟨t2, st t2 a1, b1⟩
theorem g_callV (X : gX Z B cc own) {rmZ rm : Room} (hR : gRm Z = rmZ) {y : MethodName} {bc : ByteArray} {mL idx : Nat} {ret : Option FieldType} {K b i ci : Nat} {fs : List Value} {q : vw_C} {As rest st0 : List Value} {post : Option Value → gMem → Prop} {k : Nat} (hC : gCV y bc mL ret k) (hL : gML own idx y) (hM : gM (gl Z) B y bc mL ret rm (.ref (B.2.1 K b i) :: As) V post) (hk : As.length = k) (hst : st0 = As.reverse ++ .ref (B.2.1 K b i) :: rest) (hcat : (rest.map fun v => v.category).sum ≤ 8) (hp : gP K b i) (he : gE B K b i (V K b i) = .inr (ci, fs)) (hc : vwCl[ci]? = some q) (hq : q.1 = y.cls)
    (hroom : rm.frames + 1 ≤ rmZ.frames ∧ 8 + (mL + 11) + rm.locals ≤ rmZ.locals ∧ n.1 + rm.cells ≤ rmZ.cells ∧ n.2 + rm.slots ≤ rmZ.slots) (d : decode cc pc = .ok (.invokevirtual idx, 3))
    (kk : ∀ (v : Option Value) (V' : gMem), post v V' → gG Z B (n.1 + rm.cells, n.2 + rm.slots) V' (pc + 3) L (v.toList ++ rest)) : gG Z B n V pc L st0 := by
  obtain ⟨p, l, e, R, s, m, args, below, meth, c, nL, Q⟩ := Z
  subst hR; subst hst
  intro H locs ls hP hS hl
  obtain ⟨hx, hb, hml, hown, hs, hI, hlk⟩ := X
  obtain ⟨c1, c2, c3, c4, c5, c6⟩ := hC
  obtain ⟨q0, -, hq0⟩ := gws_at B V hp
  rw [he] at hq0
  have hws : ∀ w ∈ ([.code y bc mL ret] : List Cond), ∀ (a' : Array Value) (U : State), s.WarmedH U.vm → w.before a' U = true := by
    intro w hw a' U hW
    rw [List.mem_singleton.mp hw]
    exact hs.1.warm hW _ c3 a'
  have hrecv := va_recv hs.2 hP hc hq0
  rw [hq] at hrecv
  have hpre : PreV s H y.cls (B.2.1 K b i) (va_Pc (.ref (B.2.1 K b i) :: As) (fun U => U.heap.size = H.size ∧ va_P B.1 vwCl (gws B V) U.heap ∧ gS B U)) As := ⟨gPc_blind, hrecv, fun U hU hW => ⟨rfl, by rw [hU], by rw [hU]; exact hP, hs.warm hW⟩⟩
  have run : va_Run p l e R s m args below meth c H locs n.1 n.2 rm.cells rm.slots (F0 m pc ls (As.reverse ++ .ref (B.2.1 K b i) :: rest)) rest (gQ B post H.size (Value.ref (B.2.1 K b i) :: As).toArray) (gA B H.size) := by
    rcases hL with hL | ⟨h, hL⟩
    · exact va_runV (C := y.cls) (own := own) (Ts := []) (nL := nL) ⟨hx, hb, hml, hown, fun w hw => absurd hw List.not_mem_nil⟩ (hM H.size) ⟨⟨rfl, rfl, hroom.1, hroom.2.1, hws, List.mem_singleton.mpr rfl, hs.1 _ c3 _, hs.1 _ c4 _, c5, gar c6, hs.1 _ hL _⟩, hs.1 _ c1 _, hs.1 _ c2 _⟩ hpre rfl hk hl.1 rfl (lv_room hcat) d hroom.2.2
    · exact va_runVN (C := y.cls) (own := own) (Ts := []) (nL := nL) ⟨hx, hb, hml, hown, fun w hw => absurd hw List.not_mem_nil⟩ (hM H.size) ⟨⟨⟨rfl, rfl, hroom.1, hroom.2.1, hws, List.mem_singleton.mpr rfl⟩, hs.1 _ c3 _, hs.1 _ c4 _, c5, gar c6, hs.1 _ hL _⟩, hs.1 _ c1 _, hs.1 _ c2 _⟩ hpre rfl hk hl.1 rfl (lv_room hcat) d hroom.2.2
  exact g_after run hS hl kk
theorem g_callS (X : gX Z B cc own) {rmZ rm : Room} (hR : gRm Z = rmZ) {y : MethodName} {bc : ByteArray} {mL idx : Nat} {ret : Option FieldType} {As rest st0 : List Value} {post : Option Value → gMem → Prop} {k : Nat} (hC : gCS y bc mL ret k) (hL : gML own idx y) (hM : gM (gl Z) B y bc mL ret rm As V post) (hk : As.length = k) (hst : st0 = As.reverse ++ rest) (hcat : (rest.map fun v => v.category).sum ≤ 8)
    (hroom : rm.frames + 1 ≤ rmZ.frames ∧ 8 + (mL + 11) + rm.locals ≤ rmZ.locals ∧ n.1 + rm.cells ≤ rmZ.cells ∧ n.2 + rm.slots ≤ rmZ.slots) (d : decode cc pc = .ok (.invokestatic idx, 3))
    (kk : ∀ (v : Option Value) (V' : gMem), post v V' → gG Z B (n.1 + rm.cells, n.2 + rm.slots) V' (pc + 3) L (v.toList ++ rest)) : gG Z B n V pc L st0 := by
  obtain ⟨p, l, e, R, s, m, args, below, meth, c, nL, Q⟩ := Z
  subst hR; subst hst
  intro H locs ls hP hS hl
  obtain ⟨hx, hb, hml, hown, hs, hI, hlk⟩ := X
  obtain ⟨c1, c3, c4, c5, c6⟩ := hC
  have hws : ∀ w ∈ ([.code y bc mL ret] : List Cond), ∀ (a' : Array Value) (U : State), s.WarmedH U.vm → w.before a' U = true := by
    intro w hw a' U hW
    rw [List.mem_singleton.mp hw]
    exact hs.1.warm hW _ c3 a'
  have hpre : PreS s H (va_Pc As (fun U => U.heap.size = H.size ∧ va_P B.1 vwCl (gws B V) U.heap ∧ gS B U)) As := ⟨gPc_blind, fun U hU hW => ⟨rfl, by rw [hU], by rw [hU]; exact hP, hs.warm hW⟩⟩
  have run : va_Run p l e R s m args below meth c H locs n.1 n.2 rm.cells rm.slots (F0 m pc ls (As.reverse ++ rest)) rest (gQ B post H.size As.toArray) (gA B H.size) := by
    rcases hL with hL | ⟨h, hL⟩
    · exact va_runS (own := own) (Ts := []) (nL := nL) ⟨hx, hb, hml, hown, fun w hw => absurd hw List.not_mem_nil⟩ (hM H.size) ⟨⟨rfl, rfl, hroom.1, hroom.2.1, hws, List.mem_singleton.mpr rfl, hs.1 _ c3 _, hs.1 _ c4 _, c5, gar c6, hs.1 _ hL _⟩, hs.1 _ c1 _⟩ hpre rfl hk hl.1 rfl (lv_room hcat) d hroom.2.2
    · exact va_runSN (own := own) (Ts := []) (nL := nL) ⟨hx, hb, hml, hown, fun w hw => absurd hw List.not_mem_nil⟩ (hM H.size) ⟨⟨⟨rfl, rfl, hroom.1, hroom.2.1, hws, List.mem_singleton.mpr rfl⟩, hs.1 _ c3 _, hs.1 _ c4 _, c5, gar c6, hs.1 _ hL _⟩, hs.1 _ c1 _, trivial⟩ hpre rfl hk hl.1 rfl (lv_room hcat) d hroom.2.2
  exact g_after run hS hl kk
theorem g_min (X : gX Z B cc own) {rmZ : Room} (hR : gRm Z = rmZ) {idx : Nat} {x y : Int32} (hl : gW (.methodLink own idx Lib.Math.min.name)) (hroom : 1 ≤ rmZ.frames ∧ 21 ≤ rmZ.locals ∧ n.1 ≤ rmZ.cells ∧ n.2 ≤ rmZ.slots) (hcat : (st.map fun v => v.category).sum ≤ 8) (d : decode cc pc = .ok (.invokestatic idx, 3)) (kk : gG Z B n V (pc + 3) L (.int (if y < x then y else x) :: st)) : gG Z B n V pc L (.int y :: .int x :: st) := by
  obtain ⟨p, l, e, R, s, m, args, below, meth, c, nL, Q⟩ := Z
  subst hR
  intro H locs ls hP hS hl9
  have hml : c.maxLocals = ls.size := X.2.2.1.trans hl9.1.symm
  exact va_mmin X.1 X.2.1 hml X.2.2.2.1 (X.2.2.2.2.1.1 _ hl _) (X.2.2.2.2.1.1 _ qTm_min _) (X.2.2.2.2.1.1 _ qNm_math _) (X.2.2.2.2.1.1 _ qCm_min _) hroom.1 (by have := hroom.2.1; show _ + 13 ≤ R.locals; have h9 : 21 ≤ R.locals := this; omega) hroom.2.2.1 hroom.2.2.2 d (kk H locs ls hP hS hl9)
theorem g_max (X : gX Z B cc own) {rmZ : Room} (hR : gRm Z = rmZ) {idx : Nat} {x y : Int32} (hl : gW (.methodLink own idx Lib.Math.max.name)) (hroom : 1 ≤ rmZ.frames ∧ 21 ≤ rmZ.locals ∧ n.1 ≤ rmZ.cells ∧ n.2 ≤ rmZ.slots) (hcat : (st.map fun v => v.category).sum ≤ 8) (d : decode cc pc = .ok (.invokestatic idx, 3)) (kk : gG Z B n V (pc + 3) L (.int (if x < y then y else x) :: st)) : gG Z B n V pc L (.int y :: .int x :: st) := by
  obtain ⟨p, l, e, R, s, m, args, below, meth, c, nL, Q⟩ := Z
  subst hR
  intro H locs ls hP hS hl9
  have hml : c.maxLocals = ls.size := X.2.2.1.trans hl9.1.symm
  exact va_mmax X.1 X.2.1 hml X.2.2.2.1 (X.2.2.2.2.1.1 _ hl _) (X.2.2.2.2.1.1 _ qTm_max _) (X.2.2.2.2.1.1 _ qNm_math _) (X.2.2.2.2.1.1 _ qCm_max _) hroom.1 (by have := hroom.2.1; show _ + 13 ≤ R.locals; have h9 : 21 ≤ R.locals := this; omega) hroom.2.2.1 hroom.2.2.2 d (kk H locs ls hP hS hl9)
/-! an array that the law makes for itself: place (29, k, 0), k as many as stand -/
def gBs (B : gB) (a : Nat) : gB := (B.1, fun K b i => if K = 29 ∧ b = B.2.2.2.2 then a else B.2.1 K b i, B.2.2.1, (B.2.2.2.1, B.2.2.2.2 + 1))
def gzf (V : gMem) (k : Nat) (f : Nat → Int32) : gMem := fun K b i => if K = 29 ∧ b = k ∧ i = 0 then f else V K b i
theorem gzf_at (V : gMem) (k : Nat) (f : Nat → Int32) : gzf V k f 29 k 0 = f := if_pos ⟨rfl, rfl, rfl⟩
theorem gzf_ne (V : gMem) {K b k i : Nat} (f : Nat → Int32) (h : ¬ (K = 29 ∧ b = k)) : gzf V k f K b i = V K b i := if_neg (fun q => h ⟨q.1, q.2.1⟩)
def gsz (Z : gZ) : Nat := Z.2.2.2.2.1.heap.size
theorem gE_s (B : gB) (a : Nat) (f : Nat → Int32) : ∀ {K b i : Nat}, gE (gBs B a) K b i f = gE B K b i f := fun {K b i} => match K with
  | 0 => rfl
  | 1 => rfl
  | 2 => rfl
  | 3 => rfl
  | 4 => rfl
  | 5 => rfl
  | 6 => rfl
  | 7 => rfl
  | 8 => rfl
  | 9 => rfl
  | 10 => rfl
  | 11 => rfl
  | 12 => rfl
  | 13 => rfl
  | 14 => rfl
  | 15 => rfl
  | K + 16 => rfl
theorem gPX_s {B : gB} {a : Nat} : gPX (gBs B a) = gPX B ++ [(29, B.2.2.2.2, 0)] := by
  unfold gPX
  show gPL ++ (List.range (B.2.2.2.2 + 1)).map _ = _
  rw [List.range_succ, List.map_append, ← List.append_assoc]
  rfl
theorem gBs_new (B : gB) (a i : Nat) : (gBs B a).2.1 29 B.2.2.2.2 i = a := if_pos ⟨rfl, rfl⟩
theorem gBs_off (B : gB) (a : Nat) {K b i : Nat} (h : ¬ (K = 29 ∧ b = B.2.2.2.2)) : (gBs B a).2.1 K b i = B.2.1 K b i := if_neg h
theorem gPX_lt {B : gB} {q : Nat × Nat × Nat} (h : q ∈ gPX B) : ¬ (q.1 = 29 ∧ q.2.1 = B.2.2.2.2) := by
  rintro ⟨h1, h2⟩
  rcases List.mem_append.mp h with h | h
  · exact absurd (gP_K (gPL_of h)) (by rw [h1]; decide)
  · obtain ⟨k, hk, rfl⟩ := List.mem_map.mp h
    exact absurd (List.mem_range.mp hk) (by simp only at h2; omega)
theorem gBs_ad {B : gB} {a : Nat} {q : Nat × Nat × Nat} (h : q ∈ gPX B) : (gBs B a).2.1 q.1 q.2.1 q.2.2 = B.2.1 q.1 q.2.1 q.2.2 := gBs_off B a (gPX_lt h)
theorem gws_s {B : gB} {a : Nat} {V V' : gMem} (hV : ∀ K b i, ¬ (K = 29 ∧ b = B.2.2.2.2) → V' K b i = V K b i) : gws (gBs B a) V' = gws B V ++ [(a, .inl (B.2.2.1.1, gLn B.2.2.2.2, .inl (V' 29 B.2.2.2.2 0)))] := by
  unfold gws
  rw [gPX_s, List.map_append]
  congr 1
  · refine List.map_congr_left (fun q hq => ?_)
    unfold gAt
    rw [gBs_ad hq, hV _ _ _ (gPX_lt hq), gE_s]
  · unfold gAt
    show [((gBs B a).2.1 29 B.2.2.2.2 0, gE (gBs B a) 29 B.2.2.2.2 0 (V' 29 B.2.2.2.2 0))] = _
    rw [gBs_new]
    rfl
theorem gA_s {B : gB} {a sz q : Nat} (h : gA B sz q) : gA (gBs B a) sz q := by
  rcases h with ⟨x, hx, e⟩ | h
  · exact Or.inl ⟨x, by rw [gPX_s]; exact List.mem_append_left _ hx, by rw [gBs_ad hx]; exact e⟩
  · exact Or.inr h
theorem gA_s' {B : gB} {a sz q : Nat} (ha : sz ≤ a) (h : gA (gBs B a) sz q) : gA B sz q := by
  rcases h with ⟨x, hx, e⟩ | h
  · rw [gPX_s] at hx
    rcases List.mem_append.mp hx with hx | hx
    · exact Or.inl ⟨x, hx, by rw [← gBs_ad hx]; exact e⟩
    · rw [List.mem_singleton.mp hx] at e
      exact Or.inr (by rw [e]; show sz ≤ (gBs B a).2.1 29 B.2.2.2.2 0; rw [gBs_new]; exact ha)
  · exact Or.inr h
theorem gI_of {B : gB} {V : gMem} {A : Nat → Prop} (h : va_D A (gws B V)) : gI B := by
  intro p hp q hq e
  obtain ⟨i, -, hi⟩ := gws_atX B V hp
  obtain ⟨j, -, hj⟩ := gws_atX B V hq
  have hij := h.1 i j _ _ hi hj e
  subst hij
  obtain ⟨k1, hk1, hk1'⟩ := gws_atX B V hp
  obtain ⟨k2, hk2, hk2'⟩ := gws_atX B V hq
  have e1 := h.1 k1 k2 _ _ hk1' hk2' e
  subst e1
  exact Option.some.inj (hk1.symm.trans hk2)
theorem gnew_ad {B : gB} {V : gMem} {sz q : Nat} {e : va_E} (hD1 : va_D (gA B sz) (gws B V ++ [(q, e)])) : sz ≤ q := by
  rcases hD1.2 (gws B V).length _ (by rw [List.getElem?_append_right (Nat.le_refl _), Nat.sub_self]; rfl) with ⟨y, hy, e⟩ | h
  · obtain ⟨k, hk, hk'⟩ := gws_atX B V hy
    have hkl := (List.getElem?_eq_some_iff.mp hk').1
    have := hD1.1 k (gws B V).length _ _ (by rw [List.getElem?_append_left hkl]; exact hk') (by rw [List.getElem?_append_right (Nat.le_refl _), Nat.sub_self]; rfl) e.symm
    omega
  · exact h
theorem g_newS (X : gX Z B cc own) {rmZ : Room} (hR : gRm Z = rmZ) {x : Int32} (N : Nat) (hx : x = nI N) (hN : gLn B.2.2.2.2 = N) (hNb : N < 1000) (hroom : n.1 + 1 ≤ rmZ.cells ∧ n.2 + N ≤ rmZ.slots) (d : decode cc pc = .ok (.newarray .int, 2)) (kk : ∀ a, gsz Z ≤ a → gX Z (gBs B a) cc own → gG Z (gBs B a) (n.1 + 1, n.2 + N) (gzf V B.2.2.2.2 (fun _ => 0)) (pc + 2) L (.ref a :: st)) : gG Z B n V pc L (.int x :: st) := by
  obtain ⟨p, l, e, R, s, m, args, below, meth, c, nL, Q⟩ := Z
  subst hR; subst hx
  intro H locs ls hP hS hl
  obtain ⟨hx, hb, hml, hown, hs, hI, hlk⟩ := X
  refine va_newa (atype := .int) (ty := .int) hx hb (hs.1 _ qA_int _) rfl hs.2 hP (gws_D V _ hI) hS (fun q h => Or.inr h) (n := nI N) (N' := N) (a0 := (N, .inl (fun _ => 0))) (fun cA => rfl) (nI_pos (by omega)) (nI_clamp (by omega)) (by show N * 4 ≤ 536870912; omega) hroom.1 hroom.2 d (fun q cA H1 hK1 hP1 hD1 hS1 => ?_)
  have hcA : cA = B.2.2.1.1 := by
    have r1 : s.vm.findClass _ = some cA := (hK1.2 2 (cA, .int) rfl).2
    have r2 : s.vm.findClass _ = some B.2.2.1.1 := (hK1.2 0 (B.2.2.1.1, .int) rfl).2
    exact Option.some.inj (r1.symm.trans r2)
  subst hcA
  have hsq : s.heap.size ≤ q := gnew_ad hD1
  have hw : gws (gBs B q) (gzf V B.2.2.2.2 (fun _ => 0)) = gws B V ++ [(q, .inl (B.2.2.1.1, N, .inl (fun _ => 0)))] := by
    rw [gws_s (fun K b i hK => gzf_ne V _ hK), gzf_at, hN]
  rw [← hw] at hP1 hD1
  exact kk q hsq ⟨hx, hb, hml, hown, hs, gI_of hD1, hlk⟩ H1 locs ls hP1 ⟨hS1.1, fun y h1 h2 => hS1.2.1 y h1 (fun z => h2 (gA_s z)), fun y hy => gA_s (hS1.2.2 y hy)⟩ hl
/-- a row's copy -/
def gCl (Z : gZ) : Prop := va_Nw (.castable "[I" "java/lang/Cloneable") Z.2.2.2.2.1
theorem g_clone (X : gX Z B cc own) (C : gCl Z) {rmZ : Room} (hR : gRm Z = rmZ) {k idx : Nat} (hk : k < B.2.2.2.2) (hN : gLn B.2.2.2.2 = gLn k)
    (hlink : gW (.methodLink own idx ⟨"[I", "clone", "()Ljava/lang/Object;"⟩)) (hsame : gW (.sameMethod "[I" "java/lang/Object" "clone" "()Ljava/lang/Object;")) (hnat : gW (.native ⟨"java/lang/Object", "clone", "()Ljava/lang/Object;"⟩)) (hinst : gW (.instanceMethod ⟨"java/lang/Object", "clone", "()Ljava/lang/Object;"⟩)) (hsel : gW (.selects "[I" ⟨"[I", "clone", "()Ljava/lang/Object;"⟩ ⟨"java/lang/Object", "clone", "()Ljava/lang/Object;"⟩))
    (hcat : (st.map fun v => v.category).sum ≤ 8) (hroom : 1 ≤ rmZ.frames ∧ 22 ≤ rmZ.locals ∧ n.1 + 1 ≤ rmZ.cells ∧ n.2 + gLn k ≤ rmZ.slots) (d : decode cc pc = .ok (.invokevirtual idx, 3))
    (kk : ∀ a, gsz Z ≤ a → gX Z (gBs B a) cc own → gG Z (gBs B a) (n.1 + 1, n.2 + gLn k) (gzf V B.2.2.2.2 (V 29 k 0)) (pc + 3) L (.ref a :: st)) : gG Z B n V pc L (.ref (B.2.1 29 k 0) :: st) := by
  obtain ⟨p, l, e, R, s, m, args, below, meth, c, nL, Q⟩ := Z
  subst hR
  intro H locs ls hP hS hl
  obtain ⟨hx, hb, hml, hown, hs, hI, hlk⟩ := X
  obtain ⟨q0, -, hq0⟩ := gws_atX B V (gPX_own hk)
  have hr := hs.1
  refine va_clone hx hb (hml.trans hl.1.symm) hown (hr _ hlink _) (hr _ hsame _) (hr _ hnat _) (hr _ hinst _) (hr _ hsel _) C hs.2 hP (gws_D V _ hI) hS (fun q h => Or.inr h) q0 0 (cA := B.2.2.1.1) (x := (gLn k, .inl (V 29 k 0))) (ty := .int) hq0 rfl (hs.2.2 0 (B.2.2.1.1, .int) rfl).2 (fun i v hv => ?_) hroom.1 (by have := hroom.2.1; show _ + 14 ≤ R.locals; have h9 : 22 ≤ R.locals := this; omega) hroom.2.2.1 hroom.2.2.2 d (fun q H1 hK1 hP1 hD1 hS1 => ?_)
  · have h1 : (arrV B.2.2.1.1 (gLn k) (fun j => .int (V 29 k 0 j))).slots[i]? = some v := hv
    have h2 := (Array.getElem?_eq_some_iff.mp h1).1
    have h3 : i < gLn k := by rw [arrV_size] at h2; exact h2
    have h4 : (arrV B.2.2.1.1 (gLn k) (fun j => .int (V 29 k 0 j))).slots[i]? = some (.int (V 29 k 0 i)) := by
      unfold arrV
      simp [h3]
    rw [h4] at h1
    rw [← Option.some.inj h1]
    rfl
  have hsq : s.heap.size ≤ q := gnew_ad hD1
  have hw : gws (gBs B q) (gzf V B.2.2.2.2 (V 29 k 0)) = gws B V ++ [(q, .inl (B.2.2.1.1, gLn k, .inl (V 29 k 0)))] := by
    rw [gws_s (fun K b i hK => gzf_ne V _ hK), gzf_at, hN]
  rw [← hw] at hP1 hD1
  exact kk q hsq ⟨hx, hb, hml, hown, hs, gI_of hD1, hlk⟩ H1 locs ls hP1 ⟨hS1.1, fun y h1 h2 => hS1.2.1 y h1 (fun z => h2 (gA_s z)), fun y hy => gA_s (hS1.2.2 y hy)⟩ hl
theorem g_castI (X : gX Z B cc own) {k idx : Nat} (hk : k < B.2.2.2.2) (hlink : gW (.classLink own idx "[I")) (d : decode cc pc = .ok (.checkcast idx, 3)) (kk : gG Z B n V (pc + 3) L (.ref (B.2.1 29 k 0) :: st)) : gG Z B n V pc L (.ref (B.2.1 29 k 0) :: st) := by
  obtain ⟨p, l, e, R, s, m, args, below, meth, c, nL, Q⟩ := Z
  intro H locs ls hP hS hl
  obtain ⟨hx, hb, hml, hown, hs, hI, hlk⟩ := X
  obtain ⟨q0, -, hq0⟩ := gws_atX B V (gPX_own hk)
  exact va_castA hx hb hown (hs.1 _ hlink _) hP q0 (cA := B.2.2.1.1) (x := (gLn k, .inl (V 29 k 0))) hq0 (hs.2.2 0 (B.2.2.1.1, .int) rfl).2 d (kk H locs ls hP hS hl)
/-- an own row's place -/
theorem g_oald (X : gX Z B cc own) {k : Nat} {x : Int32} (j : Nat) (hk : k < B.2.2.2.2) (hx : x = nI j) (hj : j < gLn k) (d : decode cc pc = .ok (.iaload, 1)) (kk : gG Z B n V (pc + 1) L (.int (V 29 k 0 j) :: st)) : gG Z B n V pc L (.int x :: .ref (B.2.1 29 k 0) :: st) := g_ialdNX X j hx hj (by unfold gLn; split <;> decide) (gPX_own hk) rfl d kk
theorem g_oast (X : gX Z B cc own) {k : Nat} {x v : Int32} (j : Nat) (hk : k < B.2.2.2.2) (hx : x = nI j) (hj : j < gLn k) (d : decode cc pc = .ok (.iastore, 1)) (kk : gG Z B n (gup V 29 k 0 j v) (pc + 1) L st) : gG Z B n V pc L (.int v :: .int x :: .ref (B.2.1 29 k 0) :: st) := g_iastNX X j hx hj (by unfold gLn; split <;> decide) (gPX_own hk) (fun _ => rfl) d kk
/-- the newest one is forgotten -/
theorem g_drop {a : Nat} (ha : gsz Z ≤ a) (kk : gG Z B n V pc L st) : gG Z (gBs B a) n V pc L st := by
  obtain ⟨p, l, e, R, s, m, args, below, meth, c, nL, Q⟩ := Z
  intro H locs ls hP hS hl
  rw [gws_s (V := V) (fun _ _ _ _ => rfl)] at hP
  refine kk H locs ls (fun k q hk => hP k q ?_) ⟨hS.1, fun y h1 h2 => hS.2.1 y h1 (fun z => h2 (gA_s' ha z)), fun y hy => gA_s' ha (hS.2.2 y hy)⟩ hl
  rw [List.getElem?_append_left (List.getElem?_eq_some_iff.mp hk).1]
  exact hk
theorem g_widen (n' : Nat × Nat) (h1 : n.1 ≤ n'.1) (h2 : n.2 ≤ n'.2) (kk : gG Z B n' V pc L st) : gG Z B n V pc L st := by
  obtain ⟨p, l, e, R, s, m, args, below, meth, c, nL, Q⟩ := Z
  exact fun H locs ls hP hS hl => W.widen h1 h2 (kk H locs ls hP hS hl)
end GR
