section
-- ===== PART A: goes FIRST, ahead of the names: the tables' words, and 'selects' of the private methods out of them =====
/-- a private method of a class that the tables say can be made, by its rows of tables_1 -/
def lw_okq (q : MethodName × Nat) : Prop := (q.1.cls ≠ "java/lang/invoke/MethodHandle" ∧ q.1.cls ≠ "java/lang/invoke/VarHandle") ∧ Cond.instantiable q.1.cls q.2 ∈ tables_1 ∧ Cond.privateMethod q.1 ∈ tables_1 ∧ Cond.instanceMethod q.1 ∈ tables_1
theorem lw_p0 : lw_okq (⟨"FogBridge$Bridge", "move", "()I"⟩, 11) := ⟨⟨by decide +kernel, by decide +kernel⟩, List.mem_of_getElem? (i := 45) (by decide +kernel), List.mem_of_getElem? (i := 259) (by decide +kernel), List.mem_of_getElem? (i := 260) (by decide +kernel)⟩
theorem lw_p1 : lw_okq (⟨"FogBridge$Bridge", "goOn", "()I"⟩, 11) := ⟨⟨by decide +kernel, by decide +kernel⟩, List.mem_of_getElem? (i := 45) (by decide +kernel), List.mem_of_getElem? (i := 264) (by decide +kernel), List.mem_of_getElem? (i := 265) (by decide +kernel)⟩
theorem lw_p2 : lw_okq (⟨"FogBridge$Bridge", "goBack", "()V"⟩, 11) := ⟨⟨by decide +kernel, by decide +kernel⟩, List.mem_of_getElem? (i := 45) (by decide +kernel), List.mem_of_getElem? (i := 275) (by decide +kernel), List.mem_of_getElem? (i := 276) (by decide +kernel)⟩
theorem lw_p3 : lw_okq (⟨"FogBridge$Bridge", "comeOn", "()V"⟩, 11) := ⟨⟨by decide +kernel, by decide +kernel⟩, List.mem_of_getElem? (i := 45) (by decide +kernel), List.mem_of_getElem? (i := 294) (by decide +kernel), List.mem_of_getElem? (i := 295) (by decide +kernel)⟩
theorem lw_p4 : lw_okq (⟨"FogBridge$Bridge", "hasRoomFor", "(LFogBridge$Cart;)Z"⟩, 11) := ⟨⟨by decide +kernel, by decide +kernel⟩, List.mem_of_getElem? (i := 45) (by decide +kernel), List.mem_of_getElem? (i := 298) (by decide +kernel), List.mem_of_getElem? (i := 299) (by decide +kernel)⟩
theorem lw_p5 : lw_okq (⟨"FogBridge$Bridge", "pays", "(LFogBridge$Cart;LFogBridge$Gate;)Z"⟩, 11) := ⟨⟨by decide +kernel, by decide +kernel⟩, List.mem_of_getElem? (i := 45) (by decide +kernel), List.mem_of_getElem? (i := 310) (by decide +kernel), List.mem_of_getElem? (i := 311) (by decide +kernel)⟩
theorem lw_p6 : lw_okq (⟨"FogBridge$Bridge", "tollFor", "(II)I"⟩, 11) := ⟨⟨by decide +kernel, by decide +kernel⟩, List.mem_of_getElem? (i := 45) (by decide +kernel), List.mem_of_getElem? (i := 314) (by decide +kernel), List.mem_of_getElem? (i := 315) (by decide +kernel)⟩
theorem lw_p7 : lw_okq (⟨"FogBridge", "countOf", "(I)I"⟩, 5) := ⟨⟨by decide +kernel, by decide +kernel⟩, List.mem_of_getElem? (i := 19) (by decide +kernel), List.mem_of_getElem? (i := 339) (by decide +kernel), List.mem_of_getElem? (i := 340) (by decide +kernel)⟩
theorem lw_p8 : lw_okq (⟨"FogBridge$Bridge", "placeOf", "(LFogBridge$Cart;)I"⟩, 11) := ⟨⟨by decide +kernel, by decide +kernel⟩, List.mem_of_getElem? (i := 45) (by decide +kernel), List.mem_of_getElem? (i := 380) (by decide +kernel), List.mem_of_getElem? (i := 381) (by decide +kernel)⟩
theorem lw_p9 : lw_okq (⟨"java/lang/Throwable", "fillInStackTrace", "(I)Ljava/lang/Throwable;"⟩, 6) := ⟨⟨by decide +kernel, by decide +kernel⟩, List.mem_of_getElem? (i := 438) (by decide +kernel), List.mem_of_getElem? (i := 436) (by decide +kernel), List.mem_of_getElem? (i := 437) (by decide +kernel)⟩
theorem lw_p10 : lw_okq (⟨"FogBridge$Code", "signalAtBeginningOf", "(I)I"⟩, 3) := ⟨⟨by decide +kernel, by decide +kernel⟩, List.mem_of_getElem? (i := 27) (by decide +kernel), List.mem_of_getElem? (i := 533) (by decide +kernel), List.mem_of_getElem? (i := 534) (by decide +kernel)⟩
theorem lw_p11 : lw_okq (⟨"FogBridge", "ringsHeard", "(II)I"⟩, 5) := ⟨⟨by decide +kernel, by decide +kernel⟩, List.mem_of_getElem? (i := 19) (by decide +kernel), List.mem_of_getElem? (i := 553) (by decide +kernel), List.mem_of_getElem? (i := 554) (by decide +kernel)⟩
theorem lw_p12 : lw_okq (⟨"FogBridge", "fogIn", "(I)I"⟩, 5) := ⟨⟨by decide +kernel, by decide +kernel⟩, List.mem_of_getElem? (i := 19) (by decide +kernel), List.mem_of_getElem? (i := 560) (by decide +kernel), List.mem_of_getElem? (i := 561) (by decide +kernel)⟩
theorem lw_p13 : lw_okq (⟨"FogBridge$Code", "rowsByLastSignal", "(I)I"⟩, 3) := ⟨⟨by decide +kernel, by decide +kernel⟩, List.mem_of_getElem? (i := 27) (by decide +kernel), List.mem_of_getElem? (i := 591) (by decide +kernel), List.mem_of_getElem? (i := 592) (by decide +kernel)⟩
theorem lw_p14 : lw_okq (⟨"FogBridgeModel", "no", "(I)I"⟩, 10) := ⟨⟨by decide +kernel, by decide +kernel⟩, List.mem_of_getElem? (i := 712) (by decide +kernel), List.mem_of_getElem? (i := 807) (by decide +kernel), List.mem_of_getElem? (i := 808) (by decide +kernel)⟩
theorem lw_p15 : lw_okq (⟨"FogBridgeModel", "beginning", "(I)I"⟩, 10) := ⟨⟨by decide +kernel, by decide +kernel⟩, List.mem_of_getElem? (i := 712) (by decide +kernel), List.mem_of_getElem? (i := 821) (by decide +kernel), List.mem_of_getElem? (i := 822) (by decide +kernel)⟩
def lw_privs_1 : List (MethodName × Nat) := [(⟨"FogBridge$Bridge", "move", "()I"⟩, 11), (⟨"FogBridge$Bridge", "goOn", "()I"⟩, 11), (⟨"FogBridge$Bridge", "goBack", "()V"⟩, 11), (⟨"FogBridge$Bridge", "comeOn", "()V"⟩, 11), (⟨"FogBridge$Bridge", "hasRoomFor", "(LFogBridge$Cart;)Z"⟩, 11), (⟨"FogBridge$Bridge", "pays", "(LFogBridge$Cart;LFogBridge$Gate;)Z"⟩, 11), (⟨"FogBridge$Bridge", "tollFor", "(II)I"⟩, 11), (⟨"FogBridge", "countOf", "(I)I"⟩, 5), (⟨"FogBridge$Bridge", "placeOf", "(LFogBridge$Cart;)I"⟩, 11), (⟨"java/lang/Throwable", "fillInStackTrace", "(I)Ljava/lang/Throwable;"⟩, 6), (⟨"FogBridge$Code", "signalAtBeginningOf", "(I)I"⟩, 3), (⟨"FogBridge", "ringsHeard", "(II)I"⟩, 5), (⟨"FogBridge", "fogIn", "(I)I"⟩, 5), (⟨"FogBridge$Code", "rowsByLastSignal", "(I)I"⟩, 3), (⟨"FogBridgeModel", "no", "(I)I"⟩, 10), (⟨"FogBridgeModel", "beginning", "(I)I"⟩, 10)]
theorem lw_r1 : ∀ q ∈ lw_privs_1, lw_okq q := List.forall_mem_cons.mpr ⟨lw_p0, List.forall_mem_cons.mpr ⟨lw_p1, List.forall_mem_cons.mpr ⟨lw_p2, List.forall_mem_cons.mpr ⟨lw_p3, List.forall_mem_cons.mpr ⟨lw_p4, List.forall_mem_cons.mpr ⟨lw_p5, List.forall_mem_cons.mpr ⟨lw_p6, List.forall_mem_cons.mpr ⟨lw_p7, List.forall_mem_cons.mpr ⟨lw_p8, List.forall_mem_cons.mpr ⟨lw_p9, List.forall_mem_cons.mpr ⟨lw_p10, List.forall_mem_cons.mpr ⟨lw_p11, List.forall_mem_cons.mpr ⟨lw_p12, List.forall_mem_cons.mpr ⟨lw_p13, List.forall_mem_cons.mpr ⟨lw_p14, List.forall_mem_cons.mpr ⟨lw_p15, fun _ h => absurd h List.not_mem_nil⟩⟩⟩⟩⟩⟩⟩⟩⟩⟩⟩⟩⟩⟩⟩⟩
theorem lw_p16 : lw_okq (⟨"FogBridgeModel", "behind", "(II)I"⟩, 10) := ⟨⟨by decide +kernel, by decide +kernel⟩, List.mem_of_getElem? (i := 712) (by decide +kernel), List.mem_of_getElem? (i := 825) (by decide +kernel), List.mem_of_getElem? (i := 826) (by decide +kernel)⟩
theorem lw_p17 : lw_okq (⟨"FogBridgeModel", "isSignal", "(I)Z"⟩, 10) := ⟨⟨by decide +kernel, by decide +kernel⟩, List.mem_of_getElem? (i := 712) (by decide +kernel), List.mem_of_getElem? (i := 833) (by decide +kernel), List.mem_of_getElem? (i := 834) (by decide +kernel)⟩
theorem lw_p18 : lw_okq (⟨"FogBridgeModel", "isWhole", "(I)Z"⟩, 10) := ⟨⟨by decide +kernel, by decide +kernel⟩, List.mem_of_getElem? (i := 712) (by decide +kernel), List.mem_of_getElem? (i := 841) (by decide +kernel), List.mem_of_getElem? (i := 842) (by decide +kernel)⟩
theorem lw_p19 : lw_okq (⟨"FogBridgeModel$State", "own", "(II)I"⟩, 8) := ⟨⟨by decide +kernel, by decide +kernel⟩, List.mem_of_getElem? (i := 718) (by decide +kernel), List.mem_of_getElem? (i := 861) (by decide +kernel), List.mem_of_getElem? (i := 862) (by decide +kernel)⟩
theorem lw_p20 : lw_okq (⟨"FogBridgeModel$State", "set", "(III)V"⟩, 8) := ⟨⟨by decide +kernel, by decide +kernel⟩, List.mem_of_getElem? (i := 718) (by decide +kernel), List.mem_of_getElem? (i := 885) (by decide +kernel), List.mem_of_getElem? (i := 886) (by decide +kernel)⟩
theorem lw_p21 : lw_okq (⟨"FogBridgeModel", "isCart", "(I)Z"⟩, 10) := ⟨⟨by decide +kernel, by decide +kernel⟩, List.mem_of_getElem? (i := 712) (by decide +kernel), List.mem_of_getElem? (i := 893) (by decide +kernel), List.mem_of_getElem? (i := 894) (by decide +kernel)⟩
theorem lw_p22 : lw_okq (⟨"FogBridgeModel", "cartTold", "(II)I"⟩, 10) := ⟨⟨by decide +kernel, by decide +kernel⟩, List.mem_of_getElem? (i := 712) (by decide +kernel), List.mem_of_getElem? (i := 897) (by decide +kernel), List.mem_of_getElem? (i := 898) (by decide +kernel)⟩
theorem lw_p23 : lw_okq (⟨"FogBridgeModel$State", "move", "(I)V"⟩, 8) := ⟨⟨by decide +kernel, by decide +kernel⟩, List.mem_of_getElem? (i := 718) (by decide +kernel), List.mem_of_getElem? (i := 923) (by decide +kernel), List.mem_of_getElem? (i := 924) (by decide +kernel)⟩
theorem lw_p24 : lw_okq (⟨"FogBridgeModel$State", "leave", "(I)V"⟩, 8) := ⟨⟨by decide +kernel, by decide +kernel⟩, List.mem_of_getElem? (i := 718) (by decide +kernel), List.mem_of_getElem? (i := 927) (by decide +kernel), List.mem_of_getElem? (i := 928) (by decide +kernel)⟩
theorem lw_p25 : lw_okq (⟨"FogBridgeModel$State", "comeOn", "()V"⟩, 8) := ⟨⟨by decide +kernel, by decide +kernel⟩, List.mem_of_getElem? (i := 718) (by decide +kernel), List.mem_of_getElem? (i := 932) (by decide +kernel), List.mem_of_getElem? (i := 933) (by decide +kernel)⟩
theorem lw_p26 : lw_okq (⟨"FogBridgeModel$State", "isBack", "()Z"⟩, 8) := ⟨⟨by decide +kernel, by decide +kernel⟩, List.mem_of_getElem? (i := 718) (by decide +kernel), List.mem_of_getElem? (i := 936) (by decide +kernel), List.mem_of_getElem? (i := 937) (by decide +kernel)⟩
theorem lw_p27 : lw_okq (⟨"FogBridgeModel$State", "first", "(I)I"⟩, 8) := ⟨⟨by decide +kernel, by decide +kernel⟩, List.mem_of_getElem? (i := 718) (by decide +kernel), List.mem_of_getElem? (i := 944) (by decide +kernel), List.mem_of_getElem? (i := 945) (by decide +kernel)⟩
theorem lw_p28 : lw_okq (⟨"FogBridgeModel", "counted", "(I)I"⟩, 10) := ⟨⟨by decide +kernel, by decide +kernel⟩, List.mem_of_getElem? (i := 712) (by decide +kernel), List.mem_of_getElem? (i := 952) (by decide +kernel), List.mem_of_getElem? (i := 953) (by decide +kernel)⟩
theorem lw_p29 : lw_okq (⟨"FogBridgeModel$State", "copy", "([I[I)V"⟩, 8) := ⟨⟨by decide +kernel, by decide +kernel⟩, List.mem_of_getElem? (i := 718) (by decide +kernel), List.mem_of_getElem? (i := 965) (by decide +kernel), List.mem_of_getElem? (i := 966) (by decide +kernel)⟩
theorem lw_p30 : lw_okq (⟨"FogBridgeModel", "overBy", "(I)I"⟩, 10) := ⟨⟨by decide +kernel, by decide +kernel⟩, List.mem_of_getElem? (i := 712) (by decide +kernel), List.mem_of_getElem? (i := 973) (by decide +kernel), List.mem_of_getElem? (i := 974) (by decide +kernel)⟩
def lw_privs_2 : List (MethodName × Nat) := [(⟨"FogBridgeModel", "behind", "(II)I"⟩, 10), (⟨"FogBridgeModel", "isSignal", "(I)Z"⟩, 10), (⟨"FogBridgeModel", "isWhole", "(I)Z"⟩, 10), (⟨"FogBridgeModel$State", "own", "(II)I"⟩, 8), (⟨"FogBridgeModel$State", "set", "(III)V"⟩, 8), (⟨"FogBridgeModel", "isCart", "(I)Z"⟩, 10), (⟨"FogBridgeModel", "cartTold", "(II)I"⟩, 10), (⟨"FogBridgeModel$State", "move", "(I)V"⟩, 8), (⟨"FogBridgeModel$State", "leave", "(I)V"⟩, 8), (⟨"FogBridgeModel$State", "comeOn", "()V"⟩, 8), (⟨"FogBridgeModel$State", "isBack", "()Z"⟩, 8), (⟨"FogBridgeModel$State", "first", "(I)I"⟩, 8), (⟨"FogBridgeModel", "counted", "(I)I"⟩, 10), (⟨"FogBridgeModel$State", "copy", "([I[I)V"⟩, 8), (⟨"FogBridgeModel", "overBy", "(I)I"⟩, 10)]
theorem lw_r2 : ∀ q ∈ lw_privs_2, lw_okq q := List.forall_mem_cons.mpr ⟨lw_p16, List.forall_mem_cons.mpr ⟨lw_p17, List.forall_mem_cons.mpr ⟨lw_p18, List.forall_mem_cons.mpr ⟨lw_p19, List.forall_mem_cons.mpr ⟨lw_p20, List.forall_mem_cons.mpr ⟨lw_p21, List.forall_mem_cons.mpr ⟨lw_p22, List.forall_mem_cons.mpr ⟨lw_p23, List.forall_mem_cons.mpr ⟨lw_p24, List.forall_mem_cons.mpr ⟨lw_p25, List.forall_mem_cons.mpr ⟨lw_p26, List.forall_mem_cons.mpr ⟨lw_p27, List.forall_mem_cons.mpr ⟨lw_p28, List.forall_mem_cons.mpr ⟨lw_p29, List.forall_mem_cons.mpr ⟨lw_p30, fun _ h => absurd h List.not_mem_nil⟩⟩⟩⟩⟩⟩⟩⟩⟩⟩⟩⟩⟩⟩⟩
def lw_privs : List (MethodName × Nat) := lw_privs_1 ++ (lw_privs_2)
def lw_tbl : List Cond := k2_sels lw_privs ++ tables_1
theorem lw_privs_ok : ∀ q ∈ lw_privs, lw_okq q := by
  show ∀ q ∈ lw_privs_1 ++ (lw_privs_2), lw_okq q
  exact List.forall_mem_append.mpr ⟨lw_r1, lw_r2⟩
/-- the streams that the claim lets the run draw from -/
abbrev lw_cs : List Choice := [Jvm.Choice.named "NaN.bits"]
theorem lw_bits : nanBits ∈ lw_cs := by first | decide | exact List.mem_cons_self | simp [lw_cs, nanBits]
-- ===== end of PART A; then your names; then what follows =====
end
section
/-! ===== BEGIN words of one list among another's, by their places ===== -/
theorem goodIn_r {big : List Cond} (ws : List Cond) (ps : List Nat) (hp : ws = ps.filterMap (fun i => big[i]?)) (h : ws.all goodWord = true) : GoodIn big ws := by
  intro w hw
  have h1 := List.all_eq_true.mp h w hw
  rw [hp] at hw
  obtain ⟨i, -, hi⟩ := List.mem_filterMap.mp hw
  have hm : w ∈ big := by first | exact List.mem_of_getElem? hi | exact List.getElem?_mem hi
  exact ⟨hm, good_of_word h1⟩
theorem goodIn_app {big a b : List Cond} (ha : GoodIn big a) (hb : GoodIn big b) : GoodIn big (a ++ b) := fun w h => (List.mem_append.mp h).elim (ha w) (hb w)
theorem goodIn_ca {big a b : List Cond} {c : Cond} (ha : GoodIn big (c :: a)) (hb : GoodIn big b) : GoodIn big (c :: (a ++ b)) := fun w h => (List.mem_cons.mp h).elim (fun e => ha w (List.mem_cons.mpr (Or.inl e))) (fun h => (List.mem_append.mp h).elim (fun h => ha w (List.mem_cons.mpr (Or.inr h))) (hb w))
theorem goodIn_sub {big ws : List Cond} (hm : ∀ w ∈ ws, w ∈ big) (h : ws.all goodWord = true) : GoodIn big ws := fun w hw => ⟨hm w hw, good_of_word (List.all_eq_true.mp h w hw)⟩
/-! ===== END ===== -/

/-! ===== BEGIN exceptions that leave a method, and their catching by the caller (launches without stack traces) ===== -/
section VXA
/-! The laws vx_back, vx_callV, vx_callS, vx_callSW, vx_throw0, vx_throwS follow proofs of the library, with one case more: JvmDerived/Free/Laws.lean (Back.of_free), Shelf42/LK1.lean (callV, callS), Shelf/KitTraced.lean (throwNew0V, throwNewS). -/
/-- where a method has thrown q: the class by its name, the cell, what was written, the world -/
def vx_T (XC : String → State → State → Prop) (st : State) (q : Addr) (t : State) (mc ms : Nat) (free : Addr → Prop) : Prop :=
  ∃ (E : String) (ce : Cell) (L : List Loc), XC E st t ∧ t.heap[q]? = some ce ∧ ce.vm = .none ∧ st.vm.findClass E = some ce.cls ∧ st.WarmedH t.vm ∧ st.sameButNew ({ t with vm := st.vm } : State) L mc ms ∧ ∀ z ∈ L, free z.base
def vx_Q (Qc : Array Value → State → Outcome → State → Prop) (XC : String → State → State → Prop) (mc ms : Nat) (free : Addr → Prop) : Array Value → State → Outcome → State → Prop := fun a st o t =>
  (Qc a st o t ∧ ∃ L, FrameEnd st o t L mc ms ∧ ∀ q ∈ L, free q.base) ∨ ∃ q, o = .threw q ∧ vx_T XC st q t mc ms free
/-- a callee that returns or throws -/
def vx_Met (l : Launch) (y : MethodName) (ws : List Cond) (rm : Room) (Pc : Array Value → State → Prop) (Qc : Array Value → State → Outcome → State → Prop) (XC : String → State → State → Prop) (mc ms : Nat) (free : Addr → Prop) : Prop :=
  MetFree l y (headSpec ws rm) Pc (fun _ _ _ _ _ => True) (vx_Q Qc XC mc ms free)
def vx_Post (XC : String → State → State → Prop) (mc ms : Nat) (free : Addr → Prop) : Pt → Array Value → Addr → Pt → Prop := fun A a q B =>
  ∃ (g : JFrame) (mk : MethodId) (t : State) (L : List Loc) (E : String) (ce : Cell), B.U.heap = t.heap ∧ B.U.vm = t.vm ∧ XC E (A.U.calling g mk a) t ∧ t.heap[q]? = some ce ∧ ce.vm = .none ∧ A.U.vm.findClass E = some ce.cls ∧ B.locs = A.locs ++ L ∧ (∀ z ∈ L, free z.base) ∧ B.cells = A.cells + mc ∧ B.slots = A.slots + ms
def vx_Back (l : Launch) (R : Room) (p : Program) (e : Env) (below : List Frame) (s : State) (sargs : Array Value) (y : MethodName) (len W9 : Nat)
    (Pre : Pt → Array Value → Prop) (Post : Pt → Array Value → Option Value → Pt → Prop) (PostX : Pt → Array Value → Addr → Pt → Prop) : Prop :=
  ∀ (m : MethodId) (meth : Method) (c : Code) (A : Pt) (g : JFrame) (ig : Instr) (mk : MethodId) (a : Array Value),
    Stand p l e R s m sargs below meth c A.U A.locs A.cells A.slots → g.method = m → g.locals.size = c.maxLocals → decode c.code g.pc = .ok (ig, len) →
    2 * g.monitorRoom + (g.stack.map fun v => v.category).sum ≤ W9 → A.U.methodNamed? y = some mk → Pre A a →
    (∃ (v : Option Value) (B : Pt), Stand p l e R s m sargs below meth c B.U B.locs B.cells B.slots ∧ Post A a v B ∧
      Steps p.tables e below (doInvoke e (A.U.setTop g) [] mk a).1 (B.U.setTop { g with pc := g.pc + len, stack := v.toList ++ g.stack })) ∨
    (∃ (q : Addr) (B : Pt), Stand p l e R s m sargs below meth c B.U B.locs B.cells B.slots ∧ PostX A a q B ∧
      Steps p.tables e below (doInvoke e (A.U.setTop g) [] mk a).1 ((B.U.setTop g).pushFrame (.throwing q)))
section Payer
variable {l : Launch} {R : Room} {p : Program} {e : Env} {below : List Frame} {s : State} {sargs : Array Value} {y : MethodName} {len W9 : Nat}
theorem vx_back {ws : List Cond} {rm : Room} {Pc : Array Value → State → Prop} {Qc : Array Value → State → Outcome → State → Prop} {XC : String → State → State → Prop} {mc ms : Nat} {free : Addr → Prop} {bytes : ByteArray} {maxL : Nat} {ret : Option FieldType}
    (hM : vx_Met l y ws rm Pc Qc XC mc ms free) (hblind : FrameBlind Pc) (hrc : rm.cells = mc) (hrs : rm.slots = ms)
    (hframes : rm.frames + 1 ≤ R.frames) (hlocals : W9 + (maxL + 11) + rm.locals ≤ R.locals)
    (hws : ∀ w ∈ ws, ∀ a' U, s.WarmedH U.vm → w.before a' U = true) (hcode : Cond.code y bytes maxL ret ∈ ws) (hinit : ∀ a' U, s.WarmedH U.vm → (Cond.initialized y.cls).before a' U = true) :
    vx_Back l R p e below s sargs y len W9 (PreOf R mc ms Pc) (PostOf Qc mc ms free) (vx_Post XC mc ms free) := by
  intro m meth c A g ig mk a X hg hsize hdg hW hn hp
  have h1 : (headSpec ws rm).pre.before a A.U = true := atoms_intro fun w hw => hws w hw _ _ X.warmed
  have h2 : (Cond.code y bytes maxL ret).before a A.U = true := hws _ hcode _ _ X.warmed
  have h3 : (Cond.initialized y.cls).before a A.U = true := hinit _ _ X.warmed
  have h4 : A.cells + (headSpec ws rm).room.cells ≤ R.cells := by rw [show (headSpec ws rm).room.cells = mc from hrc]; exact hp.1
  have h5 : A.slots + (headSpec ws rm).room.slots ≤ R.slots := by rw [show (headSpec ws rm).room.slots = ms from hrs]; exact hp.2.1
  have hPc : Pc a (A.U.calling g mk a) := hblind _ _ _ _ hp.2.2
  obtain ⟨U, Ls, c0, s0⟩ := A
  dsimp only [Pt.U, Pt.locs, Pt.cells, Pt.slots] at h1 h2 h3 h4 h5 X hn hPc ⊢
  obtain ⟨methY, cY, hmY, hcY, -, hlY, -, -, -, -⟩ := Cond.code_spec hn h2
  obtain ⟨kY, hkY, -⟩ := className_of_methodNamed hn
  have hinitY : kY.init = .initialized := Cond.initialized_spec (findClass_of_methodNamed hn) hkY h3
  have h : At U g.method c below := by rw [hg]; exact X.here
  have hlocals9 : W9 + (maxL + 11) + (headSpec ws rm).room.locals ≤ R.locals := hlocals
  have happ : (headSpec ws rm).appliesLoose y e.platform (U.calling g mk a) = true :=
    Spec.appliesLoose_calling (g := g) h hdg hn hkY hinitY
      (X.room_calling (g := g) (R' := (headSpec ws rm).room) hsize hmY hcY hframes (by rw [hlY]; omega) h4 h5) h1
  obtain ⟨mid, hmid⟩ := h.above
  have hfr : (U.setTop g).frames = (.java g :: mid) ++ below := by rw [State.frames_setTop' g h.top, hmid]; rfl
  obtain ⟨o, s₂, hsteps, -, hend, hq⟩ := Steps.callFree hM p X.admits X.cas X.clock (acts := []) hfr happ hPc trivial
  have hq' : vx_Q Qc XC mc ms free a (U.calling g mk a) o s₂ := hq
  rw [State.frames_setTop' g h.top] at hend
  obtain ⟨g₀, hg0⟩ := Option.isSome_iff_exists.mp h.top
  obtain ⟨r, hr⟩ := State.topJava?_eq_some.mp hg0
  have hr' : (({ U with heap := s₂.heap, slotsUsed := s₂.slotsUsed } : State).setVm s₂.vm).frames = .java g₀ :: r := hr
  rcases hq' with ⟨hqc, L, hfe, hL⟩ | ⟨q, rfl, E, ce, L, hx, hce, hcv, hcl, hW₂, hsm, hL⟩
  · obtain ⟨⟨v, rfl⟩, hW₂, e2, q2, q3, q4, q5, q6⟩ := id hfe
    have e3 : s₂ = ({ (U.calling g mk a).setFrames s₂.frames with heap := s₂.heap, slotsUsed := s₂.slotsUsed } : State).setVm s₂.vm := by
      have : s₂ = ({ s₂ with vm := (U.calling g mk a).vm } : State).setVm s₂.vm := rfl
      rw [e2] at this
      exact this
    obtain ⟨c₂, i₂, len₂, hc₂, hd₂, hf₂⟩ := hend
    have hW' : U.WarmedH s₂.vm := hW₂
    have hcc : c₂ = c := by
      have h1 : s₂.code? g.method = U.code? g.method := by
        rw [State.code?_eq, State.code?_eq, hW'.alike.method?]
      exact Option.some.inj (hc₂.symm.trans (h1.trans h.code))
    subst hcc
    have hlen : len₂ = len := by rw [hdg] at hd₂; cases hd₂; rfl
    subst hlen
    have hs₂ : s₂ = (({ U with heap := s₂.heap, slotsUsed := s₂.slotsUsed } : State).setVm s₂.vm).setTop { g with pc := g.pc + len₂, stack := v.toList ++ g.stack } := by
      refine e3.trans ?_
      rw [hf₂, State.calling_eq h.top, State.setFrames_setFrames, State.setTop_of_frames _ hr', hr]
      rfl
    have hsame : U.sameButNew ({ U with heap := s₂.heap, slotsUsed := s₂.slotsUsed } : State) L mc ms := by
      refine ⟨?_, q2, q3, q4, q5, q6⟩
      obtain ⟨t, ht, -⟩ := State.frames_cons hr
      show ({ U with heap := s₂.heap, slotsUsed := s₂.slotsUsed } : State) = { U.setFrames U.frames with heap := s₂.heap, slotsUsed := s₂.slotsUsed }
      rw [State.setFrames_self ht]
    subst hg
    refine Or.inl ⟨v, ⟨(({ U with heap := s₂.heap, slotsUsed := s₂.slotsUsed } : State).setVm s₂.vm), Ls ++ L, c0 + mc, s0 + ms⟩,
      ⟨X.admits, X.cas, X.clock, X.frames, X.room, X.hears, X.method, X.code, (X.here.setHeapUsed s₂.heap s₂.slotsUsed).setVm hW'.alike, X.tail, State.WarmedH.trans X.warmed hW', X.limits, X.bytes, X.same.trans (hsame.setVm s.vm)⟩,
      ⟨g, mk, s₂, L, rfl, rfl, hqc, rfl, hL, rfl, rfl⟩, ?_⟩
    show Steps p.tables e below _ ((({ U with heap := s₂.heap, slotsUsed := s₂.slotsUsed } : State).setVm s₂.vm).setTop { g with pc := g.pc + len₂, stack := v.toList ++ g.stack })
    rw [← hs₂]
    exact hsteps
  · obtain ⟨e2, q2, q3, q4, q5, q6⟩ := id hsm
    have e3 : s₂ = ({ (U.calling g mk a).setFrames s₂.frames with heap := s₂.heap, slotsUsed := s₂.slotsUsed } : State).setVm s₂.vm := by
      have : s₂ = ({ s₂ with vm := (U.calling g mk a).vm } : State).setVm s₂.vm := rfl
      rw [e2] at this
      exact this
    have hf₂ : s₂.frames = .throwing q :: .java g :: U.frames.tail := hend
    have hW' : U.WarmedH s₂.vm := hW₂
    have hs₂ : s₂ = ((({ U with heap := s₂.heap, slotsUsed := s₂.slotsUsed } : State).setVm s₂.vm).setTop g).pushFrame (.throwing q) := by
      refine e3.trans ?_
      rw [hf₂, State.calling_eq h.top, State.setFrames_setFrames, State.pushFrame, State.frames_setTop _ hr', State.setTop_of_frames _ hr', State.setFrames_setFrames, hr]
      rfl
    have hsame : U.sameButNew ({ U with heap := s₂.heap, slotsUsed := s₂.slotsUsed } : State) L mc ms := by
      refine ⟨?_, q2, q3, q4, q5, q6⟩
      obtain ⟨t, ht, -⟩ := State.frames_cons hr
      show ({ U with heap := s₂.heap, slotsUsed := s₂.slotsUsed } : State) = { U.setFrames U.frames with heap := s₂.heap, slotsUsed := s₂.slotsUsed }
      rw [State.setFrames_self ht]
    subst hg
    refine Or.inr ⟨q, ⟨(({ U with heap := s₂.heap, slotsUsed := s₂.slotsUsed } : State).setVm s₂.vm), Ls ++ L, c0 + mc, s0 + ms⟩,
      ⟨X.admits, X.cas, X.clock, X.frames, X.room, X.hears, X.method, X.code, (X.here.setHeapUsed s₂.heap s₂.slotsUsed).setVm hW'.alike, X.tail, State.WarmedH.trans X.warmed hW', X.limits, X.bytes, X.same.trans (hsame.setVm s.vm)⟩,
      ⟨g, mk, s₂, L, E, ce, rfl, rfl, hx, hce, hcv, hcl, rfl, hL, rfl, rfl⟩, ?_⟩
    show Steps p.tables e below _ (((({ U with heap := s₂.heap, slotsUsed := s₂.slotsUsed } : State).setVm s₂.vm).setTop g).pushFrame (.throwing q))
    rw [← hs₂]
    exact hsteps
end Payer
section Calls
variable {p : Program} {l : Launch} {e : Env} {R : Room} {s : State} {m : MethodId} {args : Array Value} {below : List Frame} {meth : Method} {c : Code} {T : State} {locs : List Loc} {cells slots : Nat}
theorem vx_callV (X : Stand p l e R s m args below meth c T locs cells slots) (hexec : p.tables.exec = Jvm.exec) {own C : String} {index : Nat} {y : MethodName} {bytes : ByteArray} {maxL : Nat} {ret : Option FieldType}
    (hown : s.vm.findClass own = some m.cls) (hlink : (Cond.methodLink own index y).before args s = true) (hinst : (Cond.instanceMethod y).before args s = true) (hsel : (Cond.selects C y y).before args s = true)
    (hcode : (Cond.code y bytes maxL ret).before args s = true) (hy : y.cls ≠ "java/lang/invoke/MethodHandle" ∧ y.cls ≠ "java/lang/invoke/VarHandle")
    {W9 : Nat} {Pre : Pt → Array Value → Prop} {Post : Pt → Array Value → Option Value → Pt → Prop} {PostX : Pt → Array Value → Addr → Pt → Prop} (hK : vx_Back l R p e below s args y 3 W9 Pre Post PostX)
    {b : Addr} {cellB : Cell} (hcell : T.heap[b]? = some cellB) (hobj : cellB.vm.isStatics = false) (hcls : s.vm.findClass C = some cellB.cls)
    {g : JFrame} (hg : g.method = m) (hsize : g.locals.size = c.maxLocals) {argsL rest : List Value} (hlen : ∀ sig, parseMethodDescriptor y.desc = some sig → argsL.length = sig.parameters.length)
    (hstack : g.stack = argsL.reverse ++ .ref b :: rest) (hW : 2 * g.monitorRoom + (rest.map fun v => v.category).sum ≤ W9) (hdg : decode c.code g.pc = .ok (.invokevirtual index, 3))
    (hpre : ∀ vm₁, s.WarmedH vm₁ → Pre ⟨T.setVm vm₁, locs, cells, slots⟩ (Value.ref b :: argsL).toArray) :
    (∃ (v : Option Value) (vm₁ : Vm) (B : Pt), s.WarmedH vm₁ ∧ Stand p l e R s m args below meth c B.U B.locs B.cells B.slots ∧ Post ⟨T.setVm vm₁, locs, cells, slots⟩ (Value.ref b :: argsL).toArray v B ∧
      ∀ target, Steps p.tables e below (B.U.setTop { g with pc := g.pc + 3, stack := v.toList ++ rest }) target → Steps p.tables e below (T.setTop g) target) ∨
    (∃ (q : Addr) (vm₁ : Vm) (B : Pt), s.WarmedH vm₁ ∧ Stand p l e R s m args below meth c B.U B.locs B.cells B.slots ∧ PostX ⟨T.setVm vm₁, locs, cells, slots⟩ (Value.ref b :: argsL).toArray q B ∧
      Steps p.tables e below (T.setTop g) ((B.U.setTop { g with stack := rest }).pushFrame (.throwing q))) := by
  obtain ⟨mk, methM, hnamed, hmethM, hstM, habM⟩ := Cond.instanceMethod_spec hinst
  obtain ⟨methM', cM, hmethM', -, -, -, -, -, -, hsigM⟩ := Cond.code_spec hnamed hcode
  cases hmethM.symm.trans hmethM'
  obtain ⟨c2, r2, m2, q1, q2, q3, q4, kP, hkP, hkPi⟩ := Cond.selects_spec hsel
  cases hcls.symm.trans q1
  cases (State.methodFound?_of_named hnamed hy).symm.trans q2
  cases hnamed.symm.trans q3
  have hselP : selectMethod e.platform s.vm cellB.cls mk = .method mk := by rw [Launch.admits_selectMethod X.admits]; exact q4
  obtain ⟨vm₁, X₁, hstep₁⟩ := X.invokevirtual hexec hown hlink hnamed hmethM hstM hkP hkPi hy (a := b) (cell := cellB) hcell
    (fun z h => by rw [h] at hobj; cases hobj) hselP hmethM habM hkP hkPi (g := g) hg (argsL := argsL) (rest := rest) (hlen _ hsigM) hstack hdg
  rcases hK m meth c ⟨T.setVm vm₁, locs, cells, slots⟩ { g with stack := rest } (.invokevirtual index) mk (Value.ref b :: argsL).toArray X₁ hg hsize hdg hW (X₁.named hnamed) (hpre vm₁ X₁.warmed) with ⟨v, B, X', hpost, hsteps⟩ | ⟨q, B, X', hpost, hsteps⟩
  · exact Or.inl ⟨v, vm₁, B, X₁.warmed, X', hpost, fun target h => hstep₁ _ fun acts => by rw [doInvoke_state]; exact hsteps.trans h⟩
  · exact Or.inr ⟨q, vm₁, B, X₁.warmed, X', hpost, hstep₁ _ fun acts => by rw [doInvoke_state]; exact hsteps⟩
theorem vx_callS (X : Stand p l e R s m args below meth c T locs cells slots) (hexec : p.tables.exec = Jvm.exec) {own : String} {index : Nat} {y : MethodName} {bytes : ByteArray} {maxL : Nat} {ret : Option FieldType}
    (hown : s.vm.findClass own = some m.cls) (hlink : (Cond.methodLink own index y).before args s = true) (hstat : (Cond.static y).before args s = true) (hinit : (Cond.initialized y.cls).before args s = true)
    (hcode : (Cond.code y bytes maxL ret).before args s = true) (hy : y.cls ≠ "java/lang/invoke/MethodHandle" ∧ y.cls ≠ "java/lang/invoke/VarHandle")
    {W9 : Nat} {Pre : Pt → Array Value → Prop} {Post : Pt → Array Value → Option Value → Pt → Prop} {PostX : Pt → Array Value → Addr → Pt → Prop} (hK : vx_Back l R p e below s args y 3 W9 Pre Post PostX)
    {g : JFrame} (hg : g.method = m) (hsize : g.locals.size = c.maxLocals) {argsL rest : List Value} (hlen : ∀ sig, parseMethodDescriptor y.desc = some sig → argsL.length = sig.parameters.length)
    (hstack : g.stack = argsL.reverse ++ rest) (hW : 2 * g.monitorRoom + (rest.map fun v => v.category).sum ≤ W9) (hdg : decode c.code g.pc = .ok (.invokestatic index, 3))
    (hpre : ∀ vm₁, s.WarmedH vm₁ → Pre ⟨T.setVm vm₁, locs, cells, slots⟩ argsL.toArray) :
    (∃ (v : Option Value) (vm₁ : Vm) (B : Pt), s.WarmedH vm₁ ∧ Stand p l e R s m args below meth c B.U B.locs B.cells B.slots ∧ Post ⟨T.setVm vm₁, locs, cells, slots⟩ argsL.toArray v B ∧
      ∀ target, Steps p.tables e below (B.U.setTop { g with pc := g.pc + 3, stack := v.toList ++ rest }) target → Steps p.tables e below (T.setTop g) target) ∨
    (∃ (q : Addr) (vm₁ : Vm) (B : Pt), s.WarmedH vm₁ ∧ Stand p l e R s m args below meth c B.U B.locs B.cells B.slots ∧ PostX ⟨T.setVm vm₁, locs, cells, slots⟩ argsL.toArray q B ∧
      Steps p.tables e below (T.setTop g) ((B.U.setTop { g with stack := rest }).pushFrame (.throwing q))) := by
  obtain ⟨mk, hnamed⟩ := Cond.code_named hcode
  obtain ⟨methM, cM, hmethM, -, -, -, -, -, -, hsigM⟩ := Cond.code_spec hnamed hcode
  have hstatic : methM.isStatic = true := Cond.static_spec hnamed hmethM hstat
  obtain ⟨kP, hkP, -⟩ := className_of_methodNamed hnamed
  have hinitP : kP.init = .initialized := Cond.initialized_spec (findClass_of_methodNamed hnamed) hkP hinit
  obtain ⟨vm₁, X₁, hstep₁⟩ := X.invokestatic hexec hown hlink hnamed hmethM hstatic hkP hinitP hy (g := g) hg (argsL := argsL) (rest := rest) (hlen _ hsigM) hstack hdg
  rcases hK m meth c ⟨T.setVm vm₁, locs, cells, slots⟩ { g with stack := rest } (.invokestatic index) mk argsL.toArray X₁ hg hsize hdg hW (X₁.named hnamed) (hpre vm₁ X₁.warmed) with ⟨v, B, X', hpost, hsteps⟩ | ⟨q, B, X', hpost, hsteps⟩
  · exact Or.inl ⟨v, vm₁, B, X₁.warmed, X', hpost, fun target h => hstep₁ _ fun acts => by rw [doInvoke_state]; exact hsteps.trans h⟩
  · exact Or.inr ⟨q, vm₁, B, X₁.warmed, X', hpost, hstep₁ _ fun acts => by rw [doInvoke_state]; exact hsteps⟩
end Calls
theorem vx_cls {s : State} {T : State} {vm₁ : Vm} {E : String} {k : ClassId} (hW : s.WarmedH vm₁) (h : (T.setVm vm₁).vm.findClass E = some k) : s.vm.findClass E = some k := by
  have h1 : vm₁.findClass E = some k := h
  rw [hW.alike.findClass] at h1
  exact h1
/-- the method's frame g, with q thrown over it -/
def vx_W (p : Program) (l : Launch) (e : Env) (R : Room) (s : State) (m : MethodId) (args : Array Value) (below : List Frame) (meth : Method) (c : Code) (H : Heap) (locs : List Loc) (cells slots : Nat) (Q : State → Prop) (g : JFrame) (q : Addr) : Prop :=
  ∀ T : State, T.heap = H → Stand p l e R s m args below meth c T locs cells slots → ∃ t, Steps p.tables e below ((T.setTop g).pushFrame (.throwing q)) t ∧ Q t
def vx_Run (p : Program) (l : Launch) (e : Env) (R : Room) (s : State) (m : MethodId) (args : Array Value) (below : List Frame) (meth : Method) (c : Code) (H : Heap) (locs : List Loc) (cells slots mc ms : Nat) (g : JFrame) (rest : List Value) (Qa : State → Outcome → State → Prop) (XC : String → State → State → Prop) (free : Addr → Prop) : Prop :=
  ∀ T : State, T.heap = H → Stand p l e R s m args below meth c T locs cells slots →
    (∃ (v : Option Value) (st₀ t T' : State) (L : List Loc), st₀.heap = H ∧ Stand p l e R s m args below meth c T' (locs ++ L) (cells + mc) (slots + ms) ∧ (∀ q ∈ L, free q.base) ∧ T'.heap = t.heap ∧ T'.vm = t.vm ∧ Qa st₀ (.returned v) t ∧
      Goes p e below T g T' { g with pc := g.pc + 3, stack := v.toList ++ rest }) ∨
    (∃ (q : Addr) (st₀ t T' : State) (L : List Loc) (E : String) (ce : Cell), st₀.heap = H ∧ Stand p l e R s m args below meth c T' (locs ++ L) (cells + mc) (slots + ms) ∧ (∀ z ∈ L, free z.base) ∧ T'.heap = t.heap ∧ T'.vm = t.vm ∧ XC E st₀ t ∧ t.heap[q]? = some ce ∧ ce.vm = .none ∧ s.vm.findClass E = some ce.cls ∧
      Steps p.tables e below (T.setTop g) ((T'.setTop { g with stack := rest }).pushFrame (.throwing q)))
def vx_X {S : Type} (px : S → Prop) (B : String → S → State → Prop) (A : Nat → Prop) : String → State → State → Prop := fun E st t => ∃ u : S, px u ∧ B E u t ∧ va_F A st t
section Runs
variable {p : Program} {l : Launch} {e : Env} {R : Room} {s : State} {m : MethodId} {args : Array Value} {below : List Frame} {meth : Method} {c : Code} {H : Heap} {locs : List Loc} {cells slots : Nat}
variable {y : MethodName} {bytes cc : ByteArray} {maxL nL mc ms n index : Nat} {ret : Option FieldType} {ws : List Cond} {rm : Room} {Pc : Array Value → State → Prop} {Qc : Array Value → State → Outcome → State → Prop} {XC : String → State → State → Prop} {free : Addr → Prop} {Ts : List Cond} {own C : String} {b : Addr} {As rest : List Value} {g : JFrame}
theorem vx_callBack (cb : CallB R s args own index y bytes maxL ret ws rm mc ms n) (hM : vx_Met l y ws rm Pc Qc XC mc ms free) (hbl : FrameBlind Pc) : vx_Back l R p e below s args y 3 8 (PreOf R mc ms Pc) (PostOf Qc mc ms free) (vx_Post XC mc ms free) := by
  obtain ⟨hrc, hrs, hfr, hlo, hws, hcw, -, hini, -⟩ := cb
  exact vx_back (bytes := bytes) (maxL := maxL) (ret := ret) hM hbl hrc hrs hfr hlo hws hcw (fun a' U hW => word_at hW (Or.inl (by first | rfl | simp [Cond.onTables, Cond.keeps, Cond.steady])) hini)
theorem vx_runV (S : CallFix p m c cc nL s args Ts own) (hM : vx_Met l y ws rm Pc Qc XC mc ms free) (cw : CallW R s args own C index y bytes maxL ret ws rm mc ms n) (hp : PreV s H C b Pc As)
    (hg : g.method = m) (hn : As.length = n) (hsize : g.locals.size = nL) (hstack : g.stack = As.reverse ++ .ref b :: rest) (hW : 2 * g.monitorRoom + (rest.map fun v => v.category).sum ≤ 8) (hdg : decode cc g.pc = .ok (.invokevirtual index, 3)) (hf : cells + mc ≤ R.cells ∧ slots + ms ≤ R.slots) :
    vx_Run p l e R s m args below meth c H locs cells slots mc ms g rest (Qc (Value.ref b :: As).toArray) XC free := by
  have hK : vx_Back l R p e below s args y 3 8 (PreOf R mc ms Pc) (PostOf Qc mc ms free) (vx_Post XC mc ms free) := vx_callBack cw.1 hM hp.1
  obtain ⟨⟨-, -, -, -, -, -, hcode, -, hy, hlen, hl⟩, hin, hse⟩ := cw
  obtain ⟨hx, hb, hml, ho, -⟩ := S
  obtain ⟨-, ⟨cellB, hcB, hoB, hclB⟩, hPc⟩ := hp
  intro T hT X
  rcases vx_callV X hx (C := C) (bytes := bytes) (maxL := maxL) (ret := ret) ho hl hin hse hcode hy hK (by rw [hT]; exact hcB) hoB hclB hg (hsize.trans hml.symm) (argsL := As) (rest := rest) (fun sig h => hn.trans (hlen sig h)) hstack hW (by rw [hb]; exact hdg)
    (fun vm₁ hW₁ => ⟨hf.1, hf.2, hPc (T.setVm vm₁) hT hW₁⟩) with ⟨v, vm₁, ⟨U', l2, c2, s2⟩, hW₁, X', ⟨g', mk, t, L, e1, e2, hq, h1, hL, h2, h3⟩, st⟩ | ⟨q, vm₁, ⟨U', l2, c2, s2⟩, hW₁, X', ⟨g', mk, t, L, E, ce, e1, e2, hq, hce, hcv, hcl, h1, hL, h2, h3⟩, st⟩
  · dsimp only [Pt.U, Pt.locs, Pt.cells, Pt.slots] at X' e1 e2 h1 h2 h3 st
    subst h1; subst h2; subst h3
    exact Or.inl ⟨v, (T.setVm vm₁).calling g' mk (Value.ref b :: As).toArray, t, U', L, hT, X', hL, e1, e2, hq, st⟩
  · dsimp only [Pt.U, Pt.locs, Pt.cells, Pt.slots] at X' e1 e2 h1 h2 h3 st hcl
    subst h1; subst h2; subst h3
    exact Or.inr ⟨q, (T.setVm vm₁).calling g' mk (Value.ref b :: As).toArray, t, U', L, E, ce, hT, X', hL, e1, e2, hq, hce, hcv, vx_cls hW₁ hcl, st⟩
theorem vx_runS (S : CallFix p m c cc nL s args Ts own) (hM : vx_Met l y ws rm Pc Qc XC mc ms free) (cw : CallB R s args own index y bytes maxL ret ws rm mc ms n ∧ (Cond.static y).before args s = true) (hp : PreS s H Pc As)
    (hg : g.method = m) (hn : As.length = n) (hsize : g.locals.size = nL) (hstack : g.stack = As.reverse ++ rest) (hW : 2 * g.monitorRoom + (rest.map fun v => v.category).sum ≤ 8) (hdg : decode cc g.pc = .ok (.invokestatic index, 3)) (hf : cells + mc ≤ R.cells ∧ slots + ms ≤ R.slots) :
    vx_Run p l e R s m args below meth c H locs cells slots mc ms g rest (Qc As.toArray) XC free := by
  have hK : vx_Back l R p e below s args y 3 8 (PreOf R mc ms Pc) (PostOf Qc mc ms free) (vx_Post XC mc ms free) := vx_callBack cw.1 hM hp.1
  obtain ⟨⟨-, -, -, -, -, -, hcode, hini, hy, hlen, hl⟩, hstt⟩ := cw
  obtain ⟨hx, hb, hml, ho, -⟩ := S
  intro T hT X
  rcases vx_callS X hx (bytes := bytes) (maxL := maxL) (ret := ret) ho hl hstt hini hcode hy hK hg (hsize.trans hml.symm) (argsL := As) (rest := rest) (fun sig h => hn.trans (hlen sig h)) hstack hW (by rw [hb]; exact hdg)
    (fun vm₁ hW₁ => ⟨hf.1, hf.2, hp.2 (T.setVm vm₁) hT hW₁⟩) with ⟨v, vm₁, ⟨U', l2, c2, s2⟩, hW₁, X', ⟨g', mk, t, L, e1, e2, hq, h1, hL, h2, h3⟩, st⟩ | ⟨q, vm₁, ⟨U', l2, c2, s2⟩, hW₁, X', ⟨g', mk, t, L, E, ce, e1, e2, hq, hce, hcv, hcl, h1, hL, h2, h3⟩, st⟩
  · dsimp only [Pt.U, Pt.locs, Pt.cells, Pt.slots] at X' e1 e2 h1 h2 h3 st
    subst h1; subst h2; subst h3
    exact Or.inl ⟨v, (T.setVm vm₁).calling g' mk As.toArray, t, U', L, hT, X', hL, e1, e2, hq, st⟩
  · dsimp only [Pt.U, Pt.locs, Pt.cells, Pt.slots] at X' e1 e2 h1 h2 h3 st hcl
    subst h1; subst h2; subst h3
    exact Or.inr ⟨q, (T.setVm vm₁).calling g' mk As.toArray, t, U', L, E, ce, hT, X', hL, e1, e2, hq, hce, hcv, vx_cls hW₁ hcl, st⟩
end Runs
section Rows
variable {p : Program} {l : Launch} {e : Env} {R : Room} {s : State} {m : MethodId} {args : Array Value} {below : List Frame} {meth : Method} {c : Code} {H : Heap} {locs : List Loc} {cells slots : Nat} {Q : State → Prop}
variable {mc ms : Nat} {free : Addr → Prop} {A0 A1 : Nat → Prop} {H0 : Heap} {a : Array Value} {pc : Nat} {ls : Array Slot} {st0 rest : List Value}
theorem vx_keep {st₀ t T' : State} {L : List Loc} (h0 : st₀.heap = H) (e1 : T'.heap = t.heap) (hS : va_S A0 H0 H locs) (hA : ∀ q, q < H.size → A1 q → A0 q) (hf : ∀ q, free q → A0 q) (hL : ∀ q ∈ L, free q.base) (hF : va_F A1 st₀ t) :
    H.size ≤ T'.heap.size ∧ (∀ q : Nat, q < H.size → ¬ A1 q → T'.heap[q]? = H[q]?) ∧ va_S A0 H0 T'.heap (locs ++ L) := by
  obtain ⟨hz, hk⟩ := hF
  rw [h0] at hz hk
  exact ⟨by rw [e1]; exact hz, fun q h1 h2 => by rw [e1]; exact hk q h1 h2,
    ⟨Nat.le_trans hS.1 (by rw [e1]; exact hz), fun q h1 h2 => by rw [e1, hk q (Nat.lt_of_lt_of_le h1 hS.1) (fun z => h2 (hA q (Nat.lt_of_lt_of_le h1 hS.1) z))]; exact hS.2.1 q h1 h2, fun q hq => by
      rcases List.mem_append.mp hq with h | h
      · exact hS.2.2 q h
      · exact hf _ (hL q h)⟩⟩
theorem vx_calli {S SX : Type} {post : Int32 → S → Prop} {px : SX → Prop} {B : S → State → Prop} {BX : String → SX → State → Prop} {AX : Nat → Prop} (hr : vx_Run p l e R s m args below meth c H locs cells slots mc ms (F0 m pc ls st0) rest (va_Qi post B A1 a) (vx_X px BX AX) free) (hS : va_S A0 H0 H locs) (hA : ∀ q, q < H.size → A1 q → A0 q) (hf : ∀ q, free q → A0 q) (hAX : ∀ q, q < H.size → AX q → A0 q)
    (kx : ∀ (E : String) (ce : Cell) (q9 : Addr) (u : SX) (t : State) (H1 : Heap) (locs1 : List Loc), t.heap = H1 → s.vm.Alike t.vm → px u → BX E u t → H.size ≤ H1.size → (∀ q : Nat, q < H.size → ¬ AX q → H1[q]? = H[q]?) → va_S A0 H0 H1 locs1 → H1[q9]? = some ce → ce.vm = .none → s.vm.findClass E = some ce.cls → vx_W p l e R s m args below meth c H1 locs1 (cells + mc) (slots + ms) Q (F0 m pc ls rest) q9)
    (kk : ∀ (r : Int32) (u : S) (t : State) (H1 : Heap) (locs1 : List Loc), t.heap = H1 → s.vm.Alike t.vm → post r u → B u t → H.size ≤ H1.size → (∀ q : Nat, q < H.size → ¬ A1 q → H1[q]? = H[q]?) → va_S A0 H0 H1 locs1 → W p l e R s m args below meth c H1 locs1 (cells + mc) (slots + ms) Q (F0 m (pc + 3) ls (.int r :: rest))) : W p l e R s m args below meth c H locs cells slots Q (F0 m pc ls st0) := by
  intro T hT X
  rcases hr T hT X with ⟨v, st₀, t, T', L, h0, X', hL, e1, e2, ⟨⟨r, u, hv, hp, hb⟩, hF⟩, st⟩ | ⟨q, st₀, t, T', L, E, ce, h0, X', hL, e1, e2, ⟨u, hp, hb, hF⟩, hce, hcv, hcl, st⟩
  · cases hv
    obtain ⟨k1, k2, k3⟩ := vx_keep h0 e1 hS hA hf hL hF
    obtain ⟨t2, a1, b1⟩ := kk r u t T'.heap (locs ++ L) e1.symm (by rw [← e2]; exact X'.warmed.alike) hp hb k1 k2 k3 T' rfl X'
    exact ⟨t2, st t2 a1, b1⟩
  · obtain ⟨k1, k2, k3⟩ := vx_keep h0 e1 hS hAX hf hL hF
    obtain ⟨t2, a1, b1⟩ := kx E ce q u t T'.heap (locs ++ L) e1.symm (by rw [← e2]; exact X'.warmed.alike) hp hb k1 k2 k3 (by rw [e1]; exact hce) hcv hcl T' rfl X'
    exact ⟨t2, st.trans a1, b1⟩
theorem vx_calll {S SX : Type} {post : Int64 → S → Prop} {px : SX → Prop} {B : S → State → Prop} {BX : String → SX → State → Prop} {AX : Nat → Prop} (hr : vx_Run p l e R s m args below meth c H locs cells slots mc ms (F0 m pc ls st0) rest (va_Ql post B A1 a) (vx_X px BX AX) free) (hS : va_S A0 H0 H locs) (hA : ∀ q, q < H.size → A1 q → A0 q) (hf : ∀ q, free q → A0 q) (hAX : ∀ q, q < H.size → AX q → A0 q)
    (kx : ∀ (E : String) (ce : Cell) (q9 : Addr) (u : SX) (t : State) (H1 : Heap) (locs1 : List Loc), t.heap = H1 → s.vm.Alike t.vm → px u → BX E u t → H.size ≤ H1.size → (∀ q : Nat, q < H.size → ¬ AX q → H1[q]? = H[q]?) → va_S A0 H0 H1 locs1 → H1[q9]? = some ce → ce.vm = .none → s.vm.findClass E = some ce.cls → vx_W p l e R s m args below meth c H1 locs1 (cells + mc) (slots + ms) Q (F0 m pc ls rest) q9)
    (kk : ∀ (r : Int64) (u : S) (t : State) (H1 : Heap) (locs1 : List Loc), t.heap = H1 → s.vm.Alike t.vm → post r u → B u t → H.size ≤ H1.size → (∀ q : Nat, q < H.size → ¬ A1 q → H1[q]? = H[q]?) → va_S A0 H0 H1 locs1 → W p l e R s m args below meth c H1 locs1 (cells + mc) (slots + ms) Q (F0 m (pc + 3) ls (.long r :: rest))) : W p l e R s m args below meth c H locs cells slots Q (F0 m pc ls st0) := by
  intro T hT X
  rcases hr T hT X with ⟨v, st₀, t, T', L, h0, X', hL, e1, e2, ⟨⟨r, u, hv, hp, hb⟩, hF⟩, st⟩ | ⟨q, st₀, t, T', L, E, ce, h0, X', hL, e1, e2, ⟨u, hp, hb, hF⟩, hce, hcv, hcl, st⟩
  · cases hv
    obtain ⟨k1, k2, k3⟩ := vx_keep h0 e1 hS hA hf hL hF
    obtain ⟨t2, a1, b1⟩ := kk r u t T'.heap (locs ++ L) e1.symm (by rw [← e2]; exact X'.warmed.alike) hp hb k1 k2 k3 T' rfl X'
    exact ⟨t2, st t2 a1, b1⟩
  · obtain ⟨k1, k2, k3⟩ := vx_keep h0 e1 hS hAX hf hL hF
    obtain ⟨t2, a1, b1⟩ := kx E ce q u t T'.heap (locs ++ L) e1.symm (by rw [← e2]; exact X'.warmed.alike) hp hb k1 k2 k3 (by rw [e1]; exact hce) hcv hcl T' rfl X'
    exact ⟨t2, st.trans a1, b1⟩
theorem vx_callf {S SX : Type} {post : UInt32 → S → Prop} {px : SX → Prop} {B : S → State → Prop} {BX : String → SX → State → Prop} {AX : Nat → Prop} (hr : vx_Run p l e R s m args below meth c H locs cells slots mc ms (F0 m pc ls st0) rest (va_Qf post B A1 a) (vx_X px BX AX) free) (hS : va_S A0 H0 H locs) (hA : ∀ q, q < H.size → A1 q → A0 q) (hf : ∀ q, free q → A0 q) (hAX : ∀ q, q < H.size → AX q → A0 q)
    (kx : ∀ (E : String) (ce : Cell) (q9 : Addr) (u : SX) (t : State) (H1 : Heap) (locs1 : List Loc), t.heap = H1 → s.vm.Alike t.vm → px u → BX E u t → H.size ≤ H1.size → (∀ q : Nat, q < H.size → ¬ AX q → H1[q]? = H[q]?) → va_S A0 H0 H1 locs1 → H1[q9]? = some ce → ce.vm = .none → s.vm.findClass E = some ce.cls → vx_W p l e R s m args below meth c H1 locs1 (cells + mc) (slots + ms) Q (F0 m pc ls rest) q9)
    (kk : ∀ (r : UInt32) (u : S) (t : State) (H1 : Heap) (locs1 : List Loc), t.heap = H1 → s.vm.Alike t.vm → post r u → B u t → H.size ≤ H1.size → (∀ q : Nat, q < H.size → ¬ A1 q → H1[q]? = H[q]?) → va_S A0 H0 H1 locs1 → W p l e R s m args below meth c H1 locs1 (cells + mc) (slots + ms) Q (F0 m (pc + 3) ls (.float r :: rest))) : W p l e R s m args below meth c H locs cells slots Q (F0 m pc ls st0) := by
  intro T hT X
  rcases hr T hT X with ⟨v, st₀, t, T', L, h0, X', hL, e1, e2, ⟨⟨r, u, hv, hp, hb⟩, hF⟩, st⟩ | ⟨q, st₀, t, T', L, E, ce, h0, X', hL, e1, e2, ⟨u, hp, hb, hF⟩, hce, hcv, hcl, st⟩
  · cases hv
    obtain ⟨k1, k2, k3⟩ := vx_keep h0 e1 hS hA hf hL hF
    obtain ⟨t2, a1, b1⟩ := kk r u t T'.heap (locs ++ L) e1.symm (by rw [← e2]; exact X'.warmed.alike) hp hb k1 k2 k3 T' rfl X'
    exact ⟨t2, st t2 a1, b1⟩
  · obtain ⟨k1, k2, k3⟩ := vx_keep h0 e1 hS hAX hf hL hF
    obtain ⟨t2, a1, b1⟩ := kx E ce q u t T'.heap (locs ++ L) e1.symm (by rw [← e2]; exact X'.warmed.alike) hp hb k1 k2 k3 (by rw [e1]; exact hce) hcv hcl T' rfl X'
    exact ⟨t2, st.trans a1, b1⟩
theorem vx_calld {S SX : Type} {post : UInt64 → S → Prop} {px : SX → Prop} {B : S → State → Prop} {BX : String → SX → State → Prop} {AX : Nat → Prop} (hr : vx_Run p l e R s m args below meth c H locs cells slots mc ms (F0 m pc ls st0) rest (va_Qd post B A1 a) (vx_X px BX AX) free) (hS : va_S A0 H0 H locs) (hA : ∀ q, q < H.size → A1 q → A0 q) (hf : ∀ q, free q → A0 q) (hAX : ∀ q, q < H.size → AX q → A0 q)
    (kx : ∀ (E : String) (ce : Cell) (q9 : Addr) (u : SX) (t : State) (H1 : Heap) (locs1 : List Loc), t.heap = H1 → s.vm.Alike t.vm → px u → BX E u t → H.size ≤ H1.size → (∀ q : Nat, q < H.size → ¬ AX q → H1[q]? = H[q]?) → va_S A0 H0 H1 locs1 → H1[q9]? = some ce → ce.vm = .none → s.vm.findClass E = some ce.cls → vx_W p l e R s m args below meth c H1 locs1 (cells + mc) (slots + ms) Q (F0 m pc ls rest) q9)
    (kk : ∀ (r : UInt64) (u : S) (t : State) (H1 : Heap) (locs1 : List Loc), t.heap = H1 → s.vm.Alike t.vm → post r u → B u t → H.size ≤ H1.size → (∀ q : Nat, q < H.size → ¬ A1 q → H1[q]? = H[q]?) → va_S A0 H0 H1 locs1 → W p l e R s m args below meth c H1 locs1 (cells + mc) (slots + ms) Q (F0 m (pc + 3) ls (.double r :: rest))) : W p l e R s m args below meth c H locs cells slots Q (F0 m pc ls st0) := by
  intro T hT X
  rcases hr T hT X with ⟨v, st₀, t, T', L, h0, X', hL, e1, e2, ⟨⟨r, u, hv, hp, hb⟩, hF⟩, st⟩ | ⟨q, st₀, t, T', L, E, ce, h0, X', hL, e1, e2, ⟨u, hp, hb, hF⟩, hce, hcv, hcl, st⟩
  · cases hv
    obtain ⟨k1, k2, k3⟩ := vx_keep h0 e1 hS hA hf hL hF
    obtain ⟨t2, a1, b1⟩ := kk r u t T'.heap (locs ++ L) e1.symm (by rw [← e2]; exact X'.warmed.alike) hp hb k1 k2 k3 T' rfl X'
    exact ⟨t2, st t2 a1, b1⟩
  · obtain ⟨k1, k2, k3⟩ := vx_keep h0 e1 hS hAX hf hL hF
    obtain ⟨t2, a1, b1⟩ := kx E ce q u t T'.heap (locs ++ L) e1.symm (by rw [← e2]; exact X'.warmed.alike) hp hb k1 k2 k3 (by rw [e1]; exact hce) hcv hcl T' rfl X'
    exact ⟨t2, st.trans a1, b1⟩
theorem vx_callv {S SX : Type} {post : S → Prop} {px : SX → Prop} {B : S → State → Prop} {BX : String → SX → State → Prop} {AX : Nat → Prop} (hr : vx_Run p l e R s m args below meth c H locs cells slots mc ms (F0 m pc ls st0) rest (va_Qv post B A1 a) (vx_X px BX AX) free) (hS : va_S A0 H0 H locs) (hA : ∀ q, q < H.size → A1 q → A0 q) (hf : ∀ q, free q → A0 q) (hAX : ∀ q, q < H.size → AX q → A0 q)
    (kx : ∀ (E : String) (ce : Cell) (q9 : Addr) (u : SX) (t : State) (H1 : Heap) (locs1 : List Loc), t.heap = H1 → s.vm.Alike t.vm → px u → BX E u t → H.size ≤ H1.size → (∀ q : Nat, q < H.size → ¬ AX q → H1[q]? = H[q]?) → va_S A0 H0 H1 locs1 → H1[q9]? = some ce → ce.vm = .none → s.vm.findClass E = some ce.cls → vx_W p l e R s m args below meth c H1 locs1 (cells + mc) (slots + ms) Q (F0 m pc ls rest) q9)
    (kk : ∀ (u : S) (t : State) (H1 : Heap) (locs1 : List Loc), t.heap = H1 → s.vm.Alike t.vm → post u → B u t → H.size ≤ H1.size → (∀ q : Nat, q < H.size → ¬ A1 q → H1[q]? = H[q]?) → va_S A0 H0 H1 locs1 → W p l e R s m args below meth c H1 locs1 (cells + mc) (slots + ms) Q (F0 m (pc + 3) ls (rest))) : W p l e R s m args below meth c H locs cells slots Q (F0 m pc ls st0) := by
  intro T hT X
  rcases hr T hT X with ⟨v, st₀, t, T', L, h0, X', hL, e1, e2, ⟨⟨u, hv, hp, hb⟩, hF⟩, st⟩ | ⟨q, st₀, t, T', L, E, ce, h0, X', hL, e1, e2, ⟨u, hp, hb, hF⟩, hce, hcv, hcl, st⟩
  · cases hv
    obtain ⟨k1, k2, k3⟩ := vx_keep h0 e1 hS hA hf hL hF
    obtain ⟨t2, a1, b1⟩ := kk u t T'.heap (locs ++ L) e1.symm (by rw [← e2]; exact X'.warmed.alike) hp hb k1 k2 k3 T' rfl X'
    exact ⟨t2, st t2 a1, b1⟩
  · obtain ⟨k1, k2, k3⟩ := vx_keep h0 e1 hS hAX hf hL hF
    obtain ⟨t2, a1, b1⟩ := kx E ce q u t T'.heap (locs ++ L) e1.symm (by rw [← e2]; exact X'.warmed.alike) hp hb k1 k2 k3 (by rw [e1]; exact hce) hcv hcl T' rfl X'
    exact ⟨t2, st.trans a1, b1⟩
/-- caught by the row x of this method's table; the rows ahead don't take it -/
theorem vx_catch {own name : String} {E : String} {ce : Cell} {q : Addr} (hown : s.vm.findClass own = some m.cls) (pre : List ExceptionTableEntry) (x : ExceptionTableEntry) (suf : List ExceptionTableEntry) (hsplit : c.exceptionTable.toList = pre ++ x :: suf)
    (hpass : ∀ z ∈ pre, covers z pc = false ∨ (z.catchType ≠ 0 ∧ ∃ nm : String, (Cond.classLink own z.catchType nm).before args s = true ∧ va_Nc E nm s)) (hx : covers x pc = true) (h0 : x.catchType ≠ 0)
    (hlink : (Cond.classLink own x.catchType name).before args s = true) (hcast : (Cond.castable E name).before args s = true) (hcell : H[q]? = some ce) (hv : ce.vm = .none) (hcl : s.vm.findClass E = some ce.cls)
    (kk : W p l e R s m args below meth c H locs cells slots Q (F0 m x.handlerPc ls [.ref q])) : vx_W p l e R s m args below meth c H locs cells slots Q (F0 m pc ls rest) q := by
  intro T hT X
  have hpl : e.platform.magicAccessors = ({} : Platform).magicAccessors := by rw [X.admits.platform]
  obtain ⟨c3, c4, hc3, hc4, hasg⟩ := Cond.castable_spec hcast
  cases Option.some.inj (hc3.symm.trans hcl)
  obtain ⟨c5, hc5, hcl5⟩ := Cond.classLink_spec hown hlink e.platform hpl
  cases Option.some.inj (hc4.symm.trans hc5)
  obtain ⟨vm', X', st⟩ := X.thenCaughtThrough q (g := F0 m pc ls rest) rfl (Steps.refl _) (by rw [hT]; exact hcell) (by rw [hv]; rfl) (by obtain ⟨k9, h9, -⟩ := Vm.findClass_spec hcl; exact ⟨k9, h9⟩) pre x suf hsplit
    (fun z hz => by
      rcases hpass z hz with h | ⟨hz0, nm, hl1, hn1⟩
      · exact Or.inl h
      · obtain ⟨c6, hc6, hcl6⟩ := Cond.classLink_spec hown hl1 e.platform hpl
        obtain ⟨a8, b8, h1, h2, h3⟩ := hn1
        cases Option.some.inj (h1.symm.trans hcl)
        cases Option.some.inj (h2.symm.trans hc6)
        exact Or.inr ⟨hz0, _, hcl6, h3⟩) hx (Or.inr ⟨h0, c4, hcl5, hasg⟩)
  obtain ⟨t, a1, b1⟩ := kk (T.setVm vm') hT X'
  exact ⟨t, st.trans a1, b1⟩
end Rows
section Ends
variable {p : Program} {l : Launch} {e : Env} {R : Room} {s : State} {m : MethodId} {args : Array Value} {below : List Frame} {meth : Method} {c : Code} {H : Heap} {locs : List Loc} {cells slots : Nat} {Q : State → Prop}
variable {mc ms : Nat} {free : Addr → Prop} {A0 A1 : Nat → Prop} {H0 : Heap} {a : Array Value} {ls : Array Slot} {st0 rest : List Value}
variable {Qc : Array Value → State → Outcome → State → Prop} {XC : String → State → State → Prop}
/-- what a body that may throw owes at its end -/
def vx_MQ (below : List Frame) (Qc : Array Value → State → Outcome → State → Prop) (XC : String → State → State → Prop) (a : Array Value) (s : State) (mc ms : Nat) (free : Addr → Prop) : State → Prop := fun t =>
  ∃ o, t.status = .running ∧ Ended t below o ∧ vx_Q Qc XC mc ms free a s o t
theorem vx_ret {g : JFrame} {mc ms : Nat} (k : W p l e R s m args below meth c H locs cells slots (MQ below Qc args s mc ms free) g) : W p l e R s m args below meth c H locs cells slots (vx_MQ below Qc XC args s mc ms free) g := by
  intro T hT X
  obtain ⟨t, a1, o, b1, b2, b3, b4⟩ := k T hT X
  exact ⟨t, a1, o, b1, b2, Or.inl ⟨b3, b4⟩⟩
/-- not caught here: it goes on to the caller -/
theorem vx_widen {g : JFrame} {q : Addr} {k n : Nat} (h1 : cells ≤ k) (h2 : slots ≤ n) (kk : vx_W p l e R s m args below meth c H locs k n Q g q) : vx_W p l e R s m args below meth c H locs cells slots Q g q := fun T hT X => kk T hT (stand_widen X h1 h2)
theorem vx_out {pc : Nat} {E : String} {ce : Cell} {q : Addr} {mc ms : Nat} (hout : ∀ x ∈ c.exceptionTable.toList, covers x pc = false) (hlocks : meth.locks = false) (hcell : H[q]? = some ce) (hv : ce.vm = .none) (hcl : s.vm.findClass E = some ce.cls)
    (hx : ∀ t : State, t.heap = H → s.vm.Alike t.vm → XC E s t) (hf : ∀ z ∈ locs, free z.base) (hc : cells ≤ mc) (hs : slots ≤ ms) :
    vx_W p l e R s m args below meth c H locs cells slots (vx_MQ below Qc XC args s mc ms free) (F0 m pc ls rest) q := by
  intro T hT X
  obtain ⟨st1, hrun, hend, hW, hsm⟩ := X.leaveThrown q (g := F0 m pc ls rest) rfl rfl rfl hout hlocks
  have hcell9 : (T.setFrames (.throwing q :: below)).heap[q]? = some ce := by
    show T.heap[q]? = some ce
    rw [hT]; exact hcell
  exact ⟨_, st1, .threw q, hrun, hend, Or.inr ⟨q, rfl, E, ce, locs, hx _ hT hW.alike, hcell9, hv, hcl, hW, hsm.mono hc hs, hf⟩⟩
theorem vx_frame {U : State} {k n : Nat} (h : s.sameButNew ({ U with vm := s.vm } : State) locs k n) : s.heap.size ≤ U.heap.size ∧ ∀ q : Nat, q < s.heap.size → (∀ z ∈ locs, z.base ≠ q) → U.heap[q]? = s.heap[q]? := by
  obtain ⟨-, h2, -, -, -, h6⟩ := h
  refine ⟨h2, fun q hq hz => ?_⟩
  obtain ⟨c9, e1, e2, e3, e4⟩ := h6 q _ (Array.getElem?_eq_getElem hq)
  have hs : c9.slots = (s.heap[q]).slots := Array.ext_getElem? fun i => e4 i fun hm => hz _ hm rfl
  have h9 : c9 = s.heap[q] := by
    rw [hs] at e2
    exact e2
  have e5 : U.heap[q]? = some c9 := e1
  rw [e5, h9, Array.getElem?_eq_getElem hq]
/-- the words of a throw but the four that speak of the heap -/
def vx_no (w : Cond) : Bool := decide (w ≠ .isRef (.static Bundle.tN "UNASSIGNED_STACK" Bundle.steD)) && decide (w ≠ .isRef (.static Bundle.tN "SUPPRESSED_SENTINEL" Bundle.listD)) && decide (w ≠ .laysStatic Bundle.tN "UNASSIGNED_STACK" Bundle.steD) && decide (w ≠ .laysStatic Bundle.tN "SUPPRESSED_SENTINEL" Bundle.listD)
def vx_at0 (own : String) (ic : Nat) (X : String) (names : List String) : List Cond := (Bundle.ownAtoms0 own ic X names).filter vx_no
def vx_atS (own : String) (ic : Nat) (X : String) (names : List String) : List Cond := (Bundle.ownAtoms own ic X names).filter vx_no
/-- a word that the tables alone decide, or a good one -/
def vx_ot (w : Cond) : Bool := w.onTables || goodWord w
theorem vx_ot_at {args a' : Array Value} {s U : State} {w : Cond} (hW : s.WarmedH U.vm) (hvm : s.vm = U.vm) (hg : vx_ot w = true) (h : w.before args s = true) : w.before a' U = true := by
  simp only [vx_ot, Bool.or_eq_true] at hg
  rcases hg with hg | hg
  · exact va_tabs hg hvm h
  · exact word_at hW (good_of_word hg) h
/-- a list's words: the good ones out of the method's own list, the others by premises of their own -/
theorem vx_hat {args : Array Value} {s : State} {L B : List Cond} (h1 : ∀ w ∈ L.filter goodWord, w.before args s = true) (h2 : ∀ w ∈ L.filter (fun w => !goodWord w), w ∈ B) (h3 : ∀ w ∈ B, w.before args s = true) : ∀ w ∈ L, w.before args s = true := by
  intro w hw
  by_cases g : goodWord w = true
  · exact h1 w (List.mem_filter.mpr ⟨hw, g⟩)
  · refine h3 w (h2 w (List.mem_filter.mpr ⟨hw, ?_⟩))
    show (!goodWord w) = true
    cases hgw : goodWord w
    · rfl
    · exact absurd hgw g
theorem vx_c {args : Array Value} {s : State} {w : Cond} {B : List Cond} (h : w.before args s = true) (t : ∀ w ∈ B, w.before args s = true) : ∀ w' ∈ w :: B, w'.before args s = true := fun w' h' => (List.mem_cons.mp h').elim (fun e => by rw [e]; exact h) (t w')
theorem vx_n {args : Array Value} {s : State} : ∀ w ∈ ([] : List Cond), w.before args s = true := fun _ h => nomatch h
theorem vx_own {args : Array Value} {s : State} {L : List Cond} (h1 : ∀ w ∈ L.filter vx_no, w.before args s = true)
    (hU : (Cond.isRef (.static Bundle.tN "UNASSIGNED_STACK" Bundle.steD)).before args s = true) (hN : (Cond.isRef (.static Bundle.tN "SUPPRESSED_SENTINEL" Bundle.listD)).before args s = true)
    (lU : (Cond.laysStatic Bundle.tN "UNASSIGNED_STACK" Bundle.steD).before args s = true) (lN : (Cond.laysStatic Bundle.tN "SUPPRESSED_SENTINEL" Bundle.listD).before args s = true) : ∀ w ∈ L, w.before args s = true := by
  intro w hw
  by_cases e1 : w = .isRef (.static Bundle.tN "UNASSIGNED_STACK" Bundle.steD)
  · rw [e1]; exact hU
  · by_cases e2 : w = .isRef (.static Bundle.tN "SUPPRESSED_SENTINEL" Bundle.listD)
    · rw [e2]; exact hN
    · by_cases e3 : w = .laysStatic Bundle.tN "UNASSIGNED_STACK" Bundle.steD
      · rw [e3]; exact lU
      · by_cases e4 : w = .laysStatic Bundle.tN "SUPPRESSED_SENTINEL" Bundle.listD
        · rw [e4]; exact lN
        · exact h1 w (List.mem_filter.mpr ⟨hw, by unfold vx_no; rw [decide_eq_true e1, decide_eq_true e2, decide_eq_true e3, decide_eq_true e4]; rfl⟩)
/-- where a static field lies, its class's statics cell in H -/
def vx_L (C n d : String) (A : Nat → Prop) (U : State) (H : Heap) : Prop := ∃ (c : ClassId) (k : Class) (i : Nat) (f : Field) (a : Nat) (cell : Cell), U.vm.findClass C = some c ∧ U.fieldFound? C n d = some (c, k, i, f) ∧ f.isStatic = true ∧ k.statics = some a ∧ H[a]? = some cell ∧ cell.vm.isStatics = true ∧ cell.cls = c ∧ f.slot < cell.slots.size ∧ k.staticTypes[f.slot]? = some f.type ∧ ¬ A a
theorem vx_L.moved {C n d : String} {A : Nat → Prop} {u U : State} {H : Heap} (hvm : u.vm.Alike U.vm) (h : vx_L C n d A u H) : vx_L C n d A U H := by
  obtain ⟨c, k, i, f, a, cell, h1, h2, h3, h4, h5, h6, h7, h8, h9, h10⟩ := h
  obtain ⟨k', hi', he⟩ := State.fieldFound?_setVm hvm h2
  exact ⟨c, k', i, f, a, cell, by rw [hvm.findClass]; exact h1, hi', h3, by rw [he]; exact h4, h5, h6, h7, h8, by rw [he]; exact h9, h10⟩
theorem vx_L.kept {C n d : String} {A : Nat → Prop} {U : State} {H H1 : Heap} (h : vx_L C n d A U H) (hq : ∀ a : Nat, a < H.size → ¬ A a → H1[a]? = H[a]?) : vx_L C n d A U H1 := by
  obtain ⟨c, k, i, f, a, cell, h1, h2, h3, h4, h5, h6, h7, h8, h9, h10⟩ := h
  exact ⟨c, k, i, f, a, cell, h1, h2, h3, h4, by rw [hq a (Array.getElem?_eq_some_iff.mp h5).1 h10]; exact h5, h6, h7, h8, h9, h10⟩
theorem vx_L.narrow {C n d : String} {A B : Nat → Prop} {U : State} {H : Heap} (h : vx_L C n d A U H) (hAB : ∀ q, B q → A q) : vx_L C n d B U H := by
  obtain ⟨c, k, i, f, a, cell, h1, h2, h3, h4, h5, h6, h7, h8, h9, h10⟩ := h
  exact ⟨c, k, i, f, a, cell, h1, h2, h3, h4, h5, h6, h7, h8, h9, fun z => h10 (hAB _ z)⟩
theorem vx_L.word {C n d : String} {A : Nat → Prop} {s : State} {args : Array Value} (h : vx_L C n d A s s.heap) : (Cond.laysStatic C n d).before args s = true := by
  obtain ⟨c, k, i, f, a, cell, h1, h2, h3, h4, h5, h6, h7, h8, h9, -⟩ := h
  show (Cond.laysStatic C n d).holds args s none s [] = true
  exact Cond.laysStatic_of h1 h2 h3 h4 h5 h6 h7 h8 h9
/-- .. and what it holds: null or some reference -/
def vx_Zq (C n d : String) (A : Nat → Prop) (U : State) (H : Heap) : Prop := va_Zq C n d A U H ∧ vx_L C n d A U H
theorem vx_Zq.moved {C n d : String} {A : Nat → Prop} {u U : State} {H : Heap} (hvm : u.vm.Alike U.vm) (h : vx_Zq C n d A u H) : vx_Zq C n d A U H := ⟨va_Zq.moved hvm h.1, vx_L.moved hvm h.2⟩
theorem vx_Zq.kept {C n d : String} {A : Nat → Prop} {U : State} {H H1 : Heap} (h : vx_Zq C n d A U H) (hq : ∀ a : Nat, a < H.size → ¬ A a → H1[a]? = H[a]?) : vx_Zq C n d A U H1 := ⟨va_Zq.kept h.1 hq, vx_L.kept h.2 hq⟩
theorem vx_Zq.narrow {C n d : String} {A B : Nat → Prop} {U : State} {H : Heap} (h : vx_Zq C n d A U H) (hAB : ∀ q, B q → A q) : vx_Zq C n d B U H := ⟨va_Zq.narrow h.1 hAB, vx_L.narrow h.2 hAB⟩
theorem vx_Zqof {args : Array Value} {s : State} {C n d : String} {A : Nat → Prop} (hl : (Cond.laysStatic C n d).before args s = true) (hini : (Cond.initialized C).before args s = true) (h : (Cond.isRef (.static C n d)).before args s = true) (hA : ∀ a : Nat, a < s.heap.size → ¬ A a) : vx_Zq C n d A s s.heap := by
  refine ⟨va_Zqof hl hini h hA, ?_⟩
  obtain ⟨c, k, i, f, a, cell, h1, h2, h3, h4, h5, h6, h7, h8, h9⟩ := Cond.laysStatic_spec hl
  exact ⟨c, k, i, f, a, cell, h1, h2, h3, h4, h5, h6, h7, h8, h9, hA a (Array.getElem?_eq_some_iff.mp h5).1⟩
theorem vx_isRef {C n d : String} {v : Value} {A : Nat → Prop} {s : State} {args : Array Value} (h : va_Z C n d v A s s.heap) (hv : v.isRef = true) : (Cond.isRef (.static C n d)).before args s = true := by
  obtain ⟨cf, kf, fi, f, a, cell, h1, h2, h3, h4, h5, h6, h7, -⟩ := h
  have he : (Term.static C n d).eval args s none [] s = some v := by
    simp [Term.eval, State.fieldNamed?, h1, h2, h4, h5, h6, h7]
  simp only [Cond.before, Cond.holds, Cond.value, he]
  cases v <;> simp_all [Value.isRef]
theorem vx_isRefq {C n d : String} {A : Nat → Prop} {s : State} {args : Array Value} (h : va_Zq C n d A s s.heap) : (Cond.isRef (.static C n d)).before args s = true := by
  rcases h with h | ⟨t, h⟩
  · exact vx_isRef h rfl
  · exact vx_isRef h rfl
/-- the same frame, seen from here: as if the method were called anew in this heap -/
theorem vx_rebase {T : State} (X : Stand p l e R s m args below meth c T locs cells slots) {R' : Room} (hf : R'.frames ≤ R.frames) (hl : R'.locals ≤ R.locals) (hc : cells + R'.cells ≤ R.cells) (hs : slots + R'.slots ≤ R.slots) :
    Stand p l e R' ((T.setVm s.vm).setFrames (.invoking m args :: below)) m args below meth c T [] 0 0 := by
  have htop : (T.setVm s.vm).topJava?.isSome := X.here.top
  have hF : ((T.setVm s.vm).setFrames (.invoking m args :: below)).frames = .invoking m args :: below := State.frames_setFrames _ (State.cur_lt_of_top htop)
  obtain ⟨g₀, hg0⟩ := Option.isSome_iff_exists.mp htop
  obtain ⟨r, hr⟩ := State.topJava?_eq_some.mp hg0
  have hl9 : e.platform.stackLimits (T.setVm s.vm).me = e.platform.stackLimits s.me := X.limits
  have hb9 : (T.setVm s.vm).me.stackBytes = s.me.stackBytes := X.bytes
  refine ⟨X.admits, X.cas, X.clock, hF, ?_, X.hears, X.method, X.code, X.here, X.tail, X.warmed, ?_, ?_, ?_⟩
  · have h := X.room
    have hU : ((T.setVm s.vm).setFrames (.invoking m args :: below)).localsInUse = s.localsInUse := by
      rw [State.localsInUse_invoking hF (meth := meth) (c := c) X.method X.code, State.localsInUse_invoking X.frames X.method X.code]
    simp only [State.hasRoom, Bool.and_eq_true, decide_eq_true_eq] at h ⊢
    obtain ⟨⟨⟨⟨h1, h2, h3, h4, h5, h6⟩, h7⟩, h8⟩, h9⟩ := h
    rw [X.frames, List.length_cons] at h2 h3
    have q1 := X.heapSize
    have q2 := X.used
    simp only [hF, hU, List.length_cons, State.stackLimits_setFrames, State.stackBytes_setFrames, hl9, hb9]
    refine ⟨⟨⟨⟨by omega, by omega, by omega, by omega, by omega, h6⟩, ?_⟩, ?_⟩, X.book⟩
    · show T.heap.size + R'.cells ≤ e.platform.maxCells
      omega
    · show T.slotsUsed + R'.slots ≤ e.platform.maxSlots
      omega
  · rw [State.stackLimits_setFrames]; rfl
  · rw [State.stackBytes_setFrames]; rfl
  · refine ⟨?_, Nat.le_refl _, Nat.le_refl _, ?_, ?_, fun a c9 h9 => ⟨c9, h9, rfl, rfl, fun _ _ => rfl⟩⟩
    · obtain ⟨t, ht, -⟩ := State.frames_cons hr
      show T.setVm s.vm = { ((T.setVm s.vm).setFrames (.invoking m args :: below)).setFrames (T.setVm s.vm).frames with heap := T.heap, slotsUsed := T.slotsUsed }
      rw [State.setFrames_setFrames, State.setFrames_self ht]
      rfl
    · show T.slotsUsed = T.slotsUsed + ((T.heap.toList.drop T.heap.size).map (·.slots.size)).sum
      rw [List.drop_eq_nil_of_le (Nat.le_of_eq Array.length_toList)]
      rfl
    · show ((T.heap.toList.drop T.heap.size).map (·.slots.size)).sum ≤ 0
      rw [List.drop_eq_nil_of_le (Nat.le_of_eq Array.length_toList)]
      exact Nat.le_refl _
/-- 'throw new E()': new; dup; invokespecial; athrow -/
theorem vx_throw0 {cc : ByteArray} {pc : Nat} (hexec : p.tables.exec = Jvm.exec) (hb : c.code = cc) (hl : l.stackTraces = false) {own cls : String} {names : List String} {ik ic mc ms : Nat} {A : Nat → Prop}
    (hown : s.vm.findClass own = some m.cls) (hcls : Bundle.fit cls = true) (hnames : ∀ n ∈ names, Bundle.fit n = true)
    (hk : (Cond.classLink own ik cls).before args s = true) (hini : (Cond.initialized cls).before args s = true) (hat : ∀ w ∈ vx_at0 own ic cls names, w.before args s = true)
    (hgood : ∀ w ∈ Cond.classLink own ik cls :: Cond.initialized cls :: vx_at0 own ic cls names, vx_ot w = true)
    (hU : vx_Zq Bundle.tN "UNASSIGNED_STACK" Bundle.steD A s s.heap) (hN : vx_Zq Bundle.tN "SUPPRESSED_SENTINEL" Bundle.listD A s s.heap) (hS : va_S A s.heap H locs) (hsize : ls.size = c.maxLocals)
    (d0 : decode cc pc = .ok (.new ik, 3)) (d3 : decode cc (pc + 3) = .ok (.dup, 1)) (d4 : decode cc (pc + 4) = .ok (.invokespecial ic, 3)) (d7 : decode cc (pc + 7) = .ok (.athrow, 1))
    (hout : ∀ x ∈ c.exceptionTable.toList, covers x (pc + 7) = false)
    (hRframes : names.length + 3 < R.frames) (hRlocals : (rest.map fun v => v.category).sum + (13 * (names.length + 1) + 42) ≤ R.locals) (hRcells : cells + 1 ≤ R.cells) (hRslots : slots + 6 ≤ R.slots) (hlocks : meth.locks = false)
    (hx : ∀ t : State, s.vm.Alike t.vm → H.size ≤ t.heap.size → (∀ q : Nat, q < H.size → t.heap[q]? = H[q]?) → XC cls s t)
    (hf : ∀ z ∈ locs, free z.base) (hc : cells + 1 ≤ mc) (hs : slots + 6 ≤ ms) :
    W p l e R s m args below meth c H locs cells slots (vx_MQ below Qc XC args s mc ms free) (F0 m pc ls rest) := by
  intro T hT X
  have htr : e.platform.stackTraces = false := (show e.platform.stackTraces = l.stackTraces by rw [X.admits.platform]).trans hl
  have Y := vx_rebase X (R' := { frames := R.frames, locals := R.locals, cells := 1, slots := 6 }) (Nat.le_refl _) (Nat.le_refl _) hRcells hRslots
  obtain ⟨s', hA⟩ : ∃ z, z = (T.setVm s.vm).setFrames (.invoking m args :: below) := ⟨_, rfl⟩
  rw [← hA] at Y
  have hvm : s'.vm = s.vm := by rw [hA]; rfl
  have hhp : s'.heap = H := by rw [hA]; exact hT
  have hW0 : s.WarmedH s'.vm := by rw [hvm]; exact State.WarmedH.refl s
  have hat' : ∀ w ∈ vx_at0 own ic cls names, w.before args s' = true := fun w hw => vx_ot_at hW0 hvm.symm (hgood w (List.mem_cons_of_mem _ (List.mem_cons_of_mem _ hw))) (hat w hw)
  have hk' : (Cond.classLink own ik cls).before args s' = true := vx_ot_at hW0 hvm.symm (hgood _ List.mem_cons_self) hk
  have hini' : (Cond.initialized cls).before args s' = true := vx_ot_at hW0 hvm.symm (hgood _ (List.mem_cons_of_mem _ List.mem_cons_self)) hini
  have hU' : vx_Zq Bundle.tN "UNASSIGNED_STACK" Bundle.steD A s' s'.heap := by rw [hhp]; exact vx_Zq.moved hW0.alike (hU.kept hS.2.1)
  have hN' : vx_Zq Bundle.tN "SUPPRESSED_SENTINEL" Bundle.listD A s' s'.heap := by rw [hhp]; exact vx_Zq.moved hW0.alike (hN.kept hS.2.1)
  have h : ∀ w ∈ Bundle.ownAtoms0 own ic cls names, w.before args s' = true := vx_own hat' (vx_isRefq hU'.1) (vx_isRefq hN'.1) hU'.2.word hN'.2.word
  have hown' : s'.vm.findClass own = some m.cls := by rw [hvm]; exact hown
  have hins : (Cond.instantiable cls 6).before args s' = true := h _ (by simp [Bundle.ownAtoms0])
  obtain ⟨vm₁, cX, kX, hfX, hkX, -, -, X₁, st1⟩ := Y.newCold hexec (own := own) (C := cls) (index := ik) (n := 6) hown' hk' hins hini'
    (g := F0 m pc ls rest) rfl (by rw [hb]; exact d0) (Nat.le_refl _) (Nat.le_refl _)
  generalize hT1 : (T.setVm vm₁).pushCell { cls := cX, slots := kX.instanceTypes.map defaultValue, vm := .none } = T1 at X₁ st1
  have hcat : (Value.ref T.heap.size).category = 1 := rfl
  have hcellA : T1.heap[T.heap.size]? = some (freshCell cX kX) := by rw [← hT1]; exact State.heap_pushCell_size _ _
  have d3' : decode c.code (pc + 3) = .ok (.dup, 1) := by rw [hb]; exact d3
  obtain ⟨U, hsteps, hrun, hend, hW, hsame, ce, hce, hO⟩ := X₁.ctorThrow0 hexec htr (own := own) (cls := cls) (names := names) (ic := ic) hown' hcls hnames h (fun x hx => nomatch hx) hfX hkX hcellA (by rw [hhp, hT]; exact Nat.le_refl _)
    (g := { method := m, pc := pc + 4, locals := ls, stack := .ref T.heap.size :: .ref T.heap.size :: rest, locked := none }) rfl hsize rfl rfl (rest := rest) rfl
    (by rw [hb]; exact d4) (by rw [hb]; exact d7) hout hRframes (by simp only [List.map_cons, List.sum_cons, hcat]; omega) hlocks
  obtain ⟨f1, f2⟩ := vx_frame hsame
  rw [hhp] at f1 f2
  have hWs : s.WarmedH U.vm := State.WarmedH.trans hW0 hW
  have hcl : s.vm.findClass cls = some ce.cls := by
    have h9 := hO.cls
    rw [hvm] at h9
    exact h9
  have hall : s.sameButNew ({ U with vm := s.vm } : State) locs mc ms := by
    subst hA
    obtain ⟨e1, e2⟩ := hsame
    rw [State.setFrames_setFrames] at e1
    have h2 : (T.setVm s.vm).sameButNew ({ U with vm := s.vm } : State) [] (0 + 1) (0 + 6) := ⟨e1, e2⟩
    have h3 := X.same.trans h2
    rw [List.append_nil] at h3
    exact h3.mono hc hs
  refine ⟨U, ?_, .threw T.heap.size, hrun, hend, Or.inr ⟨T.heap.size, rfl, cls, ce, locs, hx U hWs.alike f1 (fun q hq => f2 q hq (fun z hz => nomatch hz)), hce, hO.vm, hcl, hWs, hall, hf⟩⟩
  refine st1 _ ?_
  show Steps p.tables e below (T1.setTop { method := m, pc := pc + 3, locals := ls, stack := .ref T.heap.size :: rest, locked := none }) _
  jvm_step X₁.here [X₁.here.top, hexec, d3', Value.category]
  exact hsteps
/-- 'throw new E("text")': new; dup; ldc; invokespecial; athrow -/
theorem vx_throwS {cc : ByteArray} {pc : Nat} (hexec : p.tables.exec = Jvm.exec) (hb : c.code = cc) (hl : l.stackTraces = false) {own cls text : String} {names : List String} {ik is ic mc ms sa : Nat} {A : Nat → Prop}
    (hown : s.vm.findClass own = some m.cls) (hcls : Bundle.fit cls = true) (hnames : ∀ n ∈ names, Bundle.fit n = true)
    (hk : (Cond.classLink own ik cls).before args s = true) (hini : (Cond.initialized cls).before args s = true) (hstr : vk_R own is text sa s) (hat : ∀ w ∈ vx_atS own ic cls names, w.before args s = true)
    (hgood : ∀ w ∈ Cond.classLink own ik cls :: Cond.initialized cls :: vx_atS own ic cls names, vx_ot w = true)
    (hU : vx_Zq Bundle.tN "UNASSIGNED_STACK" Bundle.steD A s s.heap) (hN : vx_Zq Bundle.tN "SUPPRESSED_SENTINEL" Bundle.listD A s s.heap) (hS : va_S A s.heap H locs) (hsize : ls.size = c.maxLocals)
    (d0 : decode cc pc = .ok (.new ik, 3)) (d3 : decode cc (pc + 3) = .ok (.dup, 1)) (d4 : decode cc (pc + 4) = .ok (.ldc is, 2)) (d6 : decode cc (pc + 6) = .ok (.invokespecial ic, 3)) (d9 : decode cc (pc + 9) = .ok (.athrow, 1))
    (hout : ∀ x ∈ c.exceptionTable.toList, covers x (pc + 9) = false)
    (hRframes : names.length + 3 < R.frames) (hRlocals : (rest.map fun v => v.category).sum + (13 * (names.length + 1) + 43) ≤ R.locals) (hRcells : cells + 1 ≤ R.cells) (hRslots : slots + 6 ≤ R.slots) (hlocks : meth.locks = false)
    (hx : ∀ t : State, s.vm.Alike t.vm → H.size ≤ t.heap.size → (∀ q : Nat, q < H.size → t.heap[q]? = H[q]?) → XC cls s t)
    (hf : ∀ z ∈ locs, free z.base) (hc : cells + 1 ≤ mc) (hs : slots + 6 ≤ ms) :
    W p l e R s m args below meth c H locs cells slots (vx_MQ below Qc XC args s mc ms free) (F0 m pc ls rest) := by
  intro T hT X
  have htr : e.platform.stackTraces = false := (show e.platform.stackTraces = l.stackTraces by rw [X.admits.platform]).trans hl
  have Y := vx_rebase X (R' := { frames := R.frames, locals := R.locals, cells := 1, slots := 6 }) (Nat.le_refl _) (Nat.le_refl _) hRcells hRslots
  obtain ⟨s', hA⟩ : ∃ z, z = (T.setVm s.vm).setFrames (.invoking m args :: below) := ⟨_, rfl⟩
  rw [← hA] at Y
  have hvm : s'.vm = s.vm := by rw [hA]; rfl
  have hhp : s'.heap = H := by rw [hA]; exact hT
  have hW0 : s.WarmedH s'.vm := by rw [hvm]; exact State.WarmedH.refl s
  have hat' : ∀ w ∈ vx_atS own ic cls names, w.before args s' = true := fun w hw => vx_ot_at hW0 hvm.symm (hgood w (List.mem_cons_of_mem _ (List.mem_cons_of_mem _ hw))) (hat w hw)
  have hk' : (Cond.classLink own ik cls).before args s' = true := vx_ot_at hW0 hvm.symm (hgood _ List.mem_cons_self) hk
  have hini' : (Cond.initialized cls).before args s' = true := vx_ot_at hW0 hvm.symm (hgood _ (List.mem_cons_of_mem _ List.mem_cons_self)) hini
  have hU' : vx_Zq Bundle.tN "UNASSIGNED_STACK" Bundle.steD A s' s'.heap := by rw [hhp]; exact vx_Zq.moved hW0.alike (hU.kept hS.2.1)
  have hN' : vx_Zq Bundle.tN "SUPPRESSED_SENTINEL" Bundle.listD A s' s'.heap := by rw [hhp]; exact vx_Zq.moved hW0.alike (hN.kept hS.2.1)
  have h : ∀ w ∈ Bundle.ownAtoms own ic cls names, w.before args s' = true := vx_own hat' (vx_isRefq hU'.1) (vx_isRefq hN'.1) hU'.2.word hN'.2.word
  have hown' : s'.vm.findClass own = some m.cls := by rw [hvm]; exact hown
  have hins : (Cond.instantiable cls 6).before args s' = true := h _ (by simp [Bundle.ownAtoms])
  obtain ⟨vm₁, cX, kX, hfX, hkX, -, -, X₁, st1⟩ := Y.newCold hexec (own := own) (C := cls) (index := ik) (n := 6) hown' hk' hins hini'
    (g := F0 m pc ls rest) rfl (by rw [hb]; exact d0) (Nat.le_refl _) (Nat.le_refl _)
  generalize hT1 : (T.setVm vm₁).pushCell { cls := cX, slots := kX.instanceTypes.map defaultValue, vm := .none } = T1 at X₁ st1
  have hcat : (Value.ref T.heap.size).category = 1 := rfl
  have hcellA : T1.heap[T.heap.size]? = some (freshCell cX kX) := by rw [← hT1]; exact State.heap_pushCell_size _ _
  have d3' : decode c.code (pc + 3) = .ok (.dup, 1) := by rw [hb]; exact d3
  have d4' : decode c.code (pc + 4) = .ok (.ldc is, 2) := by rw [hb]; exact d4
  have hstr' : vk_R own is text sa s' := vk_R.warm hW0 hstr
  obtain ⟨U, hsteps, hrun, hend, hW, hsame, ce, hce, hO⟩ := X₁.ctorThrowS hexec htr (own := own) (cls := cls) (names := names) (ic := ic) hown' hcls hnames h (fun x hx => nomatch hx) hfX hkX hcellA (by rw [hhp, hT]; exact Nat.le_refl _) (msg := .ref sa) rfl
    (g := { method := m, pc := pc + 6, locals := ls, stack := .ref sa :: .ref T.heap.size :: .ref T.heap.size :: rest, locked := none }) rfl hsize rfl rfl (rest := rest) rfl
    (by rw [hb]; exact d6) (by rw [hb]; exact d9) hout hRframes (by simp only [List.map_cons, List.sum_cons, hcat]; omega) hlocks
  obtain ⟨f1, f2⟩ := vx_frame hsame
  rw [hhp] at f1 f2
  have hWs : s.WarmedH U.vm := State.WarmedH.trans hW0 hW
  have hcl : s.vm.findClass cls = some ce.cls := by
    have h9 := hO.cls
    rw [hvm] at h9
    exact h9
  have hall : s.sameButNew ({ U with vm := s.vm } : State) locs mc ms := by
    subst hA
    obtain ⟨e1, e2⟩ := hsame
    rw [State.setFrames_setFrames] at e1
    have h2 : (T.setVm s.vm).sameButNew ({ U with vm := s.vm } : State) [] (0 + 1) (0 + 6) := ⟨e1, e2⟩
    have h3 := X.same.trans h2
    rw [List.append_nil] at h3
    exact h3.mono hc hs
  refine ⟨U, ?_, .threw T.heap.size, hrun, hend, Or.inr ⟨T.heap.size, rfl, cls, ce, locs, hx U hWs.alike f1 (fun q hq => f2 q hq (fun z hz => nomatch hz)), hce, hO.vm, hcl, hWs, hall, hf⟩⟩
  refine st1 _ ?_
  show Steps p.tables e below (T1.setTop { method := m, pc := pc + 3, locals := ls, stack := .ref T.heap.size :: rest, locked := none }) _
  jvm_step X₁.here [X₁.here.top, hexec, d3', Value.category]
  exact X₁.ldcString hexec (own := own) (text := text) (index := is) (a := sa) hown' hstr'.1 hstr'.2
    (g := { method := m, pc := pc + 4, locals := ls, stack := .ref T.heap.size :: .ref T.heap.size :: rest, locked := none }) rfl d4' _ hsteps
/-- 'throw new E("text")', the text by a wide index -/
theorem vx_throwSW {cc : ByteArray} {pc : Nat} (hexec : p.tables.exec = Jvm.exec) (hb : c.code = cc) (hl : l.stackTraces = false) {own cls text : String} {names : List String} {ik is ic mc ms sa : Nat} {A : Nat → Prop}
    (hown : s.vm.findClass own = some m.cls) (hcls : Bundle.fit cls = true) (hnames : ∀ n ∈ names, Bundle.fit n = true)
    (hk : (Cond.classLink own ik cls).before args s = true) (hini : (Cond.initialized cls).before args s = true) (hstr : vk_R own is text sa s) (hat : ∀ w ∈ vx_atS own ic cls names, w.before args s = true)
    (hgood : ∀ w ∈ Cond.classLink own ik cls :: Cond.initialized cls :: vx_atS own ic cls names, vx_ot w = true)
    (hU : vx_Zq Bundle.tN "UNASSIGNED_STACK" Bundle.steD A s s.heap) (hN : vx_Zq Bundle.tN "SUPPRESSED_SENTINEL" Bundle.listD A s s.heap) (hS : va_S A s.heap H locs) (hsize : ls.size = c.maxLocals)
    (d0 : decode cc pc = .ok (.new ik, 3)) (d3 : decode cc (pc + 3) = .ok (.dup, 1)) (d4 : decode cc (pc + 4) = .ok (.ldc_w is, 3)) (d7 : decode cc (pc + 7) = .ok (.invokespecial ic, 3)) (d10 : decode cc (pc + 10) = .ok (.athrow, 1))
    (hout : ∀ x ∈ c.exceptionTable.toList, covers x (pc + 10) = false)
    (hRframes : names.length + 3 < R.frames) (hRlocals : (rest.map fun v => v.category).sum + (13 * (names.length + 1) + 43) ≤ R.locals) (hRcells : cells + 1 ≤ R.cells) (hRslots : slots + 6 ≤ R.slots) (hlocks : meth.locks = false)
    (hx : ∀ t : State, s.vm.Alike t.vm → H.size ≤ t.heap.size → (∀ q : Nat, q < H.size → t.heap[q]? = H[q]?) → XC cls s t)
    (hf : ∀ z ∈ locs, free z.base) (hc : cells + 1 ≤ mc) (hs : slots + 6 ≤ ms) :
    W p l e R s m args below meth c H locs cells slots (vx_MQ below Qc XC args s mc ms free) (F0 m pc ls rest) := by
  intro T hT X
  have htr : e.platform.stackTraces = false := (show e.platform.stackTraces = l.stackTraces by rw [X.admits.platform]).trans hl
  have Y := vx_rebase X (R' := { frames := R.frames, locals := R.locals, cells := 1, slots := 6 }) (Nat.le_refl _) (Nat.le_refl _) hRcells hRslots
  obtain ⟨s', hA⟩ : ∃ z, z = (T.setVm s.vm).setFrames (.invoking m args :: below) := ⟨_, rfl⟩
  rw [← hA] at Y
  have hvm : s'.vm = s.vm := by rw [hA]; rfl
  have hhp : s'.heap = H := by rw [hA]; exact hT
  have hW0 : s.WarmedH s'.vm := by rw [hvm]; exact State.WarmedH.refl s
  have hat' : ∀ w ∈ vx_atS own ic cls names, w.before args s' = true := fun w hw => vx_ot_at hW0 hvm.symm (hgood w (List.mem_cons_of_mem _ (List.mem_cons_of_mem _ hw))) (hat w hw)
  have hk' : (Cond.classLink own ik cls).before args s' = true := vx_ot_at hW0 hvm.symm (hgood _ List.mem_cons_self) hk
  have hini' : (Cond.initialized cls).before args s' = true := vx_ot_at hW0 hvm.symm (hgood _ (List.mem_cons_of_mem _ List.mem_cons_self)) hini
  have hU' : vx_Zq Bundle.tN "UNASSIGNED_STACK" Bundle.steD A s' s'.heap := by rw [hhp]; exact vx_Zq.moved hW0.alike (hU.kept hS.2.1)
  have hN' : vx_Zq Bundle.tN "SUPPRESSED_SENTINEL" Bundle.listD A s' s'.heap := by rw [hhp]; exact vx_Zq.moved hW0.alike (hN.kept hS.2.1)
  have h : ∀ w ∈ Bundle.ownAtoms own ic cls names, w.before args s' = true := vx_own hat' (vx_isRefq hU'.1) (vx_isRefq hN'.1) hU'.2.word hN'.2.word
  have hown' : s'.vm.findClass own = some m.cls := by rw [hvm]; exact hown
  have hins : (Cond.instantiable cls 6).before args s' = true := h _ (by simp [Bundle.ownAtoms])
  obtain ⟨vm₁, cX, kX, hfX, hkX, -, -, X₁, st1⟩ := Y.newCold hexec (own := own) (C := cls) (index := ik) (n := 6) hown' hk' hins hini'
    (g := F0 m pc ls rest) rfl (by rw [hb]; exact d0) (Nat.le_refl _) (Nat.le_refl _)
  generalize hT1 : (T.setVm vm₁).pushCell { cls := cX, slots := kX.instanceTypes.map defaultValue, vm := .none } = T1 at X₁ st1
  have hcat : (Value.ref T.heap.size).category = 1 := rfl
  have hcellA : T1.heap[T.heap.size]? = some (freshCell cX kX) := by rw [← hT1]; exact State.heap_pushCell_size _ _
  have d3' : decode c.code (pc + 3) = .ok (.dup, 1) := by rw [hb]; exact d3
  have d4' : decode c.code (pc + 4) = .ok (.ldc_w is, 3) := by rw [hb]; exact d4
  have hstr' : vk_R own is text sa s' := vk_R.warm hW0 hstr
  obtain ⟨U, hsteps, hrun, hend, hW, hsame, ce, hce, hO⟩ := X₁.ctorThrowS hexec htr (own := own) (cls := cls) (names := names) (ic := ic) hown' hcls hnames h (fun x hx => nomatch hx) hfX hkX hcellA (by rw [hhp, hT]; exact Nat.le_refl _) (msg := .ref sa) rfl
    (g := { method := m, pc := pc + 7, locals := ls, stack := .ref sa :: .ref T.heap.size :: .ref T.heap.size :: rest, locked := none }) rfl hsize rfl rfl (rest := rest) rfl
    (by rw [hb]; exact d7) (by rw [hb]; exact d10) hout hRframes (by simp only [List.map_cons, List.sum_cons, hcat]; omega) hlocks
  obtain ⟨f1, f2⟩ := vx_frame hsame
  rw [hhp] at f1 f2
  have hWs : s.WarmedH U.vm := State.WarmedH.trans hW0 hW
  have hcl : s.vm.findClass cls = some ce.cls := by
    have h9 := hO.cls
    rw [hvm] at h9
    exact h9
  have hall : s.sameButNew ({ U with vm := s.vm } : State) locs mc ms := by
    subst hA
    obtain ⟨e1, e2⟩ := hsame
    rw [State.setFrames_setFrames] at e1
    have h2 : (T.setVm s.vm).sameButNew ({ U with vm := s.vm } : State) [] (0 + 1) (0 + 6) := ⟨e1, e2⟩
    have h3 := X.same.trans h2
    rw [List.append_nil] at h3
    exact h3.mono hc hs
  refine ⟨U, ?_, .threw T.heap.size, hrun, hend, Or.inr ⟨T.heap.size, rfl, cls, ce, locs, hx U hWs.alike f1 (fun q hq => f2 q hq (fun z hz => nomatch hz)), hce, hO.vm, hcl, hWs, hall, hf⟩⟩
  refine st1 _ ?_
  show Steps p.tables e below (T1.setTop { method := m, pc := pc + 3, locals := ls, stack := .ref T.heap.size :: rest, locked := none }) _
  jvm_step X₁.here [X₁.here.top, hexec, d3', Value.category]
  exact X₁.ldcStringW hexec (own := own) (text := text) (index := is) (a := sa) hown' hstr'.1 hstr'.2
    (g := { method := m, pc := pc + 4, locals := ls, stack := .ref T.heap.size :: .ref T.heap.size :: rest, locked := none }) rfl d4' _ hsteps
end Ends
section Bodies
variable {l : Launch}
theorem vx_ofW {y : MethodName} {ws ws' : List Cond} {rm : Room} {Pc : Array Value → State → Prop} {Qc : Array Value → State → Outcome → State → Prop} {XC : String → State → State → Prop} {mc ms : Nat} {free : Addr → Prop} {cc : ByteArray} {maxL : Nat} {ret : Option FieldType}
    (hy : plainName y.cls = true) (hw : ws = Cond.code y cc maxL ret :: ws')
    (body : ∀ p e s m args below meth c s₁, BodyLoose p l y (headSpec ws rm) cc maxL ret e s m args below meth c s₁ → c.maxLocals = maxL → (∀ x ∈ c.exceptionTable.toList, False) → Pc args s →
      W p l e (headSpec ws rm).room s m args below meth c s.heap [] 0 0 (vx_MQ below Qc XC args s mc ms free) (entryFrame m args maxL)) : vx_Met l y ws rm Pc Qc XC mc ms free := by
  refine MetFree.of_bodyS (code := cc) (maxLocals := maxL) (ret := ret) hy ?_ ?_
  · intro args s m h hn
    obtain ⟨meth, c, h1, h2, h3, h4, h5, h6, -, -⟩ := Cond.code_spec hn (atoms_spec (ws := ws) h _ (by rw [hw]; exact List.mem_cons_self))
    exact ⟨meth, c, h1, h2, h3, h4, h5, h6⟩
  · intro p e s m args below meth c s₁ B hml hP _
    have hh0 : s₁.heap = s.heap := by rw [B.state]; rfl
    have ht : ∀ x ∈ c.exceptionTable.toList, False := by
      obtain ⟨meth9, c9, h1, h2, -, -, -, -, h7, -⟩ := Cond.code_spec B.named (atoms_spec (ws := ws) B.pre _ (by rw [hw]; exact List.mem_cons_self))
      cases Option.some.inj (h1.symm.trans B.method)
      cases Option.some.inj (h2.symm.trans (Stand.of_body B).code)
      intro x hx
      rw [Array.isEmpty_iff.mp h7] at hx
      cases hx
    obtain ⟨t, a1, o, b1, b2, b3⟩ := body p e s m args below meth c s₁ B hml ht hP s₁ hh0 (Stand.of_body B)
    exact ⟨t, o, a1, b1, b2, b3⟩
/-- the table of a body with handlers -/
theorem vx_table {p : Program} {x y : MethodName} {S : Spec} {cc bytes : ByteArray} {maxL maxL' : Nat} {ret ret' : Option FieldType} {e : Env} {s s₁ : State} {m : MethodId} {args : Array Value} {below : List Frame} {meth : Method} {c : Code} {hh : List (Nat × Nat × Nat × Nat)}
    (B : BodyLoose p l y S cc maxL ret e s m args below meth c s₁) (h : (Cond.codeWith y bytes maxL' ret' hh).before args s = true) : c.exceptionTable.toList = tableOf hh := by
  obtain ⟨m9, meth9, c9, hn9, h1, h2, -, -, h6, -⟩ := Cond.codeWith_spec h
  cases Option.some.inj (hn9.symm.trans B.named)
  cases Option.some.inj (h1.symm.trans B.method)
  cases Option.some.inj (h2.symm.trans (Stand.of_body B).code)
  rw [← h6, table_eq]
end Bodies
end VXA
/-! ===== END ===== -/
/-! ===== BEGIN a static call of a method with an exception table ===== -/
section VXS
variable {p : Program} {l : Launch} {e : Env} {R : Room} {s : State} {m : MethodId} {args : Array Value} {below : List Frame} {meth : Method} {c : Code} {T : State} {H : Heap} {locs : List Loc} {cells slots : Nat}
abbrev vx_CSW (R : Room) (s : State) (args : Array Value) (own : String) (index : Nat) (y : MethodName) (bytes : ByteArray) (maxL : Nat) (ret : Option FieldType) (hh : List (Nat × Nat × Nat × Nat)) (ws : List Cond) (rm : Room) (mc ms n : Nat) : Prop :=
  (rm.cells = mc ∧ rm.slots = ms ∧ rm.frames + 1 ≤ R.frames ∧ 8 + (maxL + 11) + rm.locals ≤ R.locals ∧ (∀ w ∈ ws, ∀ (a' : Array Value) (U : State), s.WarmedH U.vm → w.before a' U = true) ∧ Cond.codeWith y bytes maxL ret hh ∈ ws) ∧
  (Cond.codeWith y bytes maxL ret hh).before args s = true ∧ (Cond.initialized y.cls).before args s = true ∧ (y.cls ≠ "java/lang/invoke/MethodHandle" ∧ y.cls ≠ "java/lang/invoke/VarHandle") ∧
  (∀ sig, parseMethodDescriptor y.desc = some sig → n = sig.parameters.length) ∧ (Cond.methodLink own index y).before args s = true ∧ (Cond.static y).before args s = true
theorem vx_cwSW {own : String} {index maxL mc ms : Nat} {y : MethodName} {bytes : ByteArray} {ret : Option FieldType} {hh : List (Nat × Nat × Nat × Nat)} {Ts ws ws' : List Cond} {rm : Room} (n : Nat) (ht : ∀ w ∈ Ts, w.before args s = true) (hT : GoodIn Ts (va_wsS own index y ws)) (hw : ws = Cond.codeWith y bytes maxL ret hh :: ws') (hrc : rm.cells = mc) (hrs : rm.slots = ms)
    (hd : y.cls ≠ "java/lang/invoke/MethodHandle" ∧ y.cls ≠ "java/lang/invoke/VarHandle" ∧ (parseMethodDescriptor y.desc).map (fun d => d.parameters.length) = some n) (hR : rm.frames + 1 ≤ R.frames ∧ 8 + (maxL + 11) + rm.locals ≤ R.locals) :
    vx_CSW R s args own index y bytes maxL ret hh ws rm mc ms n := by
  have ok : ∀ w ∈ va_wsS own index y ws, w.before args s = true := fun w h => ht w (hT w h).1
  have hG : GoodIn Ts ws := fun w h => hT w (by unfold va_wsS; exact List.mem_append_right _ h)
  have hc : Cond.codeWith y bytes maxL ret hh ∈ ws := by rw [hw]; exact List.mem_cons_self
  refine ⟨⟨hrc, hrs, hR.1, hR.2, pay_in ht hG, hc⟩, ht _ (hG _ hc).1, ok _ (by simp [va_wsS]), ⟨hd.1, hd.2.1⟩, fun sig h => ?_, ok _ (by simp [va_wsS]), ok _ (by simp [va_wsS])⟩
  have h2 := hd.2.2
  rw [h] at h2
  exact (Option.some.inj h2).symm
theorem vx_callSW (X : Stand p l e R s m args below meth c T locs cells slots) (hexec : p.tables.exec = Jvm.exec) {own : String} {index : Nat} {y : MethodName} {bytes : ByteArray} {maxL : Nat} {ret : Option FieldType} {hh : List (Nat × Nat × Nat × Nat)}
    (hown : s.vm.findClass own = some m.cls) (hlink : (Cond.methodLink own index y).before args s = true) (hstat : (Cond.static y).before args s = true) (hinit : (Cond.initialized y.cls).before args s = true)
    (hcode : (Cond.codeWith y bytes maxL ret hh).before args s = true) (hy : y.cls ≠ "java/lang/invoke/MethodHandle" ∧ y.cls ≠ "java/lang/invoke/VarHandle")
    {W9 : Nat} {Pre : Pt → Array Value → Prop} {Post : Pt → Array Value → Option Value → Pt → Prop} (hK : Back l R p e below s args y 3 W9 Pre Post)
    {g : JFrame} (hg : g.method = m) (hsize : g.locals.size = c.maxLocals) {argsL rest : List Value} (hlen : ∀ sig, parseMethodDescriptor y.desc = some sig → argsL.length = sig.parameters.length)
    (hstack : g.stack = argsL.reverse ++ rest) (hW : 2 * g.monitorRoom + (rest.map fun v => v.category).sum ≤ W9) (hdg : decode c.code g.pc = .ok (.invokestatic index, 3))
    (hpre : ∀ vm₁, s.WarmedH vm₁ → Pre ⟨T.setVm vm₁, locs, cells, slots⟩ argsL.toArray) :
    ∃ (v : Option Value) (vm₁ : Vm) (B : Pt), s.WarmedH vm₁ ∧ Stand p l e R s m args below meth c B.U B.locs B.cells B.slots ∧ Post ⟨T.setVm vm₁, locs, cells, slots⟩ argsL.toArray v B ∧
      ∀ target, Steps p.tables e below (B.U.setTop { g with pc := g.pc + 3, stack := v.toList ++ rest }) target → Steps p.tables e below (T.setTop g) target := by
  obtain ⟨mk, methM, cM, hnamed, hmethM, -, -, -, -, -, -, hsigM⟩ := Cond.codeWith_spec hcode
  have hstatic : methM.isStatic = true := Cond.static_spec hnamed hmethM hstat
  obtain ⟨kP, hkP, -⟩ := className_of_methodNamed hnamed
  have hinitP : kP.init = .initialized := Cond.initialized_spec (findClass_of_methodNamed hnamed) hkP hinit
  obtain ⟨vm₁, X₁, hstep₁⟩ := X.invokestatic hexec hown hlink hnamed hmethM hstatic hkP hinitP hy (g := g) hg (argsL := argsL) (rest := rest) (hlen _ hsigM) hstack hdg
  obtain ⟨v, B, X', hpost, hsteps⟩ := hK m meth c ⟨T.setVm vm₁, locs, cells, slots⟩ { g with stack := rest } (.invokestatic index) mk argsL.toArray X₁ hg hsize hdg hW (X₁.named hnamed) (hpre vm₁ X₁.warmed)
  exact ⟨v, vm₁, B, X₁.warmed, X', hpost, fun target h => hstep₁ _ fun acts => by rw [doInvoke_state]; exact hsteps.trans h⟩
theorem vx_runSW {y : MethodName} {bytes cc : ByteArray} {maxL nL mc ms n index : Nat} {ret : Option FieldType} {hh : List (Nat × Nat × Nat × Nat)} {ws : List Cond} {rm : Room} {Pc : Array Value → State → Prop} {Qc : Array Value → State → Outcome → State → Prop} {free : Addr → Prop} {Ts : List Cond} {own : String} {As rest : List Value} {g : JFrame}
    (S : CallFix p m c cc nL s args Ts own) (hM : Met l y ws rm Pc Qc mc ms free) (cw : vx_CSW R s args own index y bytes maxL ret hh ws rm mc ms n) (hp : PreS s H Pc As)
    (hg : g.method = m) (hn : As.length = n) (hsize : g.locals.size = nL) (hstack : g.stack = As.reverse ++ rest) (hW : 2 * g.monitorRoom + (rest.map fun v => v.category).sum ≤ 8) (hdg : decode cc g.pc = .ok (.invokestatic index, 3)) (hf : cells + mc ≤ R.cells ∧ slots + ms ≤ R.slots) :
    va_Run p l e R s m args below meth c H locs cells slots mc ms g rest (Qc As.toArray) (free) := by
  obtain ⟨⟨hrc, hrs, hfr, hlo, hws, hcw⟩, hcode, hini, hy, hlen, hl, hstt⟩ := cw
  have hK : Back l R p e below s args y 3 8 (PreOf R mc ms Pc) (PostOf Qc mc ms free) := va_backW (hh := hh) (bytes := bytes) (maxL := maxL) (ret := ret) hM hp.1 hrc hrs hfr hlo hws hcw (fun a' U hW => word_at hW (Or.inl (by first | rfl | simp [Cond.onTables, Cond.keeps, Cond.steady])) hini)
  obtain ⟨hx, hb, hml, ho, -⟩ := S
  intro T hT X
  obtain ⟨v, vm₁, ⟨U', l2, c2, s2⟩, hW₁, X', ⟨g', mk, t, L, e1, e2, hq, h1, hL, h2, h3⟩, st⟩ := vx_callSW X hx (hh := hh) (bytes := bytes) (maxL := maxL) (ret := ret) ho hl hstt hini hcode hy hK hg (hsize.trans hml.symm) (argsL := As) (rest := rest) (fun sig h => hn.trans (hlen sig h)) hstack hW (by rw [hb]; exact hdg)
    (fun vm₁ hW₁ => ⟨hf.1, hf.2, hp.2 (T.setVm vm₁) hT hW₁⟩)
  dsimp only [Pt.U, Pt.locs, Pt.cells, Pt.slots] at X' e1 e2 h1 h2 h3 st
  subst h1; subst h2; subst h3
  exact ⟨v, (T.setVm vm₁).calling g' mk As.toArray, t, U', L, hT, X', hL, e1, e2, hq, st⟩
/-- not caught here, past rows that name other classes: it goes on to the caller -/
theorem vx_outP {p : Program} {l : Launch} {e : Env} {R : Room} {s : State} {m : MethodId} {args : Array Value} {below : List Frame} {meth : Method} {c : Code} {H : Heap} {locs : List Loc} {cells slots : Nat} {free : Addr → Prop} {ls : Array Slot} {rest : List Value} {Qc : Array Value → State → Outcome → State → Prop} {XC : String → State → State → Prop}
    {pc : Nat} {own E : String} {ce : Cell} {q : Addr} {mc ms : Nat} (hown : s.vm.findClass own = some m.cls) (hlocks : meth.locks = false)
    (hpass : ∀ z ∈ c.exceptionTable.toList, covers z pc = false ∨ (z.catchType ≠ 0 ∧ ∃ nm : String, (Cond.classLink own z.catchType nm).before args s = true ∧ va_Nc E nm s)) (hcell : H[q]? = some ce) (hv : ce.vm = .none) (hcl : s.vm.findClass E = some ce.cls)
    (hx : ∀ t : State, t.heap = H → s.vm.Alike t.vm → XC E s t) (hf : ∀ z ∈ locs, free z.base) (hc : cells ≤ mc) (hs : slots ≤ ms) :
    vx_W p l e R s m args below meth c H locs cells slots (vx_MQ below Qc XC args s mc ms free) (F0 m pc ls rest) q := by
  intro T hT X
  have hpl : e.platform.magicAccessors = ({} : Platform).magicAccessors := by rw [X.admits.platform]
  obtain ⟨vm', hW', X', st⟩ := X.outThrough hlocks q (g := F0 m pc ls rest) rfl rfl rfl (cell := ce) (by rw [hT]; exact hcell) (by rw [hv]; rfl)
    (by obtain ⟨k9, h9, -⟩ := Vm.findClass_spec hcl; exact ⟨k9, h9⟩) (fun z hz => by
      rcases hpass z hz with h | ⟨hz0, nm, hl1, hn1⟩
      · exact Or.inl h
      · obtain ⟨c6, hc6, hcl6⟩ := Cond.classLink_spec hown hl1 e.platform hpl
        obtain ⟨a8, b8, h1, h2, h3⟩ := hn1
        cases Option.some.inj (h1.symm.trans hcl)
        cases Option.some.inj (h2.symm.trans hc6)
        exact Or.inr ⟨hz0, _, hcl6, h3⟩)
  obtain ⟨g₀, hfr⟩ := X'.frames_eq
  have hcell9 : ((T.setVm vm').setFrames (.throwing q :: below)).heap[q]? = some ce := by
    show T.heap[q]? = some ce
    rw [hT]; exact hcell
  have hend : Ended ((T.setVm vm').setFrames (.throwing q :: below)) below (.threw q) := State.frames_setFrames _ (State.cur_lt_of_frames hfr)
  refine ⟨(T.setVm vm').setFrames (.throwing q :: below), ?_, .threw q, X'.here.running, hend, Or.inr ⟨q, rfl, E, ce, locs, hx _ hT (X'.ends _).1.alike, hcell9, hv, hcl, (X'.ends _).1, (X'.ends _).2.mono hc hs, hf⟩⟩
  rw [X.pushThrowing_eq]
  exact st
/-- a thing of a world lies in the heap -/
theorem vx_lt {D : va_G} {cl : List vw_C} {ws : va_W} {H1 : Heap} (h : va_P D cl ws H1) {k : Nat} {q : Nat × va_E} (hk : ws[k]? = some q) : q.1 < H1.size := (h k q hk).lt
end VXS
/-! ===== END ===== -/
/-! ===== BEGIN methods with a table of their own: called by a name, returning or throwing ===== -/
section VXH
/-! vx_backW, vx_callVX, vx_callSX, vx_callVW, vx_runVW, vx_runVX, vx_runSX, vx_ofWH follow the same proofs as their sisters above (Free/Laws.lean, Shelf42/LK1.lean); vx_outP calls Shelf42/NT130.lean (outThrough). -/
section
variable {l : Launch} {R : Room} {p : Program} {e : Env} {below : List Frame} {s : State} {sargs : Array Value} {y : MethodName} {len W9 : Nat}
theorem vx_backW {ws : List Cond} {rm : Room} {Pc : Array Value → State → Prop} {Qc : Array Value → State → Outcome → State → Prop} {XC : String → State → State → Prop} {mc ms : Nat} {free : Addr → Prop} {bytes : ByteArray} {maxL : Nat} {ret : Option FieldType} {hh : List (Nat × Nat × Nat × Nat)}
    (hM : vx_Met l y ws rm Pc Qc XC mc ms free) (hblind : FrameBlind Pc) (hrc : rm.cells = mc) (hrs : rm.slots = ms)
    (hframes : rm.frames + 1 ≤ R.frames) (hlocals : W9 + (maxL + 11) + rm.locals ≤ R.locals)
    (hws : ∀ w ∈ ws, ∀ a' U, s.WarmedH U.vm → w.before a' U = true) (hcode : Cond.codeWith y bytes maxL ret hh ∈ ws) (hinit : ∀ a' U, s.WarmedH U.vm → (Cond.initialized y.cls).before a' U = true) :
    vx_Back l R p e below s sargs y len W9 (PreOf R mc ms Pc) (PostOf Qc mc ms free) (vx_Post XC mc ms free) := by
  intro m meth c A g ig mk a X hg hsize hdg hW hn hp
  have h1 : (headSpec ws rm).pre.before a A.U = true := atoms_intro fun w hw => hws w hw _ _ X.warmed
  have h2 : (Cond.codeWith y bytes maxL ret hh).before a A.U = true := hws _ hcode _ _ X.warmed
  have h3 : (Cond.initialized y.cls).before a A.U = true := hinit _ _ X.warmed
  have h4 : A.cells + (headSpec ws rm).room.cells ≤ R.cells := by rw [show (headSpec ws rm).room.cells = mc from hrc]; exact hp.1
  have h5 : A.slots + (headSpec ws rm).room.slots ≤ R.slots := by rw [show (headSpec ws rm).room.slots = ms from hrs]; exact hp.2.1
  have hPc : Pc a (A.U.calling g mk a) := hblind _ _ _ _ hp.2.2
  obtain ⟨U, Ls, c0, s0⟩ := A
  dsimp only [Pt.U, Pt.locs, Pt.cells, Pt.slots] at h1 h2 h3 h4 h5 X hn hPc ⊢
  obtain ⟨m9, methY, cY, hn9, hmY, hcY, -, hlY, -⟩ := Cond.codeWith_spec h2
  cases Option.some.inj (hn9.symm.trans hn)
  obtain ⟨kY, hkY, -⟩ := className_of_methodNamed hn
  have hinitY : kY.init = .initialized := Cond.initialized_spec (findClass_of_methodNamed hn) hkY h3
  have h : At U g.method c below := by rw [hg]; exact X.here
  have hlocals9 : W9 + (maxL + 11) + (headSpec ws rm).room.locals ≤ R.locals := hlocals
  have happ : (headSpec ws rm).appliesLoose y e.platform (U.calling g mk a) = true :=
    Spec.appliesLoose_calling (g := g) h hdg hn hkY hinitY
      (X.room_calling (g := g) (R' := (headSpec ws rm).room) hsize hmY hcY hframes (by rw [hlY]; omega) h4 h5) h1
  obtain ⟨mid, hmid⟩ := h.above
  have hfr : (U.setTop g).frames = (.java g :: mid) ++ below := by rw [State.frames_setTop' g h.top, hmid]; rfl
  obtain ⟨o, s₂, hsteps, -, hend, hq⟩ := Steps.callFree hM p X.admits X.cas X.clock (acts := []) hfr happ hPc trivial
  have hq' : vx_Q Qc XC mc ms free a (U.calling g mk a) o s₂ := hq
  rw [State.frames_setTop' g h.top] at hend
  obtain ⟨g₀, hg0⟩ := Option.isSome_iff_exists.mp h.top
  obtain ⟨r, hr⟩ := State.topJava?_eq_some.mp hg0
  have hr' : (({ U with heap := s₂.heap, slotsUsed := s₂.slotsUsed } : State).setVm s₂.vm).frames = .java g₀ :: r := hr
  rcases hq' with ⟨hqc, L, hfe, hL⟩ | ⟨q, rfl, E, ce, L, hx, hce, hcv, hcl, hW₂, hsm, hL⟩
  · obtain ⟨⟨v, rfl⟩, hW₂, e2, q2, q3, q4, q5, q6⟩ := id hfe
    have e3 : s₂ = ({ (U.calling g mk a).setFrames s₂.frames with heap := s₂.heap, slotsUsed := s₂.slotsUsed } : State).setVm s₂.vm := by
      have : s₂ = ({ s₂ with vm := (U.calling g mk a).vm } : State).setVm s₂.vm := rfl
      rw [e2] at this
      exact this
    obtain ⟨c₂, i₂, len₂, hc₂, hd₂, hf₂⟩ := hend
    have hW' : U.WarmedH s₂.vm := hW₂
    have hcc : c₂ = c := by
      have h1 : s₂.code? g.method = U.code? g.method := by
        rw [State.code?_eq, State.code?_eq, hW'.alike.method?]
      exact Option.some.inj (hc₂.symm.trans (h1.trans h.code))
    subst hcc
    have hlen : len₂ = len := by rw [hdg] at hd₂; cases hd₂; rfl
    subst hlen
    have hs₂ : s₂ = (({ U with heap := s₂.heap, slotsUsed := s₂.slotsUsed } : State).setVm s₂.vm).setTop { g with pc := g.pc + len₂, stack := v.toList ++ g.stack } := by
      refine e3.trans ?_
      rw [hf₂, State.calling_eq h.top, State.setFrames_setFrames, State.setTop_of_frames _ hr', hr]
      rfl
    have hsame : U.sameButNew ({ U with heap := s₂.heap, slotsUsed := s₂.slotsUsed } : State) L mc ms := by
      refine ⟨?_, q2, q3, q4, q5, q6⟩
      obtain ⟨t, ht, -⟩ := State.frames_cons hr
      show ({ U with heap := s₂.heap, slotsUsed := s₂.slotsUsed } : State) = { U.setFrames U.frames with heap := s₂.heap, slotsUsed := s₂.slotsUsed }
      rw [State.setFrames_self ht]
    subst hg
    refine Or.inl ⟨v, ⟨(({ U with heap := s₂.heap, slotsUsed := s₂.slotsUsed } : State).setVm s₂.vm), Ls ++ L, c0 + mc, s0 + ms⟩,
      ⟨X.admits, X.cas, X.clock, X.frames, X.room, X.hears, X.method, X.code, (X.here.setHeapUsed s₂.heap s₂.slotsUsed).setVm hW'.alike, X.tail, State.WarmedH.trans X.warmed hW', X.limits, X.bytes, X.same.trans (hsame.setVm s.vm)⟩,
      ⟨g, mk, s₂, L, rfl, rfl, hqc, rfl, hL, rfl, rfl⟩, ?_⟩
    show Steps p.tables e below _ ((({ U with heap := s₂.heap, slotsUsed := s₂.slotsUsed } : State).setVm s₂.vm).setTop { g with pc := g.pc + len₂, stack := v.toList ++ g.stack })
    rw [← hs₂]
    exact hsteps
  · obtain ⟨e2, q2, q3, q4, q5, q6⟩ := id hsm
    have e3 : s₂ = ({ (U.calling g mk a).setFrames s₂.frames with heap := s₂.heap, slotsUsed := s₂.slotsUsed } : State).setVm s₂.vm := by
      have : s₂ = ({ s₂ with vm := (U.calling g mk a).vm } : State).setVm s₂.vm := rfl
      rw [e2] at this
      exact this
    have hf₂ : s₂.frames = .throwing q :: .java g :: U.frames.tail := hend
    have hW' : U.WarmedH s₂.vm := hW₂
    have hs₂ : s₂ = ((({ U with heap := s₂.heap, slotsUsed := s₂.slotsUsed } : State).setVm s₂.vm).setTop g).pushFrame (.throwing q) := by
      refine e3.trans ?_
      rw [hf₂, State.calling_eq h.top, State.setFrames_setFrames, State.pushFrame, State.frames_setTop _ hr', State.setTop_of_frames _ hr', State.setFrames_setFrames, hr]
      rfl
    have hsame : U.sameButNew ({ U with heap := s₂.heap, slotsUsed := s₂.slotsUsed } : State) L mc ms := by
      refine ⟨?_, q2, q3, q4, q5, q6⟩
      obtain ⟨t, ht, -⟩ := State.frames_cons hr
      show ({ U with heap := s₂.heap, slotsUsed := s₂.slotsUsed } : State) = { U.setFrames U.frames with heap := s₂.heap, slotsUsed := s₂.slotsUsed }
      rw [State.setFrames_self ht]
    subst hg
    refine Or.inr ⟨q, ⟨(({ U with heap := s₂.heap, slotsUsed := s₂.slotsUsed } : State).setVm s₂.vm), Ls ++ L, c0 + mc, s0 + ms⟩,
      ⟨X.admits, X.cas, X.clock, X.frames, X.room, X.hears, X.method, X.code, (X.here.setHeapUsed s₂.heap s₂.slotsUsed).setVm hW'.alike, X.tail, State.WarmedH.trans X.warmed hW', X.limits, X.bytes, X.same.trans (hsame.setVm s.vm)⟩,
      ⟨g, mk, s₂, L, E, ce, rfl, rfl, hx, hce, hcv, hcl, rfl, hL, rfl, rfl⟩, ?_⟩
    show Steps p.tables e below _ (((({ U with heap := s₂.heap, slotsUsed := s₂.slotsUsed } : State).setVm s₂.vm).setTop g).pushFrame (.throwing q))
    rw [← hs₂]
    exact hsteps
end
variable {p : Program} {l : Launch} {e : Env} {R : Room} {s : State} {m : MethodId} {args : Array Value} {below : List Frame} {meth : Method} {c : Code} {T : State} {H : Heap} {locs : List Loc} {cells slots : Nat}
theorem vx_callVX (X : Stand p l e R s m args below meth c T locs cells slots) (hexec : p.tables.exec = Jvm.exec) {own C : String} {index : Nat} {y : MethodName} {bytes : ByteArray} {maxL : Nat} {ret : Option FieldType} {hh : List (Nat × Nat × Nat × Nat)}
    (hown : s.vm.findClass own = some m.cls) (hlink : (Cond.methodLink own index y).before args s = true) (hinst : (Cond.instanceMethod y).before args s = true) (hsel : (Cond.selects C y y).before args s = true)
    (hcode : (Cond.codeWith y bytes maxL ret hh).before args s = true) (hy : y.cls ≠ "java/lang/invoke/MethodHandle" ∧ y.cls ≠ "java/lang/invoke/VarHandle")
    {W9 : Nat} {Pre : Pt → Array Value → Prop} {Post : Pt → Array Value → Option Value → Pt → Prop} {PostX : Pt → Array Value → Addr → Pt → Prop} (hK : vx_Back l R p e below s args y 3 W9 Pre Post PostX)
    {b : Addr} {cellB : Cell} (hcell : T.heap[b]? = some cellB) (hobj : cellB.vm.isStatics = false) (hcls : s.vm.findClass C = some cellB.cls)
    {g : JFrame} (hg : g.method = m) (hsize : g.locals.size = c.maxLocals) {argsL rest : List Value} (hlen : ∀ sig, parseMethodDescriptor y.desc = some sig → argsL.length = sig.parameters.length)
    (hstack : g.stack = argsL.reverse ++ .ref b :: rest) (hW : 2 * g.monitorRoom + (rest.map fun v => v.category).sum ≤ W9) (hdg : decode c.code g.pc = .ok (.invokevirtual index, 3))
    (hpre : ∀ vm₁, s.WarmedH vm₁ → Pre ⟨T.setVm vm₁, locs, cells, slots⟩ (Value.ref b :: argsL).toArray) :
    (∃ (v : Option Value) (vm₁ : Vm) (B : Pt), s.WarmedH vm₁ ∧ Stand p l e R s m args below meth c B.U B.locs B.cells B.slots ∧ Post ⟨T.setVm vm₁, locs, cells, slots⟩ (Value.ref b :: argsL).toArray v B ∧
      ∀ target, Steps p.tables e below (B.U.setTop { g with pc := g.pc + 3, stack := v.toList ++ rest }) target → Steps p.tables e below (T.setTop g) target) ∨
    (∃ (q : Addr) (vm₁ : Vm) (B : Pt), s.WarmedH vm₁ ∧ Stand p l e R s m args below meth c B.U B.locs B.cells B.slots ∧ PostX ⟨T.setVm vm₁, locs, cells, slots⟩ (Value.ref b :: argsL).toArray q B ∧
      Steps p.tables e below (T.setTop g) ((B.U.setTop { g with stack := rest }).pushFrame (.throwing q))) := by
  obtain ⟨mk, methM, hnamed, hmethM, hstM, habM⟩ := Cond.instanceMethod_spec hinst
  obtain ⟨m8, methM', cM, hn8, hmethM', -, -, -, -, -, -, hsigM⟩ := Cond.codeWith_spec hcode
  cases Option.some.inj (hn8.symm.trans hnamed)
  cases hmethM.symm.trans hmethM'
  obtain ⟨c2, r2, m2, q1, q2, q3, q4, kP, hkP, hkPi⟩ := Cond.selects_spec hsel
  cases hcls.symm.trans q1
  cases (State.methodFound?_of_named hnamed hy).symm.trans q2
  cases hnamed.symm.trans q3
  have hselP : selectMethod e.platform s.vm cellB.cls mk = .method mk := by rw [Launch.admits_selectMethod X.admits]; exact q4
  obtain ⟨vm₁, X₁, hstep₁⟩ := X.invokevirtual hexec hown hlink hnamed hmethM hstM hkP hkPi hy (a := b) (cell := cellB) hcell
    (fun z h => by rw [h] at hobj; cases hobj) hselP hmethM habM hkP hkPi (g := g) hg (argsL := argsL) (rest := rest) (hlen _ hsigM) hstack hdg
  rcases hK m meth c ⟨T.setVm vm₁, locs, cells, slots⟩ { g with stack := rest } (.invokevirtual index) mk (Value.ref b :: argsL).toArray X₁ hg hsize hdg hW (X₁.named hnamed) (hpre vm₁ X₁.warmed) with ⟨v, B, X', hpost, hsteps⟩ | ⟨q, B, X', hpost, hsteps⟩
  · exact Or.inl ⟨v, vm₁, B, X₁.warmed, X', hpost, fun target h => hstep₁ _ fun acts => by rw [doInvoke_state]; exact hsteps.trans h⟩
  · exact Or.inr ⟨q, vm₁, B, X₁.warmed, X', hpost, hstep₁ _ fun acts => by rw [doInvoke_state]; exact hsteps⟩
theorem vx_callSX (X : Stand p l e R s m args below meth c T locs cells slots) (hexec : p.tables.exec = Jvm.exec) {own : String} {index : Nat} {y : MethodName} {bytes : ByteArray} {maxL : Nat} {ret : Option FieldType} {hh : List (Nat × Nat × Nat × Nat)}
    (hown : s.vm.findClass own = some m.cls) (hlink : (Cond.methodLink own index y).before args s = true) (hstat : (Cond.static y).before args s = true) (hinit : (Cond.initialized y.cls).before args s = true)
    (hcode : (Cond.codeWith y bytes maxL ret hh).before args s = true) (hy : y.cls ≠ "java/lang/invoke/MethodHandle" ∧ y.cls ≠ "java/lang/invoke/VarHandle")
    {W9 : Nat} {Pre : Pt → Array Value → Prop} {Post : Pt → Array Value → Option Value → Pt → Prop} {PostX : Pt → Array Value → Addr → Pt → Prop} (hK : vx_Back l R p e below s args y 3 W9 Pre Post PostX)
    {g : JFrame} (hg : g.method = m) (hsize : g.locals.size = c.maxLocals) {argsL rest : List Value} (hlen : ∀ sig, parseMethodDescriptor y.desc = some sig → argsL.length = sig.parameters.length)
    (hstack : g.stack = argsL.reverse ++ rest) (hW : 2 * g.monitorRoom + (rest.map fun v => v.category).sum ≤ W9) (hdg : decode c.code g.pc = .ok (.invokestatic index, 3))
    (hpre : ∀ vm₁, s.WarmedH vm₁ → Pre ⟨T.setVm vm₁, locs, cells, slots⟩ argsL.toArray) :
    (∃ (v : Option Value) (vm₁ : Vm) (B : Pt), s.WarmedH vm₁ ∧ Stand p l e R s m args below meth c B.U B.locs B.cells B.slots ∧ Post ⟨T.setVm vm₁, locs, cells, slots⟩ argsL.toArray v B ∧
      ∀ target, Steps p.tables e below (B.U.setTop { g with pc := g.pc + 3, stack := v.toList ++ rest }) target → Steps p.tables e below (T.setTop g) target) ∨
    (∃ (q : Addr) (vm₁ : Vm) (B : Pt), s.WarmedH vm₁ ∧ Stand p l e R s m args below meth c B.U B.locs B.cells B.slots ∧ PostX ⟨T.setVm vm₁, locs, cells, slots⟩ argsL.toArray q B ∧
      Steps p.tables e below (T.setTop g) ((B.U.setTop { g with stack := rest }).pushFrame (.throwing q))) := by
  obtain ⟨mk, methM, cM, hnamed, hmethM, -, -, -, -, -, -, hsigM⟩ := Cond.codeWith_spec hcode
  have hstatic : methM.isStatic = true := Cond.static_spec hnamed hmethM hstat
  obtain ⟨kP, hkP, -⟩ := className_of_methodNamed hnamed
  have hinitP : kP.init = .initialized := Cond.initialized_spec (findClass_of_methodNamed hnamed) hkP hinit
  obtain ⟨vm₁, X₁, hstep₁⟩ := X.invokestatic hexec hown hlink hnamed hmethM hstatic hkP hinitP hy (g := g) hg (argsL := argsL) (rest := rest) (hlen _ hsigM) hstack hdg
  rcases hK m meth c ⟨T.setVm vm₁, locs, cells, slots⟩ { g with stack := rest } (.invokestatic index) mk argsL.toArray X₁ hg hsize hdg hW (X₁.named hnamed) (hpre vm₁ X₁.warmed) with ⟨v, B, X', hpost, hsteps⟩ | ⟨q, B, X', hpost, hsteps⟩
  · exact Or.inl ⟨v, vm₁, B, X₁.warmed, X', hpost, fun target h => hstep₁ _ fun acts => by rw [doInvoke_state]; exact hsteps.trans h⟩
  · exact Or.inr ⟨q, vm₁, B, X₁.warmed, X', hpost, hstep₁ _ fun acts => by rw [doInvoke_state]; exact hsteps⟩
theorem vx_callVW (X : Stand p l e R s m args below meth c T locs cells slots) (hexec : p.tables.exec = Jvm.exec) {own C : String} {index : Nat} {y : MethodName} {bytes : ByteArray} {maxL : Nat} {ret : Option FieldType} {hh : List (Nat × Nat × Nat × Nat)}
    (hown : s.vm.findClass own = some m.cls) (hlink : (Cond.methodLink own index y).before args s = true) (hinst : (Cond.instanceMethod y).before args s = true) (hsel : (Cond.selects C y y).before args s = true)
    (hcode : (Cond.codeWith y bytes maxL ret hh).before args s = true) (hy : y.cls ≠ "java/lang/invoke/MethodHandle" ∧ y.cls ≠ "java/lang/invoke/VarHandle")
    {W9 : Nat} {Pre : Pt → Array Value → Prop} {Post : Pt → Array Value → Option Value → Pt → Prop} (hK : Back l R p e below s args y 3 W9 Pre Post)
    {b : Addr} {cellB : Cell} (hcell : T.heap[b]? = some cellB) (hobj : cellB.vm.isStatics = false) (hcls : s.vm.findClass C = some cellB.cls)
    {g : JFrame} (hg : g.method = m) (hsize : g.locals.size = c.maxLocals) {argsL rest : List Value} (hlen : ∀ sig, parseMethodDescriptor y.desc = some sig → argsL.length = sig.parameters.length)
    (hstack : g.stack = argsL.reverse ++ .ref b :: rest) (hW : 2 * g.monitorRoom + (rest.map fun v => v.category).sum ≤ W9) (hdg : decode c.code g.pc = .ok (.invokevirtual index, 3))
    (hpre : ∀ vm₁, s.WarmedH vm₁ → Pre ⟨T.setVm vm₁, locs, cells, slots⟩ (Value.ref b :: argsL).toArray) :
    ∃ (v : Option Value) (vm₁ : Vm) (B : Pt), s.WarmedH vm₁ ∧ Stand p l e R s m args below meth c B.U B.locs B.cells B.slots ∧ Post ⟨T.setVm vm₁, locs, cells, slots⟩ (Value.ref b :: argsL).toArray v B ∧
      ∀ target, Steps p.tables e below (B.U.setTop { g with pc := g.pc + 3, stack := v.toList ++ rest }) target → Steps p.tables e below (T.setTop g) target := by
  obtain ⟨mk, methM, hnamed, hmethM, hstM, habM⟩ := Cond.instanceMethod_spec hinst
  obtain ⟨m8, methM', cM, hn8, hmethM', -, -, -, -, -, -, hsigM⟩ := Cond.codeWith_spec hcode
  cases Option.some.inj (hn8.symm.trans hnamed)
  cases hmethM.symm.trans hmethM'
  obtain ⟨c2, r2, m2, q1, q2, q3, q4, kP, hkP, hkPi⟩ := Cond.selects_spec hsel
  cases hcls.symm.trans q1
  cases (State.methodFound?_of_named hnamed hy).symm.trans q2
  cases hnamed.symm.trans q3
  have hselP : selectMethod e.platform s.vm cellB.cls mk = .method mk := by rw [Launch.admits_selectMethod X.admits]; exact q4
  obtain ⟨vm₁, X₁, hstep₁⟩ := X.invokevirtual hexec hown hlink hnamed hmethM hstM hkP hkPi hy (a := b) (cell := cellB) hcell
    (fun z h => by rw [h] at hobj; cases hobj) hselP hmethM habM hkP hkPi (g := g) hg (argsL := argsL) (rest := rest) (hlen _ hsigM) hstack hdg
  obtain ⟨v, B, X', hpost, hsteps⟩ := hK m meth c ⟨T.setVm vm₁, locs, cells, slots⟩ { g with stack := rest } (.invokevirtual index) mk (Value.ref b :: argsL).toArray X₁ hg hsize hdg hW (X₁.named hnamed) (hpre vm₁ X₁.warmed)
  exact ⟨v, vm₁, B, X₁.warmed, X', hpost, fun target h => hstep₁ _ fun acts => by rw [doInvoke_state]; exact hsteps.trans h⟩
abbrev vx_CVW (R : Room) (s : State) (args : Array Value) (own C : String) (index : Nat) (y : MethodName) (bytes : ByteArray) (maxL : Nat) (ret : Option FieldType) (hh : List (Nat × Nat × Nat × Nat)) (ws : List Cond) (rm : Room) (mc ms n : Nat) : Prop :=
  (rm.cells = mc ∧ rm.slots = ms ∧ rm.frames + 1 ≤ R.frames ∧ 8 + (maxL + 11) + rm.locals ≤ R.locals ∧ (∀ w ∈ ws, ∀ (a' : Array Value) (U : State), s.WarmedH U.vm → w.before a' U = true) ∧ Cond.codeWith y bytes maxL ret hh ∈ ws) ∧
  (Cond.codeWith y bytes maxL ret hh).before args s = true ∧ (Cond.initialized y.cls).before args s = true ∧ (y.cls ≠ "java/lang/invoke/MethodHandle" ∧ y.cls ≠ "java/lang/invoke/VarHandle") ∧
  (∀ sig, parseMethodDescriptor y.desc = some sig → n = sig.parameters.length) ∧ (Cond.methodLink own index y).before args s = true ∧ (Cond.instanceMethod y).before args s = true ∧ (Cond.selects C y y).before args s = true
theorem vx_cwVW {own C : String} {index maxL mc ms : Nat} {y : MethodName} {bytes : ByteArray} {ret : Option FieldType} {hh : List (Nat × Nat × Nat × Nat)} {Ts ws ws' : List Cond} {rm : Room} (n : Nat) (ht : ∀ w ∈ Ts, w.before args s = true) (hT : GoodIn Ts (wsV own index C y ws)) (hw : ws = Cond.codeWith y bytes maxL ret hh :: ws') (hrc : rm.cells = mc) (hrs : rm.slots = ms)
    (hd : y.cls = C ∧ y.cls ≠ "java/lang/invoke/MethodHandle" ∧ y.cls ≠ "java/lang/invoke/VarHandle" ∧ (parseMethodDescriptor y.desc).map (fun d => d.parameters.length) = some n) (hR : rm.frames + 1 ≤ R.frames ∧ 8 + (maxL + 11) + rm.locals ≤ R.locals) :
    vx_CVW R s args own C index y bytes maxL ret hh ws rm mc ms n := by
  obtain ⟨hC, hd⟩ := hd
  subst hC
  have ok : ∀ w ∈ wsV own index y.cls y ws, w.before args s = true := fun w h => ht w (hT w h).1
  have hG : GoodIn Ts ws := fun w h => hT w (by unfold wsV; exact List.mem_append_right _ h)
  have hc : Cond.codeWith y bytes maxL ret hh ∈ ws := by rw [hw]; exact List.mem_cons_self
  refine ⟨⟨hrc, hrs, hR.1, hR.2, pay_in ht hG, hc⟩, ht _ (hG _ hc).1, ok _ (by simp [wsV]), ⟨hd.1, hd.2.1⟩, fun sig h => ?_, ok _ (by simp [wsV]), ok _ (by simp [wsV]), ok _ (by simp [wsV])⟩
  have h2 := hd.2.2
  rw [h] at h2
  exact (Option.some.inj h2).symm
theorem vx_runVW {y : MethodName} {bytes cc : ByteArray} {maxL nL mc ms n index : Nat} {ret : Option FieldType} {hh : List (Nat × Nat × Nat × Nat)} {ws : List Cond} {rm : Room} {Pc : Array Value → State → Prop} {Qc : Array Value → State → Outcome → State → Prop} {free : Addr → Prop} {Ts : List Cond} {own C : String} {b : Addr} {As rest : List Value} {g : JFrame}
    (S : CallFix p m c cc nL s args Ts own) (hM : Met l y ws rm Pc Qc mc ms free) (cw : vx_CVW R s args own C index y bytes maxL ret hh ws rm mc ms n) (hp : PreV s H C b Pc As)
    (hg : g.method = m) (hn : As.length = n) (hsize : g.locals.size = nL) (hstack : g.stack = As.reverse ++ .ref b :: rest) (hW : 2 * g.monitorRoom + (rest.map fun v => v.category).sum ≤ 8) (hdg : decode cc g.pc = .ok (.invokevirtual index, 3)) (hf : cells + mc ≤ R.cells ∧ slots + ms ≤ R.slots) :
    va_Run p l e R s m args below meth c H locs cells slots mc ms g rest (Qc (Value.ref b :: As).toArray) free := by
  obtain ⟨⟨hrc, hrs, hfr, hlo, hws, hcw⟩, hcode, hini, hy, hlen, hl, hin, hse⟩ := cw
  have hK : Back l R p e below s args y 3 8 (PreOf R mc ms Pc) (PostOf Qc mc ms free) := va_backW (hh := hh) (bytes := bytes) (maxL := maxL) (ret := ret) hM hp.1 hrc hrs hfr hlo hws hcw (fun a' U hW => word_at hW (Or.inl (by first | rfl | simp [Cond.onTables, Cond.keeps, Cond.steady])) hini)
  obtain ⟨hx, hb, hml, ho, -⟩ := S
  obtain ⟨-, ⟨cellB, hcB, hoB, hclB⟩, hPc⟩ := hp
  intro T hT X
  obtain ⟨v, vm₁, ⟨U', l2, c2, s2⟩, hW₁, X', ⟨g', mk, t, L, e1, e2, hq, h1, hL, h2, h3⟩, st⟩ := vx_callVW X hx (C := C) (hh := hh) (bytes := bytes) (maxL := maxL) (ret := ret) ho hl hin hse hcode hy hK (by rw [hT]; exact hcB) hoB hclB hg (hsize.trans hml.symm) (argsL := As) (rest := rest) (fun sig h => hn.trans (hlen sig h)) hstack hW (by rw [hb]; exact hdg)
    (fun vm₁ hW₁ => ⟨hf.1, hf.2, hPc (T.setVm vm₁) hT hW₁⟩)
  dsimp only [Pt.U, Pt.locs, Pt.cells, Pt.slots] at X' e1 e2 h1 h2 h3 st
  subst h1; subst h2; subst h3
  exact ⟨v, (T.setVm vm₁).calling g' mk (Value.ref b :: As).toArray, t, U', L, hT, X', hL, e1, e2, hq, st⟩
section
variable {y : MethodName} {bytes cc : ByteArray} {maxL nL mc ms n index : Nat} {ret : Option FieldType} {ws : List Cond} {rm : Room} {Pc : Array Value → State → Prop} {Qc : Array Value → State → Outcome → State → Prop} {XC : String → State → State → Prop} {free : Addr → Prop} {Ts : List Cond} {own C : String} {b : Addr} {As rest : List Value} {g : JFrame}
theorem vx_runVX {hh : List (Nat × Nat × Nat × Nat)} (S : CallFix p m c cc nL s args Ts own) (hM : vx_Met l y ws rm Pc Qc XC mc ms free) (cw : vx_CVW R s args own C index y bytes maxL ret hh ws rm mc ms n) (hp : PreV s H C b Pc As)
    (hg : g.method = m) (hn : As.length = n) (hsize : g.locals.size = nL) (hstack : g.stack = As.reverse ++ .ref b :: rest) (hW : 2 * g.monitorRoom + (rest.map fun v => v.category).sum ≤ 8) (hdg : decode cc g.pc = .ok (.invokevirtual index, 3)) (hf : cells + mc ≤ R.cells ∧ slots + ms ≤ R.slots) :
    vx_Run p l e R s m args below meth c H locs cells slots mc ms g rest (Qc (Value.ref b :: As).toArray) XC free := by
  obtain ⟨⟨hrc, hrs, hfr, hlo, hws, hcw⟩, hcode, hini, hy, hlen, hl, hin, hse⟩ := cw
  have hK : vx_Back l R p e below s args y 3 8 (PreOf R mc ms Pc) (PostOf Qc mc ms free) (vx_Post XC mc ms free) := vx_backW (hh := hh) (bytes := bytes) (maxL := maxL) (ret := ret) hM hp.1 hrc hrs hfr hlo hws hcw (fun a' U hW => word_at hW (Or.inl (by first | rfl | simp [Cond.onTables, Cond.keeps, Cond.steady])) hini)
  obtain ⟨hx, hb, hml, ho, -⟩ := S
  obtain ⟨-, ⟨cellB, hcB, hoB, hclB⟩, hPc⟩ := hp
  intro T hT X
  rcases vx_callVX X hx (C := C) (hh := hh) (bytes := bytes) (maxL := maxL) (ret := ret) ho hl hin hse hcode hy hK (by rw [hT]; exact hcB) hoB hclB hg (hsize.trans hml.symm) (argsL := As) (rest := rest) (fun sig h => hn.trans (hlen sig h)) hstack hW (by rw [hb]; exact hdg)
    (fun vm₁ hW₁ => ⟨hf.1, hf.2, hPc (T.setVm vm₁) hT hW₁⟩) with ⟨v, vm₁, ⟨U', l2, c2, s2⟩, hW₁, X', ⟨g', mk, t, L, e1, e2, hq, h1, hL, h2, h3⟩, st⟩ | ⟨q, vm₁, ⟨U', l2, c2, s2⟩, hW₁, X', ⟨g', mk, t, L, E, ce, e1, e2, hq, hce, hcv, hcl, h1, hL, h2, h3⟩, st⟩
  · dsimp only [Pt.U, Pt.locs, Pt.cells, Pt.slots] at X' e1 e2 h1 h2 h3 st
    subst h1; subst h2; subst h3
    exact Or.inl ⟨v, (T.setVm vm₁).calling g' mk (Value.ref b :: As).toArray, t, U', L, hT, X', hL, e1, e2, hq, st⟩
  · dsimp only [Pt.U, Pt.locs, Pt.cells, Pt.slots] at X' e1 e2 h1 h2 h3 st hcl
    subst h1; subst h2; subst h3
    exact Or.inr ⟨q, (T.setVm vm₁).calling g' mk (Value.ref b :: As).toArray, t, U', L, E, ce, hT, X', hL, e1, e2, hq, hce, hcv, vx_cls hW₁ hcl, st⟩
theorem vx_runSX {hh : List (Nat × Nat × Nat × Nat)} (S : CallFix p m c cc nL s args Ts own) (hM : vx_Met l y ws rm Pc Qc XC mc ms free) (cw : vx_CSW R s args own index y bytes maxL ret hh ws rm mc ms n) (hp : PreS s H Pc As)
    (hg : g.method = m) (hn : As.length = n) (hsize : g.locals.size = nL) (hstack : g.stack = As.reverse ++ rest) (hW : 2 * g.monitorRoom + (rest.map fun v => v.category).sum ≤ 8) (hdg : decode cc g.pc = .ok (.invokestatic index, 3)) (hf : cells + mc ≤ R.cells ∧ slots + ms ≤ R.slots) :
    vx_Run p l e R s m args below meth c H locs cells slots mc ms g rest (Qc As.toArray) XC free := by
  obtain ⟨⟨hrc, hrs, hfr, hlo, hws, hcw⟩, hcode, hini, hy, hlen, hl, hstt⟩ := cw
  have hK : vx_Back l R p e below s args y 3 8 (PreOf R mc ms Pc) (PostOf Qc mc ms free) (vx_Post XC mc ms free) := vx_backW (hh := hh) (bytes := bytes) (maxL := maxL) (ret := ret) hM hp.1 hrc hrs hfr hlo hws hcw (fun a' U hW => word_at hW (Or.inl (by first | rfl | simp [Cond.onTables, Cond.keeps, Cond.steady])) hini)
  obtain ⟨hx, hb, hml, ho, -⟩ := S
  intro T hT X
  rcases vx_callSX X hx (hh := hh) (bytes := bytes) (maxL := maxL) (ret := ret) ho hl hstt hini hcode hy hK hg (hsize.trans hml.symm) (argsL := As) (rest := rest) (fun sig h => hn.trans (hlen sig h)) hstack hW (by rw [hb]; exact hdg)
    (fun vm₁ hW₁ => ⟨hf.1, hf.2, hp.2 (T.setVm vm₁) hT hW₁⟩) with ⟨v, vm₁, ⟨U', l2, c2, s2⟩, hW₁, X', ⟨g', mk, t, L, e1, e2, hq, h1, hL, h2, h3⟩, st⟩ | ⟨q, vm₁, ⟨U', l2, c2, s2⟩, hW₁, X', ⟨g', mk, t, L, E, ce, e1, e2, hq, hce, hcv, hcl, h1, hL, h2, h3⟩, st⟩
  · dsimp only [Pt.U, Pt.locs, Pt.cells, Pt.slots] at X' e1 e2 h1 h2 h3 st
    subst h1; subst h2; subst h3
    exact Or.inl ⟨v, (T.setVm vm₁).calling g' mk As.toArray, t, U', L, hT, X', hL, e1, e2, hq, st⟩
  · dsimp only [Pt.U, Pt.locs, Pt.cells, Pt.slots] at X' e1 e2 h1 h2 h3 st hcl
    subst h1; subst h2; subst h3
    exact Or.inr ⟨q, (T.setVm vm₁).calling g' mk As.toArray, t, U', L, E, ce, hT, X', hL, e1, e2, hq, hce, hcv, vx_cls hW₁ hcl, st⟩
end
end VXH
theorem vx_ofWH {l : Launch} {y : MethodName} {ws ws' : List Cond} {rm : Room} {Pc : Array Value → State → Prop} {Qc : Array Value → State → Outcome → State → Prop} {XC : String → State → State → Prop} {mc ms : Nat} {free : Addr → Prop} {cc : ByteArray} {maxL : Nat} {ret : Option FieldType} {hh : List (Nat × Nat × Nat × Nat)}
    (hy : plainName y.cls = true) (hw : ws = Cond.codeWith y cc maxL ret hh :: ws')
    (body : ∀ p e s m args below meth c s₁, BodyLoose p l y (headSpec ws rm) cc maxL ret e s m args below meth c s₁ → c.maxLocals = maxL → Pc args s →
      W p l e (headSpec ws rm).room s m args below meth c s.heap [] 0 0 (vx_MQ below Qc XC args s mc ms free) (entryFrame m args maxL)) : vx_Met l y ws rm Pc Qc XC mc ms free := by
  refine MetFree.of_bodyS (code := cc) (maxLocals := maxL) (ret := ret) hy ?_ ?_
  · intro args s m h hn
    obtain ⟨m9, meth, c, hn9, h1, h2, h3, h4, -, h5, h6, -⟩ := Cond.codeWith_spec (atoms_spec (ws := ws) h _ (by rw [hw]; exact List.mem_cons_self))
    cases hn.symm.trans hn9
    exact ⟨meth, c, h1, h2, h3, h4, h5, h6⟩
  · intro p e s m args below meth c s₁ B hml hP _
    have hh0 : s₁.heap = s.heap := by rw [B.state]; rfl
    obtain ⟨t, a1, o, b1, b2, b3⟩ := body p e s m args below meth c s₁ B hml hP s₁ hh0 (Stand.of_body B)
    exact ⟨t, o, a1, b1, b2, b3⟩
/-! ===== END ===== -/
end
section
def RX0 : String := "FogBridge$Bridge"
def TX0 : u_T := fun k => match k with
  | 0 => ("FogBridge$Bridge", "tick", "I", false)
  | 1 => ("FogBridge$Bridge", "direction", "I", false)
  | 2 => ("FogBridge$Bridge", "places", "I", false)
  | 3 => ("FogBridge$Bridge", "bears", "I", false)
  | 4 => ("FogBridge$Bridge", "axleToll", "I", false)
  | 5 => ("FogBridge$Bridge", "tenToll", "I", false)
  | 6 => ("FogBridge$Bridge", "cartCount", "I", false)
  | 7 => ("FogBridge$Bridge", "carts", "[LFogBridge$Cart;", true)
  | 8 => ("FogBridge$Bridge", "firstGate", "LFogBridge$Gate;", true)
  | 9 => ("FogBridge$Bridge", "secondGate", "LFogBridge$Gate;", true)
  | _ => ("FogBridge$Bridge", "crossing", "LFogBridge$Row;", true)
def tyX0 : Nat → FieldType := fun k => match k with
  | 0 => .int
  | 1 => .int
  | 2 => .int
  | 3 => .int
  | 4 => .int
  | 5 => .int
  | 6 => .int
  | 7 => .array (.object "FogBridge$Cart")
  | 8 => .object "FogBridge$Gate"
  | 9 => .object "FogBridge$Gate"
  | _ => .object "FogBridge$Row"
abbrev wsX00 : List Cond := u_ws RX0 TX0 11
theorem nmX0 : ∀ a, a < 11 → ∀ b, b < 11 → a ≠ b → (TX0 a).2.1 ≠ (TX0 b).2.1 := by decide +kernel
theorem tyX0_ok : ∀ k, k < 11 → parseFieldDescriptor (TX0 k).2.2.1 = some (tyX0 k) := by decide +kernel
abbrev cX0_init : ByteArray := prog_2_method_1_code
def yX0_init : MethodName := ⟨RX0, "<init>", "()V"⟩
abbrev cX0_gateAt : ByteArray := prog_2_method_2_code
def yX0_gateAt : MethodName := ⟨RX0, "gateAt", "(I)LFogBridge$Gate;"⟩
abbrev cX0_cartAt : ByteArray := prog_2_method_3_code
def yX0_cartAt : MethodName := ⟨RX0, "cartAt", "(I)LFogBridge$Cart;"⟩
abbrev cX0_newCart : ByteArray := prog_2_method_4_code
def yX0_newCart : MethodName := ⟨RX0, "newCart", "()LFogBridge$Cart;"⟩
abbrev cX0_turn : ByteArray := prog_2_method_5_code
def yX0_turn : MethodName := ⟨RX0, "turn", "()V"⟩
abbrev cX0_run : ByteArray := prog_2_method_6_code
def yX0_run : MethodName := ⟨RX0, "run", "(I)I"⟩
abbrev cX0_isOver : ByteArray := prog_2_method_7_code
def yX0_isOver : MethodName := ⟨RX0, "isOver", "(I)Z"⟩
abbrev cX0_coinsInBoxes : ByteArray := prog_2_method_8_code
def yX0_coinsInBoxes : MethodName := ⟨RX0, "coinsInBoxes", "()I"⟩
abbrev cX0_cartsIn : ByteArray := prog_2_method_9_code
def yX0_cartsIn : MethodName := ⟨RX0, "cartsIn", "(I)I"⟩
abbrev cX0_weightOnBridge : ByteArray := prog_2_method_10_code
def yX0_weightOnBridge : MethodName := ⟨RX0, "weightOnBridge", "()I"⟩
abbrev cX0_meanOverTick : ByteArray := prog_2_method_11_code
def yX0_meanOverTick : MethodName := ⟨RX0, "meanOverTick", "()D"⟩
abbrev cX0_tellCart : ByteArray := prog_2_method_12_code
def yX0_tellCart : MethodName := ⟨RX0, "tellCart", "(LFogBridge$Cart;I)I"⟩
abbrev cX0_mixedInto : ByteArray := prog_2_method_13_code
def yX0_mixedInto : MethodName := ⟨RX0, "mixedInto", "(J)J"⟩
abbrev cX0_copyFrom : ByteArray := prog_2_method_14_code
def yX0_copyFrom : MethodName := ⟨RX0, "copyFrom", "(LFogBridge$Bridge;)V"⟩
abbrev cX0_placeOf : ByteArray := prog_2_method_15_code
def yX0_placeOf : MethodName := ⟨RX0, "placeOf", "(LFogBridge$Cart;)I"⟩
abbrev cX0_tollFor : ByteArray := prog_2_method_16_code
def yX0_tollFor : MethodName := ⟨RX0, "tollFor", "(II)I"⟩
abbrev cX0_move : ByteArray := prog_2_method_17_code
def yX0_move : MethodName := ⟨RX0, "move", "()I"⟩
abbrev cX0_goOn : ByteArray := prog_2_method_18_code
def yX0_goOn : MethodName := ⟨RX0, "goOn", "()I"⟩
abbrev cX0_goBack : ByteArray := prog_2_method_19_code
def yX0_goBack : MethodName := ⟨RX0, "goBack", "()V"⟩
abbrev cX0_comeOn : ByteArray := prog_2_method_20_code
def yX0_comeOn : MethodName := ⟨RX0, "comeOn", "()V"⟩
abbrev cX0_hasRoomFor : ByteArray := prog_2_method_21_code
def yX0_hasRoomFor : MethodName := ⟨RX0, "hasRoomFor", "(LFogBridge$Cart;)Z"⟩
abbrev cX0_pays : ByteArray := prog_2_method_22_code
def yX0_pays : MethodName := ⟨RX0, "pays", "(LFogBridge$Cart;LFogBridge$Gate;)Z"⟩
def RX1 : String := "FogBridge$Cart"
def TX1 : u_T := fun k => match k with
  | 0 => ("FogBridge$Cart", "number", "I", true)
  | 1 => ("FogBridge$Cart", "end", "I", false)
  | 2 => ("FogBridge$Cart", "axles", "I", false)
  | 3 => ("FogBridge$Cart", "weight", "I", false)
  | 4 => ("FogBridge$Cart", "pace", "I", false)
  | 5 => ("FogBridge$Cart", "coins", "I", false)
  | 6 => ("FogBridge$Cart", "isCheat", "Z", false)
  | 7 => ("FogBridge$Cart", "hasPaid", "Z", false)
  | 8 => ("FogBridge$Cart", "state", "I", false)
  | 9 => ("FogBridge$Cart", "way", "I", false)
  | _ => ("FogBridge$Cart", "overTick", "I", false)
def tyX1 : Nat → FieldType := fun k => match k with
  | 0 => .int
  | 1 => .int
  | 2 => .int
  | 3 => .int
  | 4 => .int
  | 5 => .int
  | 6 => .boolean
  | 7 => .boolean
  | 8 => .int
  | 9 => .int
  | _ => .int
abbrev wsX10 : List Cond := u_ws RX1 TX1 11
theorem nmX1 : ∀ a, a < 11 → ∀ b, b < 11 → a ≠ b → (TX1 a).2.1 ≠ (TX1 b).2.1 := by decide +kernel
theorem tyX1_ok : ∀ k, k < 11 → parseFieldDescriptor (TX1 k).2.2.1 = some (tyX1 k) := by decide +kernel
abbrev cX1_init : ByteArray := prog_3_method_1_code
def yX1_init : MethodName := ⟨RX1, "<init>", "(I)V"⟩
abbrev cX1_copyFrom : ByteArray := prog_3_method_2_code
def yX1_copyFrom : MethodName := ⟨RX1, "copyFrom", "(LFogBridge$Cart;)V"⟩
def RX2 : String := "FogBridge$Code"
def TX2 : u_T := fun k => match k with
  | 0 => ("FogBridge$Code", "signals", "[I", true)
  | 1 => ("FogBridge$Code", "rowsOfLength", "[I", true)
  | _ => ("FogBridge$Code", "size", "I", false)
def tyX2 : Nat → FieldType := fun k => match k with
  | 0 => .array .int
  | 1 => .array .int
  | _ => .int
abbrev wsX20 : List Cond := u_ws RX2 TX2 3
theorem nmX2 : ∀ a, a < 3 → ∀ b, b < 3 → a ≠ b → (TX2 a).2.1 ≠ (TX2 b).2.1 := by decide +kernel
theorem tyX2_ok : ∀ k, k < 3 → parseFieldDescriptor (TX2 k).2.2.1 = some (tyX2 k) := by decide +kernel
abbrev cX2_init : ByteArray := prog_4_method_1_code
def yX2_init : MethodName := ⟨RX2, "<init>", "()V"⟩
abbrev cX2_isFull : ByteArray := prog_4_method_2_code
def yX2_isFull : MethodName := ⟨RX2, "isFull", "()Z"⟩
abbrev cX2_isAmbiguousWith : ByteArray := prog_4_method_3_code
def yX2_isAmbiguousWith : MethodName := ⟨RX2, "isAmbiguousWith", "(I)Z"⟩
abbrev cX2_add : ByteArray := prog_4_method_4_code
def yX2_add : MethodName := ⟨RX2, "add", "(I)I"⟩
abbrev cX2_ringsOf : ByteArray := prog_4_method_5_code
def yX2_ringsOf : MethodName := ⟨RX2, "ringsOf", "(I)I"⟩
abbrev cX2_readRow : ByteArray := prog_4_method_6_code
def yX2_readRow : MethodName := ⟨RX2, "readRow", "(II)I"⟩
abbrev cX2_safeRings : ByteArray := prog_4_method_7_code
def yX2_safeRings : MethodName := ⟨RX2, "safeRings", "(I)I"⟩
abbrev cX2_wholeRows : ByteArray := prog_4_method_8_code
def yX2_wholeRows : MethodName := ⟨RX2, "wholeRows", "(I)I"⟩
abbrev cX2_mixedInto : ByteArray := prog_4_method_9_code
def yX2_mixedInto : MethodName := ⟨RX2, "mixedInto", "(J)J"⟩
abbrev cX2_signalAtBeginningOf : ByteArray := prog_4_method_10_code
def yX2_signalAtBeginningOf : MethodName := ⟨RX2, "signalAtBeginningOf", "(I)I"⟩
abbrev cX2_rowsByLastSignal : ByteArray := prog_4_method_11_code
def yX2_rowsByLastSignal : MethodName := ⟨RX2, "rowsByLastSignal", "(I)I"⟩
def RX3 : String := "FogBridge$Gate"
def TX3 : u_T := fun k => match k with
  | 0 => ("FogBridge$Gate", "waiting", "LFogBridge$Row;", true)
  | 1 => ("FogBridge$Gate", "coins", "I", false)
  | 2 => ("FogBridge$Gate", "payers", "I", false)
  | 3 => ("FogBridge$Gate", "axles", "I", false)
  | _ => ("FogBridge$Gate", "keptByCheats", "I", false)
def tyX3 : Nat → FieldType := fun k => match k with
  | 0 => .object "FogBridge$Row"
  | 1 => .int
  | 2 => .int
  | 3 => .int
  | _ => .int
abbrev wsX30 : List Cond := u_ws RX3 TX3 5
theorem nmX3 : ∀ a, a < 5 → ∀ b, b < 5 → a ≠ b → (TX3 a).2.1 ≠ (TX3 b).2.1 := by decide +kernel
theorem tyX3_ok : ∀ k, k < 5 → parseFieldDescriptor (TX3 k).2.2.1 = some (tyX3 k) := by decide +kernel
abbrev cX3_init : ByteArray := prog_5_method_1_code
def yX3_init : MethodName := ⟨RX3, "<init>", "()V"⟩
abbrev cX3_take : ByteArray := prog_5_method_2_code
def yX3_take : MethodName := ⟨RX3, "take", "(LFogBridge$Cart;II)V"⟩
abbrev cX3_tell : ByteArray := prog_5_method_3_code
def yX3_tell : MethodName := ⟨RX3, "tell", "(I)I"⟩
abbrev cX3_mixedInto : ByteArray := prog_5_method_4_code
def yX3_mixedInto : MethodName := ⟨RX3, "mixedInto", "(J)J"⟩
abbrev cX3_copyFrom : ByteArray := prog_5_method_5_code
def yX3_copyFrom : MethodName := ⟨RX3, "copyFrom", "(LFogBridge$Gate;)V"⟩
def RX4 : String := "FogBridge$Rings"
def TX4 : u_T := fun k => match k with
  | _ => ("", "", "", false)
def tyX4 : Nat → FieldType := fun k => match k with
  | _ => .int
abbrev wsX40 : List Cond := u_ws RX4 TX4 0
theorem nmX4 : ∀ a, a < 0 → ∀ b, b < 0 → a ≠ b → (TX4 a).2.1 ≠ (TX4 b).2.1 := by decide +kernel
theorem tyX4_ok : ∀ k, k < 0 → parseFieldDescriptor (TX4 k).2.2.1 = some (tyX4 k) := by decide +kernel
abbrev cX4_lengthOf : ByteArray := prog_6_method_2_code
def yX4_lengthOf : MethodName := ⟨RX4, "lengthOf", "(I)I"⟩
abbrev cX4_ringAt : ByteArray := prog_6_method_3_code
def yX4_ringAt : MethodName := ⟨RX4, "ringAt", "(II)I"⟩
abbrev cX4_withoutLast : ByteArray := prog_6_method_4_code
def yX4_withoutLast : MethodName := ⟨RX4, "withoutLast", "(II)I"⟩
abbrev cX4_withoutRing : ByteArray := prog_6_method_5_code
def yX4_withoutRing : MethodName := ⟨RX4, "withoutRing", "(II)I"⟩
abbrev cX4_isBeginning : ByteArray := prog_6_method_6_code
def yX4_isBeginning : MethodName := ⟨RX4, "isBeginning", "(II)Z"⟩
abbrev cX4_behindBeginning : ByteArray := prog_6_method_7_code
def yX4_behindBeginning : MethodName := ⟨RX4, "behindBeginning", "(II)I"⟩
abbrev cX4_followedBy : ByteArray := prog_6_method_8_code
def yX4_followedBy : MethodName := ⟨RX4, "followedBy", "(II)I"⟩
def RX5 : String := "FogBridge$Row"
def TX5 : u_T := fun k => match k with
  | 0 => ("FogBridge$Row", "carts", "[I", true)
  | _ => ("FogBridge$Row", "size", "I", false)
def tyX5 : Nat → FieldType := fun k => match k with
  | 0 => .array .int
  | _ => .int
abbrev wsX50 : List Cond := u_ws RX5 TX5 2
theorem nmX5 : ∀ a, a < 2 → ∀ b, b < 2 → a ≠ b → (TX5 a).2.1 ≠ (TX5 b).2.1 := by decide +kernel
theorem tyX5_ok : ∀ k, k < 2 → parseFieldDescriptor (TX5 k).2.2.1 = some (tyX5 k) := by decide +kernel
abbrev cX5_init : ByteArray := prog_7_method_1_code
def yX5_init : MethodName := ⟨RX5, "<init>", "()V"⟩
abbrev cX5_at : ByteArray := prog_7_method_2_code
def yX5_at : MethodName := ⟨RX5, "at", "(I)I"⟩
abbrev cX5_last : ByteArray := prog_7_method_3_code
def yX5_last : MethodName := ⟨RX5, "last", "()I"⟩
abbrev cX5_addLast : ByteArray := prog_7_method_4_code
def yX5_addLast : MethodName := ⟨RX5, "addLast", "(I)V"⟩
abbrev cX5_addFirst : ByteArray := prog_7_method_5_code
def yX5_addFirst : MethodName := ⟨RX5, "addFirst", "(I)V"⟩
abbrev cX5_removeFirst : ByteArray := prog_7_method_6_code
def yX5_removeFirst : MethodName := ⟨RX5, "removeFirst", "()V"⟩
abbrev cX5_removeLast : ByteArray := prog_7_method_7_code
def yX5_removeLast : MethodName := ⟨RX5, "removeLast", "()V"⟩
abbrev cX5_copyFrom : ByteArray := prog_7_method_8_code
def yX5_copyFrom : MethodName := ⟨RX5, "copyFrom", "(LFogBridge$Row;)V"⟩
def RX6 : String := "FogBridge"
def TX6 : u_T := fun k => match k with
  | 0 => ("FogBridge", "code", "LFogBridge$Code;", true)
  | 1 => ("FogBridge", "fog", "[I", true)
  | 2 => ("FogBridge", "bridge", "LFogBridge$Bridge;", true)
  | 3 => ("FogBridge", "ahead", "LFogBridge$Bridge;", true)
  | _ => ("FogBridge", "branch", "LFogBridge$Bridge;", true)
def tyX6 : Nat → FieldType := fun k => match k with
  | 0 => .object "FogBridge$Code"
  | 1 => .array .int
  | 2 => .object "FogBridge$Bridge"
  | 3 => .object "FogBridge$Bridge"
  | _ => .object "FogBridge$Bridge"
abbrev wsX60 : List Cond := u_ws RX6 TX6 5
theorem nmX6 : ∀ a, a < 5 → ∀ b, b < 5 → a ≠ b → (TX6 a).2.1 ≠ (TX6 b).2.1 := by decide +kernel
theorem tyX6_ok : ∀ k, k < 5 → parseFieldDescriptor (TX6 k).2.2.1 = some (tyX6 k) := by decide +kernel
abbrev cX6_init : ByteArray := prog_1_method_1_code
def yX6_init : MethodName := ⟨RX6, "<init>", "()V"⟩
abbrev cX6_addSignal : ByteArray := prog_1_method_2_code
def yX6_addSignal : MethodName := ⟨RX6, "addSignal", "(I)I"⟩
abbrev cX6_read : ByteArray := prog_1_method_3_code
def yX6_read : MethodName := ⟨RX6, "read", "(II)I"⟩
abbrev cX6_heard : ByteArray := prog_1_method_4_code
def yX6_heard : MethodName := ⟨RX6, "heard", "(I)I"⟩
abbrev cX6_safe : ByteArray := prog_1_method_5_code
def yX6_safe : MethodName := ⟨RX6, "safe", "(I)I"⟩
abbrev cX6_rows : ByteArray := prog_1_method_6_code
def yX6_rows : MethodName := ⟨RX6, "rows", "(I)I"⟩
abbrev cX6_setFog : ByteArray := prog_1_method_7_code
def yX6_setFog : MethodName := ⟨RX6, "setFog", "(II)I"⟩
abbrev cX6_rebuild : ByteArray := prog_1_method_8_code
def yX6_rebuild : MethodName := ⟨RX6, "rebuild", "(II)I"⟩
abbrev cX6_setToll : ByteArray := prog_1_method_9_code
def yX6_setToll : MethodName := ⟨RX6, "setToll", "(II)I"⟩
abbrev cX6_change : ByteArray := prog_1_method_10_code
def yX6_change : MethodName := ⟨RX6, "change", "()I"⟩
abbrev cX6_come : ByteArray := prog_1_method_11_code
def yX6_come : MethodName := ⟨RX6, "come", "(IIIIIZ)I"⟩
abbrev cX6_cart : ByteArray := prog_1_method_12_code
def yX6_cart : MethodName := ⟨RX6, "cart", "(II)I"⟩
abbrev cX6_queue : ByteArray := prog_1_method_13_code
def yX6_queue : MethodName := ⟨RX6, "queue", "(II)I"⟩
abbrev cX6_box : ByteArray := prog_1_method_14_code
def yX6_box : MethodName := ⟨RX6, "box", "(II)I"⟩
abbrev cX6_empty : ByteArray := prog_1_method_15_code
def yX6_empty : MethodName := ⟨RX6, "empty", "(I)I"⟩
abbrev cX6_pass : ByteArray := prog_1_method_16_code
def yX6_pass : MethodName := ⟨RX6, "pass", "(I)I"⟩
abbrev cX6_count : ByteArray := prog_1_method_17_code
def yX6_count : MethodName := ⟨RX6, "count", "(I)I"⟩
abbrev cX6_over : ByteArray := prog_1_method_18_code
def yX6_over : MethodName := ⟨RX6, "over", "(I)I"⟩
abbrev cX6_keep : ByteArray := prog_1_method_19_code
def yX6_keep : MethodName := ⟨RX6, "keep", "()I"⟩
abbrev cX6_foresee : ByteArray := prog_1_method_20_code
def yX6_foresee : MethodName := ⟨RX6, "foresee", "(II)I"⟩
abbrev cX6_mean : ByteArray := prog_1_method_21_code
def yX6_mean : MethodName := ⟨RX6, "mean", "()D"⟩
abbrev cX6_digest : ByteArray := prog_1_method_22_code
def yX6_digest : MethodName := ⟨RX6, "digest", "()J"⟩
abbrev cX6_isBetween : ByteArray := prog_1_method_23_code
def yX6_isBetween : MethodName := ⟨RX6, "isBetween", "(III)Z"⟩
abbrev cX6_isIndex : ByteArray := prog_1_method_24_code
def yX6_isIndex : MethodName := ⟨RX6, "isIndex", "(II)Z"⟩
abbrev cX6_mixed : ByteArray := prog_1_method_25_code
def yX6_mixed : MethodName := ⟨RX6, "mixed", "(JI)J"⟩
abbrev cX6_ringsHeard : ByteArray := prog_1_method_26_code
def yX6_ringsHeard : MethodName := ⟨RX6, "ringsHeard", "(II)I"⟩
abbrev cX6_fogIn : ByteArray := prog_1_method_27_code
def yX6_fogIn : MethodName := ⟨RX6, "fogIn", "(I)I"⟩
abbrev cX6_countOf : ByteArray := prog_1_method_28_code
def yX6_countOf : MethodName := ⟨RX6, "countOf", "(I)I"⟩
def RX7 : String := "FogBridgeModel$State"
def TX7 : u_T := fun k => match k with
  | 0 => ("FogBridgeModel$State", "tick", "I", false)
  | 1 => ("FogBridgeModel$State", "open", "I", false)
  | 2 => ("FogBridgeModel$State", "carts", "I", false)
  | 3 => ("FogBridgeModel$State", "of", "[I", true)
  | 4 => ("FogBridgeModel$State", "at", "[I", true)
  | 5 => ("FogBridgeModel$State", "row", "[I", true)
  | 6 => ("FogBridgeModel$State", "box", "[I", true)
  | _ => ("FogBridgeModel$State", "this$0", "LFogBridgeModel;", true)
def tyX7 : Nat → FieldType := fun k => match k with
  | 0 => .int
  | 1 => .int
  | 2 => .int
  | 3 => .array .int
  | 4 => .array .int
  | 5 => .array .int
  | 6 => .array .int
  | _ => .object "FogBridgeModel"
abbrev wsX70 : List Cond := u_ws RX7 TX7 8
theorem nmX7 : ∀ a, a < 8 → ∀ b, b < 8 → a ≠ b → (TX7 a).2.1 ≠ (TX7 b).2.1 := by decide +kernel
theorem tyX7_ok : ∀ k, k < 8 → parseFieldDescriptor (TX7 k).2.2.1 = some (tyX7 k) := by decide +kernel
abbrev cX7_init : ByteArray := prog_10_method_1_code
def yX7_init : MethodName := ⟨RX7, "<init>", "(LFogBridgeModel;)V"⟩
abbrev cX7_copy : ByteArray := prog_10_method_2_code
def yX7_copy : MethodName := ⟨RX7, "copy", "([I[I)V"⟩
abbrev cX7_become : ByteArray := prog_10_method_3_code
def yX7_become : MethodName := ⟨RX7, "become", "(LFogBridgeModel$State;)V"⟩
abbrev cX7_own : ByteArray := prog_10_method_4_code
def yX7_own : MethodName := ⟨RX7, "own", "(II)I"⟩
abbrev cX7_set : ByteArray := prog_10_method_5_code
def yX7_set : MethodName := ⟨RX7, "set", "(III)V"⟩
abbrev cX7_line : ByteArray := prog_10_method_6_code
def yX7_line : MethodName := ⟨RX7, "line", "(III)V"⟩
abbrev cX7_first : ByteArray := prog_10_method_7_code
def yX7_first : MethodName := ⟨RX7, "first", "(I)I"⟩
abbrev cX7_leave : ByteArray := prog_10_method_8_code
def yX7_leave : MethodName := ⟨RX7, "leave", "(I)V"⟩
abbrev cX7_move : ByteArray := prog_10_method_9_code
def yX7_move : MethodName := ⟨RX7, "move", "(I)V"⟩
abbrev cX7_weight : ByteArray := prog_10_method_10_code
def yX7_weight : MethodName := ⟨RX7, "weight", "()I"⟩
abbrev cX7_isBack : ByteArray := prog_10_method_11_code
def yX7_isBack : MethodName := ⟨RX7, "isBack", "()Z"⟩
abbrev cX7_comeOn : ByteArray := prog_10_method_12_code
def yX7_comeOn : MethodName := ⟨RX7, "comeOn", "()V"⟩
abbrev cX7_pass : ByteArray := prog_10_method_13_code
def yX7_pass : MethodName := ⟨RX7, "pass", "()I"⟩
abbrev cX7_how : ByteArray := prog_10_method_14_code
def yX7_how : MethodName := ⟨RX7, "how", "(I)I"⟩
def RX8 : String := "FogBridgeModel"
def TX8 : u_T := fun k => match k with
  | 0 => ("FogBridgeModel", "thrown", "I", false)
  | 1 => ("FogBridgeModel", "signals", "I", false)
  | 2 => ("FogBridgeModel", "signal", "[I", true)
  | 3 => ("FogBridgeModel", "fog", "[I", true)
  | 4 => ("FogBridgeModel", "places", "I", false)
  | 5 => ("FogBridgeModel", "bears", "I", false)
  | 6 => ("FogBridgeModel", "axleToll", "I", false)
  | 7 => ("FogBridgeModel", "tenToll", "I", false)
  | 8 => ("FogBridgeModel", "s", "LFogBridgeModel$State;", true)
  | _ => ("FogBridgeModel", "ahead", "LFogBridgeModel$State;", true)
def tyX8 : Nat → FieldType := fun k => match k with
  | 0 => .int
  | 1 => .int
  | 2 => .array .int
  | 3 => .array .int
  | 4 => .int
  | 5 => .int
  | 6 => .int
  | 7 => .int
  | 8 => .object "FogBridgeModel$State"
  | _ => .object "FogBridgeModel$State"
abbrev wsX80 : List Cond := u_ws RX8 TX8 10
theorem nmX8 : ∀ a, a < 10 → ∀ b, b < 10 → a ≠ b → (TX8 a).2.1 ≠ (TX8 b).2.1 := by decide +kernel
theorem tyX8_ok : ∀ k, k < 10 → parseFieldDescriptor (TX8 k).2.2.1 = some (tyX8 k) := by decide +kernel
abbrev cX8_init : ByteArray := prog_9_method_1_code
def yX8_init : MethodName := ⟨RX8, "<init>", "()V"⟩
abbrev cX8_thrown : ByteArray := prog_9_method_2_code
def yX8_thrown : MethodName := ⟨RX8, "thrown", "()I"⟩
abbrev cX8_no : ByteArray := prog_9_method_3_code
def yX8_no : MethodName := ⟨RX8, "no", "(I)I"⟩
abbrev cX8_isIn : ByteArray := prog_9_method_4_code
def yX8_isIn : MethodName := ⟨RX8, "isIn", "(III)Z"⟩
abbrev cX8_length : ByteArray := prog_9_method_5_code
def yX8_length : MethodName := ⟨RX8, "length", "(I)I"⟩
abbrev cX8_isRow : ByteArray := prog_9_method_6_code
def yX8_isRow : MethodName := ⟨RX8, "isRow", "(II)Z"⟩
abbrev cX8_ten : ByteArray := prog_9_method_7_code
def yX8_ten : MethodName := ⟨RX8, "ten", "(I)I"⟩
abbrev cX8_begins : ByteArray := prog_9_method_8_code
def yX8_begins : MethodName := ⟨RX8, "begins", "(II)Z"⟩
abbrev cX8_addSignal : ByteArray := prog_9_method_9_code
def yX8_addSignal : MethodName := ⟨RX8, "addSignal", "(I)I"⟩
abbrev cX8_beginning : ByteArray := prog_9_method_10_code
def yX8_beginning : MethodName := ⟨RX8, "beginning", "(I)I"⟩
abbrev cX8_behind : ByteArray := prog_9_method_11_code
def yX8_behind : MethodName := ⟨RX8, "behind", "(II)I"⟩
abbrev cX8_isWhole : ByteArray := prog_9_method_12_code
def yX8_isWhole : MethodName := ⟨RX8, "isWhole", "(I)Z"⟩
abbrev cX8_read : ByteArray := prog_9_method_13_code
def yX8_read : MethodName := ⟨RX8, "read", "(II)I"⟩
abbrev cX8_isSignal : ByteArray := prog_9_method_14_code
def yX8_isSignal : MethodName := ⟨RX8, "isSignal", "(I)Z"⟩
abbrev cX8_heard : ByteArray := prog_9_method_15_code
def yX8_heard : MethodName := ⟨RX8, "heard", "(I)I"⟩
abbrev cX8_safe : ByteArray := prog_9_method_16_code
def yX8_safe : MethodName := ⟨RX8, "safe", "(I)I"⟩
abbrev cX8_rows : ByteArray := prog_9_method_17_code
def yX8_rows : MethodName := ⟨RX8, "rows", "(I)I"⟩
abbrev cX8_setFog : ByteArray := prog_9_method_18_code
def yX8_setFog : MethodName := ⟨RX8, "setFog", "(II)I"⟩
abbrev cX8_rebuild : ByteArray := prog_9_method_19_code
def yX8_rebuild : MethodName := ⟨RX8, "rebuild", "(II)I"⟩
abbrev cX8_setToll : ByteArray := prog_9_method_20_code
def yX8_setToll : MethodName := ⟨RX8, "setToll", "(II)I"⟩
abbrev cX8_change : ByteArray := prog_9_method_21_code
def yX8_change : MethodName := ⟨RX8, "change", "()I"⟩
abbrev cX8_come : ByteArray := prog_9_method_22_code
def yX8_come : MethodName := ⟨RX8, "come", "(IIIIIZ)I"⟩
abbrev cX8_cartTold : ByteArray := prog_9_method_23_code
def yX8_cartTold : MethodName := ⟨RX8, "cartTold", "(II)I"⟩
abbrev cX8_isCart : ByteArray := prog_9_method_24_code
def yX8_isCart : MethodName := ⟨RX8, "isCart", "(I)Z"⟩
abbrev cX8_cart : ByteArray := prog_9_method_25_code
def yX8_cart : MethodName := ⟨RX8, "cart", "(II)I"⟩
abbrev cX8_queue : ByteArray := prog_9_method_26_code
def yX8_queue : MethodName := ⟨RX8, "queue", "(II)I"⟩
abbrev cX8_box : ByteArray := prog_9_method_27_code
def yX8_box : MethodName := ⟨RX8, "box", "(II)I"⟩
abbrev cX8_empty : ByteArray := prog_9_method_28_code
def yX8_empty : MethodName := ⟨RX8, "empty", "(I)I"⟩
abbrev cX8_pass : ByteArray := prog_9_method_29_code
def yX8_pass : MethodName := ⟨RX8, "pass", "(I)I"⟩
abbrev cX8_counted : ByteArray := prog_9_method_30_code
def yX8_counted : MethodName := ⟨RX8, "counted", "(I)I"⟩
abbrev cX8_count : ByteArray := prog_9_method_31_code
def yX8_count : MethodName := ⟨RX8, "count", "(I)I"⟩
abbrev cX8_over : ByteArray := prog_9_method_32_code
def yX8_over : MethodName := ⟨RX8, "over", "(I)I"⟩
abbrev cX8_overBy : ByteArray := prog_9_method_33_code
def yX8_overBy : MethodName := ⟨RX8, "overBy", "(I)I"⟩
abbrev cX8_keep : ByteArray := prog_9_method_34_code
def yX8_keep : MethodName := ⟨RX8, "keep", "()I"⟩
abbrev cX8_foresee : ByteArray := prog_9_method_35_code
def yX8_foresee : MethodName := ⟨RX8, "foresee", "(II)I"⟩
abbrev cX8_mean : ByteArray := prog_9_method_36_code
def yX8_mean : MethodName := ⟨RX8, "mean", "()D"⟩
abbrev cX8_digest : ByteArray := prog_9_method_37_code
def yX8_digest : MethodName := ⟨RX8, "digest", "()J"⟩
def RJ9 : String := "java/lang/Math"
def TJ9 : u_T := fun k => match k with
  | _ => ("", "", "", false)
def tyJ9 : Nat → FieldType := fun k => match k with
  | _ => .int
theorem nmJ9 : ∀ a, a < 0 → ∀ b, b < 0 → a ≠ b → (TJ9 a).2.1 ≠ (TJ9 b).2.1 := by decide +kernel
theorem tyJ9_ok : ∀ k, k < 0 → parseFieldDescriptor (TJ9 k).2.2.1 = some (tyJ9 k) := by decide +kernel
abbrev cJ9_max_7cf53 : ByteArray := prog_15_method_65_code
def yJ9_max_7cf53 : MethodName := ⟨RJ9, "max", "(II)I"⟩
abbrev cJ9_min_7cf53 : ByteArray := prog_15_method_69_code
def yJ9_min_7cf53 : MethodName := ⟨RJ9, "min", "(II)I"⟩
def RJ0 : String := "java/lang/String"
def TJ0 : u_T := fun k => match k with
  | _ => ("", "", "", false)
def tyJ0 : Nat → FieldType := fun k => match k with
  | _ => .int
theorem nmJ0 : ∀ a, a < 0 → ∀ b, b < 0 → a ≠ b → (TJ0 a).2.1 ≠ (TJ0 b).2.1 := by decide +kernel
theorem tyJ0_ok : ∀ k, k < 0 → parseFieldDescriptor (TJ0 k).2.2.1 = some (tyJ0 k) := by decide +kernel
def RJ10 : String := "java/lang/System"
def TJ10 : u_T := fun k => match k with
  | _ => ("", "", "", false)
def tyJ10 : Nat → FieldType := fun k => match k with
  | _ => .int
theorem nmJ10 : ∀ a, a < 0 → ∀ b, b < 0 → a ≠ b → (TJ10 a).2.1 ≠ (TJ10 b).2.1 := by decide +kernel
theorem tyJ10_ok : ∀ k, k < 0 → parseFieldDescriptor (TJ10 k).2.2.1 = some (tyJ10 k) := by decide +kernel
def RL : String := "FogBridgeLaw"
abbrev cL_addSignal : ByteArray := method_3_code
def yL_addSignal : MethodName := ⟨RL, "addSignal", "(LFogBridge;I[J)I"⟩
abbrev cL_read : ByteArray := method_4_code
def yL_read : MethodName := ⟨RL, "read", "(LFogBridge;II[J)I"⟩
abbrev cL_heard : ByteArray := method_5_code
def yL_heard : MethodName := ⟨RL, "heard", "(LFogBridge;I[J)I"⟩
abbrev cL_safe : ByteArray := method_6_code
def yL_safe : MethodName := ⟨RL, "safe", "(LFogBridge;I[J)I"⟩
abbrev cL_rows : ByteArray := method_7_code
def yL_rows : MethodName := ⟨RL, "rows", "(LFogBridge;I[J)I"⟩
abbrev cL_setFog : ByteArray := method_8_code
def yL_setFog : MethodName := ⟨RL, "setFog", "(LFogBridge;II[J)I"⟩
abbrev cL_rebuild : ByteArray := method_9_code
def yL_rebuild : MethodName := ⟨RL, "rebuild", "(LFogBridge;II[J)I"⟩
abbrev cL_setToll : ByteArray := method_10_code
def yL_setToll : MethodName := ⟨RL, "setToll", "(LFogBridge;II[J)I"⟩
abbrev cL_come : ByteArray := method_11_code
def yL_come : MethodName := ⟨RL, "come", "(LFogBridge;IIIIIZ[J)I"⟩
abbrev cL_cart : ByteArray := method_12_code
def yL_cart : MethodName := ⟨RL, "cart", "(LFogBridge;II[J)I"⟩
abbrev cL_queue : ByteArray := method_13_code
def yL_queue : MethodName := ⟨RL, "queue", "(LFogBridge;II[J)I"⟩
abbrev cL_box : ByteArray := method_14_code
def yL_box : MethodName := ⟨RL, "box", "(LFogBridge;II[J)I"⟩
abbrev cL_empty : ByteArray := method_15_code
def yL_empty : MethodName := ⟨RL, "empty", "(LFogBridge;I[J)I"⟩
abbrev cL_pass : ByteArray := method_16_code
def yL_pass : MethodName := ⟨RL, "pass", "(LFogBridge;I[J)I"⟩
abbrev cL_count : ByteArray := method_17_code
def yL_count : MethodName := ⟨RL, "count", "(LFogBridge;I[J)I"⟩
abbrev cL_over : ByteArray := method_18_code
def yL_over : MethodName := ⟨RL, "over", "(LFogBridge;I[J)I"⟩
abbrev cL_foresee : ByteArray := method_19_code
def yL_foresee : MethodName := ⟨RL, "foresee", "(LFogBridge;II[J)I"⟩
abbrev cL_law : ByteArray := code
def yL_law : MethodName := ⟨RL, "law", "([I)Z"⟩
abbrev vwCl : List vw_C := [(RX0, TX0, 11), (RX1, TX1, 11), (RX2, TX2, 3), (RX3, TX3, 5), (RX5, TX5, 2), (RX6, TX6, 5), (RX7, TX7, 8), (RX8, TX8, 10)]
/-! names: classes, fields, methods; the words of the tables by their places -/
/-- a word that stays as the machine warms up -/
def gok (w : Cond) : Bool := goodWord w || (match w with
  | .fieldLinkNest _ _ _ _ _ _ => true
  | .methodLinkNest _ _ _ _ => true
  | _ => false)
def gW (w : Cond) : Prop := w ∈ lw_tbl ∧ gok w = true
theorem gU_X0 : ∀ w ∈ wsX00, gW w := by
  have h : (wsX00.all fun w => decide (w ∈ lw_tbl) && gok w) = true := by decide +kernel
  intro w hw
  have := List.all_eq_true.mp h w hw
  simp only [Bool.and_eq_true, decide_eq_true_eq] at this
  exact this
theorem gU_X1 : ∀ w ∈ wsX10, gW w := by
  have h : (wsX10.all fun w => decide (w ∈ lw_tbl) && gok w) = true := by decide +kernel
  intro w hw
  have := List.all_eq_true.mp h w hw
  simp only [Bool.and_eq_true, decide_eq_true_eq] at this
  exact this
theorem gU_X2 : ∀ w ∈ wsX20, gW w := by
  have h : (wsX20.all fun w => decide (w ∈ lw_tbl) && gok w) = true := by decide +kernel
  intro w hw
  have := List.all_eq_true.mp h w hw
  simp only [Bool.and_eq_true, decide_eq_true_eq] at this
  exact this
theorem gU_X3 : ∀ w ∈ wsX30, gW w := by
  have h : (wsX30.all fun w => decide (w ∈ lw_tbl) && gok w) = true := by decide +kernel
  intro w hw
  have := List.all_eq_true.mp h w hw
  simp only [Bool.and_eq_true, decide_eq_true_eq] at this
  exact this
theorem gU_X5 : ∀ w ∈ wsX50, gW w := by
  have h : (wsX50.all fun w => decide (w ∈ lw_tbl) && gok w) = true := by decide +kernel
  intro w hw
  have := List.all_eq_true.mp h w hw
  simp only [Bool.and_eq_true, decide_eq_true_eq] at this
  exact this
theorem gU_X6 : ∀ w ∈ wsX60, gW w := by
  have h : (wsX60.all fun w => decide (w ∈ lw_tbl) && gok w) = true := by decide +kernel
  intro w hw
  have := List.all_eq_true.mp h w hw
  simp only [Bool.and_eq_true, decide_eq_true_eq] at this
  exact this
theorem gU_X7 : ∀ w ∈ wsX70, gW w := by
  have h : (wsX70.all fun w => decide (w ∈ lw_tbl) && gok w) = true := by decide +kernel
  intro w hw
  have := List.all_eq_true.mp h w hw
  simp only [Bool.and_eq_true, decide_eq_true_eq] at this
  exact this
theorem gU_X8 : ∀ w ∈ wsX80, gW w := by
  have h : (wsX80.all fun w => decide (w ∈ lw_tbl) && gok w) = true := by decide +kernel
  intro w hw
  have := List.all_eq_true.mp h w hw
  simp only [Bool.and_eq_true, decide_eq_true_eq] at this
  exact this
theorem qS_yX0_move : gW (.selects RX0 yX0_move yX0_move) := ⟨List.mem_of_getElem? (i := 0) (by decide +kernel), rfl⟩
theorem qS_yX0_goOn : gW (.selects RX0 yX0_goOn yX0_goOn) := ⟨List.mem_of_getElem? (i := 1) (by decide +kernel), rfl⟩
theorem qS_yX0_goBack : gW (.selects RX0 yX0_goBack yX0_goBack) := ⟨List.mem_of_getElem? (i := 2) (by decide +kernel), rfl⟩
theorem qS_yX0_comeOn : gW (.selects RX0 yX0_comeOn yX0_comeOn) := ⟨List.mem_of_getElem? (i := 3) (by decide +kernel), rfl⟩
theorem qS_yX0_hasRoomFor : gW (.selects RX0 yX0_hasRoomFor yX0_hasRoomFor) := ⟨List.mem_of_getElem? (i := 4) (by decide +kernel), rfl⟩
theorem qS_yX0_pays : gW (.selects RX0 yX0_pays yX0_pays) := ⟨List.mem_of_getElem? (i := 5) (by decide +kernel), rfl⟩
theorem qS_yX0_tollFor : gW (.selects RX0 yX0_tollFor yX0_tollFor) := ⟨List.mem_of_getElem? (i := 6) (by decide +kernel), rfl⟩
theorem qS_yX6_countOf : gW (.selects RX6 yX6_countOf yX6_countOf) := ⟨List.mem_of_getElem? (i := 7) (by decide +kernel), rfl⟩
theorem qS_yX0_placeOf : gW (.selects RX0 yX0_placeOf yX0_placeOf) := ⟨List.mem_of_getElem? (i := 8) (by decide +kernel), rfl⟩
theorem qS_yX2_signalAtBeginningOf : gW (.selects RX2 yX2_signalAtBeginningOf yX2_signalAtBeginningOf) := ⟨List.mem_of_getElem? (i := 10) (by decide +kernel), rfl⟩
theorem qS_yX6_ringsHeard : gW (.selects RX6 yX6_ringsHeard yX6_ringsHeard) := ⟨List.mem_of_getElem? (i := 11) (by decide +kernel), rfl⟩
theorem qS_yX6_fogIn : gW (.selects RX6 yX6_fogIn yX6_fogIn) := ⟨List.mem_of_getElem? (i := 12) (by decide +kernel), rfl⟩
theorem qS_yX2_rowsByLastSignal : gW (.selects RX2 yX2_rowsByLastSignal yX2_rowsByLastSignal) := ⟨List.mem_of_getElem? (i := 13) (by decide +kernel), rfl⟩
theorem qS_yX8_no : gW (.selects RX8 yX8_no yX8_no) := ⟨List.mem_of_getElem? (i := 14) (by decide +kernel), rfl⟩
theorem qS_yX8_beginning : gW (.selects RX8 yX8_beginning yX8_beginning) := ⟨List.mem_of_getElem? (i := 15) (by decide +kernel), rfl⟩
theorem qS_yX8_behind : gW (.selects RX8 yX8_behind yX8_behind) := ⟨List.mem_of_getElem? (i := 16) (by decide +kernel), rfl⟩
theorem qS_yX8_isSignal : gW (.selects RX8 yX8_isSignal yX8_isSignal) := ⟨List.mem_of_getElem? (i := 17) (by decide +kernel), rfl⟩
theorem qS_yX8_isWhole : gW (.selects RX8 yX8_isWhole yX8_isWhole) := ⟨List.mem_of_getElem? (i := 18) (by decide +kernel), rfl⟩
theorem qS_yX7_own : gW (.selects RX7 yX7_own yX7_own) := ⟨List.mem_of_getElem? (i := 19) (by decide +kernel), rfl⟩
theorem qS_yX7_set : gW (.selects RX7 yX7_set yX7_set) := ⟨List.mem_of_getElem? (i := 20) (by decide +kernel), rfl⟩
theorem qS_yX8_isCart : gW (.selects RX8 yX8_isCart yX8_isCart) := ⟨List.mem_of_getElem? (i := 21) (by decide +kernel), rfl⟩
theorem qS_yX8_cartTold : gW (.selects RX8 yX8_cartTold yX8_cartTold) := ⟨List.mem_of_getElem? (i := 22) (by decide +kernel), rfl⟩
theorem qS_yX7_move : gW (.selects RX7 yX7_move yX7_move) := ⟨List.mem_of_getElem? (i := 23) (by decide +kernel), rfl⟩
theorem qS_yX7_leave : gW (.selects RX7 yX7_leave yX7_leave) := ⟨List.mem_of_getElem? (i := 24) (by decide +kernel), rfl⟩
theorem qS_yX7_comeOn : gW (.selects RX7 yX7_comeOn yX7_comeOn) := ⟨List.mem_of_getElem? (i := 25) (by decide +kernel), rfl⟩
theorem qS_yX7_isBack : gW (.selects RX7 yX7_isBack yX7_isBack) := ⟨List.mem_of_getElem? (i := 26) (by decide +kernel), rfl⟩
theorem qS_yX7_first : gW (.selects RX7 yX7_first yX7_first) := ⟨List.mem_of_getElem? (i := 27) (by decide +kernel), rfl⟩
theorem qS_yX8_counted : gW (.selects RX8 yX8_counted yX8_counted) := ⟨List.mem_of_getElem? (i := 28) (by decide +kernel), rfl⟩
theorem qS_yX7_copy : gW (.selects RX7 yX7_copy yX7_copy) := ⟨List.mem_of_getElem? (i := 29) (by decide +kernel), rfl⟩
theorem qS_yX8_overBy : gW (.selects RX8 yX8_overBy yX8_overBy) := ⟨List.mem_of_getElem? (i := 30) (by decide +kernel), rfl⟩
theorem qN_L : gW (.initialized RL) := ⟨List.mem_of_getElem? (i := 31) (by decide +kernel), rfl⟩
theorem qN_X6 : gW (.initialized RX6) := ⟨List.mem_of_getElem? (i := 32) (by decide +kernel), rfl⟩
theorem qN_X2 : gW (.initialized RX2) := ⟨List.mem_of_getElem? (i := 33) (by decide +kernel), rfl⟩
theorem qN_X0 : gW (.initialized RX0) := ⟨List.mem_of_getElem? (i := 34) (by decide +kernel), rfl⟩
theorem qN_X3 : gW (.initialized RX3) := ⟨List.mem_of_getElem? (i := 35) (by decide +kernel), rfl⟩
theorem qN_X5 : gW (.initialized RX5) := ⟨List.mem_of_getElem? (i := 36) (by decide +kernel), rfl⟩
theorem qN_X1 : gW (.initialized RX1) := ⟨List.mem_of_getElem? (i := 37) (by decide +kernel), rfl⟩
theorem qN_X8 : gW (.initialized RX8) := ⟨List.mem_of_getElem? (i := 38) (by decide +kernel), rfl⟩
theorem qN_X7 : gW (.initialized RX7) := ⟨List.mem_of_getElem? (i := 39) (by decide +kernel), rfl⟩
theorem qN_X4 : gW (.initialized RX4) := ⟨List.mem_of_getElem? (i := 40) (by decide +kernel), rfl⟩
theorem qN_J10 : gW (.initialized RJ10) := ⟨List.mem_of_getElem? (i := 47) (by decide +kernel), rfl⟩
theorem qN_J9 : gW (.initialized RJ9) := ⟨List.mem_of_getElem? (i := 48) (by decide +kernel), rfl⟩
theorem qCL_L_8 : gW (.classLink RL 8 RX6) := ⟨List.mem_of_getElem? (i := 49) (by decide +kernel), rfl⟩
theorem qIn_X6 : gW (.instantiable RX6 5) := ⟨List.mem_of_getElem? (i := 50) (by decide +kernel), rfl⟩
theorem qL_L_69 : gW (.methodLink RL 69 yX6_init) := ⟨List.mem_of_getElem? (i := 51) (by decide +kernel), rfl⟩
theorem qI_yX6_init : gW (.instanceMethod yX6_init) := ⟨List.mem_of_getElem? (i := 52) (by decide +kernel), rfl⟩
theorem qC_yX6_init : gW (.code yX6_init cX6_init 1 none) := ⟨List.mem_of_getElem? (i := 53) (by decide +kernel), rfl⟩
theorem qL_X6_1 : gW (.methodLink RX6 1 objectInit) := ⟨List.mem_of_getElem? (i := 54) (by decide +kernel), rfl⟩
theorem qI_objectInit : gW (.instanceMethod objectInit) := ⟨List.mem_of_getElem? (i := 55) (by decide +kernel), rfl⟩
theorem qC_objectInit : gW (.code objectInit ⟨#[0xb1]⟩ 1 none) := ⟨List.mem_of_getElem? (i := 56) (by decide +kernel), rfl⟩
theorem qCL_X6_7 : gW (.classLink RX6 7 RX2) := ⟨List.mem_of_getElem? (i := 57) (by decide +kernel), rfl⟩
theorem qIn_X2 : gW (.instantiable RX2 3) := ⟨List.mem_of_getElem? (i := 58) (by decide +kernel), rfl⟩
theorem qMN_X6_9 : gW (.methodLinkNest RX6 9 yX2_init "FogBridge") := ⟨List.mem_of_getElem? (i := 59) (by decide +kernel), rfl⟩
theorem qI_yX2_init : gW (.instanceMethod yX2_init) := ⟨List.mem_of_getElem? (i := 60) (by decide +kernel), rfl⟩
theorem qC_yX2_init : gW (.code yX2_init cX2_init 1 none) := ⟨List.mem_of_getElem? (i := 61) (by decide +kernel), rfl⟩
theorem qL_X2_3 : gW (.methodLink RX2 3 objectInit) := ⟨List.mem_of_getElem? (i := 62) (by decide +kernel), rfl⟩
theorem qF_X2_9 : gW (.fieldLink RX2 9 "FogBridge$Code" "signals" "[I") := ⟨List.mem_of_getElem? (i := 63) (by decide +kernel), rfl⟩
theorem qF_X2_15 : gW (.fieldLink RX2 15 "FogBridge$Code" "rowsOfLength" "[I") := ⟨List.mem_of_getElem? (i := 64) (by decide +kernel), rfl⟩
theorem qF_X2_18 : gW (.fieldLink RX2 18 "FogBridge$Code" "size" "I") := ⟨List.mem_of_getElem? (i := 65) (by decide +kernel), rfl⟩
theorem qFN_X6_81 : gW (.fieldLinkNest RX6 81 "FogBridge$Code" "size" "I" "FogBridge") := ⟨List.mem_of_getElem? (i := 66) (by decide +kernel), rfl⟩
theorem qA_int : gW (.arrayClass .int) := ⟨List.mem_of_getElem? (i := 74) (by decide +kernel), rfl⟩
theorem qCL_X6_20 : gW (.classLink RX6 20 RX0) := ⟨List.mem_of_getElem? (i := 75) (by decide +kernel), rfl⟩
theorem qIn_X0 : gW (.instantiable RX0 11) := ⟨List.mem_of_getElem? (i := 76) (by decide +kernel), rfl⟩
theorem qL_X6_22 : gW (.methodLink RX6 22 yX0_init) := ⟨List.mem_of_getElem? (i := 77) (by decide +kernel), rfl⟩
theorem qI_yX0_init : gW (.instanceMethod yX0_init) := ⟨List.mem_of_getElem? (i := 78) (by decide +kernel), rfl⟩
theorem qC_yX0_init : gW (.code yX0_init cX0_init 2 none) := ⟨List.mem_of_getElem? (i := 79) (by decide +kernel), rfl⟩
theorem qL_X0_3 : gW (.methodLink RX0 3 objectInit) := ⟨List.mem_of_getElem? (i := 80) (by decide +kernel), rfl⟩
theorem qCL_X0_24 : gW (.classLink RX0 24 RX1) := ⟨List.mem_of_getElem? (i := 81) (by decide +kernel), rfl⟩
theorem qCL_X0_30 : gW (.classLink RX0 30 RX3) := ⟨List.mem_of_getElem? (i := 83) (by decide +kernel), rfl⟩
theorem qIn_X3 : gW (.instantiable RX3 5) := ⟨List.mem_of_getElem? (i := 84) (by decide +kernel), rfl⟩
theorem qMN_X0_32 : gW (.methodLinkNest RX0 32 yX3_init "FogBridge") := ⟨List.mem_of_getElem? (i := 85) (by decide +kernel), rfl⟩
theorem qI_yX3_init : gW (.instanceMethod yX3_init) := ⟨List.mem_of_getElem? (i := 86) (by decide +kernel), rfl⟩
theorem qC_yX3_init : gW (.code yX3_init cX3_init 1 none) := ⟨List.mem_of_getElem? (i := 87) (by decide +kernel), rfl⟩
theorem qL_X3_3 : gW (.methodLink RX3 3 objectInit) := ⟨List.mem_of_getElem? (i := 88) (by decide +kernel), rfl⟩
theorem qCL_X3_9 : gW (.classLink RX3 9 RX5) := ⟨List.mem_of_getElem? (i := 89) (by decide +kernel), rfl⟩
theorem qIn_X5 : gW (.instantiable RX5 2) := ⟨List.mem_of_getElem? (i := 90) (by decide +kernel), rfl⟩
theorem qMN_X3_11 : gW (.methodLinkNest RX3 11 yX5_init "FogBridge") := ⟨List.mem_of_getElem? (i := 91) (by decide +kernel), rfl⟩
theorem qI_yX5_init : gW (.instanceMethod yX5_init) := ⟨List.mem_of_getElem? (i := 92) (by decide +kernel), rfl⟩
theorem qC_yX5_init : gW (.code yX5_init cX5_init 1 none) := ⟨List.mem_of_getElem? (i := 93) (by decide +kernel), rfl⟩
theorem qL_X5_3 : gW (.methodLink RX5 3 objectInit) := ⟨List.mem_of_getElem? (i := 94) (by decide +kernel), rfl⟩
theorem qF_X5_9 : gW (.fieldLink RX5 9 "FogBridge$Row" "carts" "[I") := ⟨List.mem_of_getElem? (i := 95) (by decide +kernel), rfl⟩
theorem qF_X5_15 : gW (.fieldLink RX5 15 "FogBridge$Row" "size" "I") := ⟨List.mem_of_getElem? (i := 96) (by decide +kernel), rfl⟩
theorem qFN_X3_34 : gW (.fieldLinkNest RX3 34 "FogBridge$Row" "size" "I" "FogBridge") := ⟨List.mem_of_getElem? (i := 97) (by decide +kernel), rfl⟩
theorem qFN_X6_114 : gW (.fieldLinkNest RX6 114 "FogBridge$Row" "size" "I" "FogBridge") := ⟨List.mem_of_getElem? (i := 98) (by decide +kernel), rfl⟩
theorem qFN_X0_80 : gW (.fieldLinkNest RX0 80 "FogBridge$Row" "size" "I" "FogBridge") := ⟨List.mem_of_getElem? (i := 99) (by decide +kernel), rfl⟩
theorem qF_X3_12 : gW (.fieldLink RX3 12 "FogBridge$Gate" "waiting" "LFogBridge$Row;") := ⟨List.mem_of_getElem? (i := 105) (by decide +kernel), rfl⟩
theorem qFN_X6_172 : gW (.fieldLinkNest RX6 172 "FogBridge$Gate" "waiting" "LFogBridge$Row;" "FogBridge") := ⟨List.mem_of_getElem? (i := 106) (by decide +kernel), rfl⟩
theorem qFN_X0_157 : gW (.fieldLinkNest RX0 157 "FogBridge$Gate" "waiting" "LFogBridge$Row;" "FogBridge") := ⟨List.mem_of_getElem? (i := 107) (by decide +kernel), rfl⟩
theorem qF_X3_18 : gW (.fieldLink RX3 18 "FogBridge$Gate" "coins" "I") := ⟨List.mem_of_getElem? (i := 108) (by decide +kernel), rfl⟩
theorem qFN_X0_77 : gW (.fieldLinkNest RX0 77 "FogBridge$Gate" "coins" "I" "FogBridge") := ⟨List.mem_of_getElem? (i := 109) (by decide +kernel), rfl⟩
theorem qFN_X6_209 : gW (.fieldLinkNest RX6 209 "FogBridge$Gate" "coins" "I" "FogBridge") := ⟨List.mem_of_getElem? (i := 110) (by decide +kernel), rfl⟩
theorem qF_X3_22 : gW (.fieldLink RX3 22 "FogBridge$Gate" "payers" "I") := ⟨List.mem_of_getElem? (i := 111) (by decide +kernel), rfl⟩
theorem qF_X3_25 : gW (.fieldLink RX3 25 "FogBridge$Gate" "axles" "I") := ⟨List.mem_of_getElem? (i := 112) (by decide +kernel), rfl⟩
theorem qF_X3_31 : gW (.fieldLink RX3 31 "FogBridge$Gate" "keptByCheats" "I") := ⟨List.mem_of_getElem? (i := 113) (by decide +kernel), rfl⟩
theorem qFN_X6_206 : gW (.fieldLinkNest RX6 206 "FogBridge$Gate" "keptByCheats" "I" "FogBridge") := ⟨List.mem_of_getElem? (i := 114) (by decide +kernel), rfl⟩
theorem qCL_X0_40 : gW (.classLink RX0 40 RX5) := ⟨List.mem_of_getElem? (i := 126) (by decide +kernel), rfl⟩
theorem qMN_X0_42 : gW (.methodLinkNest RX0 42 yX5_init "FogBridge") := ⟨List.mem_of_getElem? (i := 127) (by decide +kernel), rfl⟩
theorem qIn_X1 : gW (.instantiable RX1 11) := ⟨List.mem_of_getElem? (i := 128) (by decide +kernel), rfl⟩
theorem qL_X0_47 : gW (.methodLink RX0 47 yX1_init) := ⟨List.mem_of_getElem? (i := 129) (by decide +kernel), rfl⟩
theorem qI_yX1_init : gW (.instanceMethod yX1_init) := ⟨List.mem_of_getElem? (i := 130) (by decide +kernel), rfl⟩
theorem qC_yX1_init : gW (.code yX1_init cX1_init 2 none) := ⟨List.mem_of_getElem? (i := 131) (by decide +kernel), rfl⟩
theorem qL_X1_3 : gW (.methodLink RX1 3 objectInit) := ⟨List.mem_of_getElem? (i := 132) (by decide +kernel), rfl⟩
theorem qF_X1_18 : gW (.fieldLink RX1 18 "FogBridge$Cart" "number" "I") := ⟨List.mem_of_getElem? (i := 133) (by decide +kernel), rfl⟩
theorem qFN_X6_177 : gW (.fieldLinkNest RX6 177 "FogBridge$Cart" "number" "I" "FogBridge") := ⟨List.mem_of_getElem? (i := 134) (by decide +kernel), rfl⟩
theorem qFN_X0_160 : gW (.fieldLinkNest RX0 160 "FogBridge$Cart" "number" "I" "FogBridge") := ⟨List.mem_of_getElem? (i := 135) (by decide +kernel), rfl⟩
theorem qF_X1_21 : gW (.fieldLink RX1 21 "FogBridge$Cart" "end" "I") := ⟨List.mem_of_getElem? (i := 136) (by decide +kernel), rfl⟩
theorem qFN_X6_147 : gW (.fieldLinkNest RX6 147 "FogBridge$Cart" "end" "I" "FogBridge") := ⟨List.mem_of_getElem? (i := 137) (by decide +kernel), rfl⟩
theorem qFN_X0_100 : gW (.fieldLinkNest RX0 100 "FogBridge$Cart" "end" "I" "FogBridge") := ⟨List.mem_of_getElem? (i := 138) (by decide +kernel), rfl⟩
theorem qF_X1_24 : gW (.fieldLink RX1 24 "FogBridge$Cart" "axles" "I") := ⟨List.mem_of_getElem? (i := 139) (by decide +kernel), rfl⟩
theorem qFN_X3_28 : gW (.fieldLinkNest RX3 28 "FogBridge$Cart" "axles" "I" "FogBridge") := ⟨List.mem_of_getElem? (i := 140) (by decide +kernel), rfl⟩
theorem qFN_X6_152 : gW (.fieldLinkNest RX6 152 "FogBridge$Cart" "axles" "I" "FogBridge") := ⟨List.mem_of_getElem? (i := 141) (by decide +kernel), rfl⟩
theorem qFN_X0_93 : gW (.fieldLinkNest RX0 93 "FogBridge$Cart" "axles" "I" "FogBridge") := ⟨List.mem_of_getElem? (i := 142) (by decide +kernel), rfl⟩
theorem qF_X1_27 : gW (.fieldLink RX1 27 "FogBridge$Cart" "weight" "I") := ⟨List.mem_of_getElem? (i := 143) (by decide +kernel), rfl⟩
theorem qFN_X0_87 : gW (.fieldLinkNest RX0 87 "FogBridge$Cart" "weight" "I" "FogBridge") := ⟨List.mem_of_getElem? (i := 144) (by decide +kernel), rfl⟩
theorem qFN_X6_155 : gW (.fieldLinkNest RX6 155 "FogBridge$Cart" "weight" "I" "FogBridge") := ⟨List.mem_of_getElem? (i := 145) (by decide +kernel), rfl⟩
theorem qF_X1_30 : gW (.fieldLink RX1 30 "FogBridge$Cart" "pace" "I") := ⟨List.mem_of_getElem? (i := 146) (by decide +kernel), rfl⟩
theorem qFN_X6_158 : gW (.fieldLinkNest RX6 158 "FogBridge$Cart" "pace" "I" "FogBridge") := ⟨List.mem_of_getElem? (i := 147) (by decide +kernel), rfl⟩
theorem qFN_X0_96 : gW (.fieldLinkNest RX0 96 "FogBridge$Cart" "pace" "I" "FogBridge") := ⟨List.mem_of_getElem? (i := 148) (by decide +kernel), rfl⟩
theorem qF_X1_33 : gW (.fieldLink RX1 33 "FogBridge$Cart" "coins" "I") := ⟨List.mem_of_getElem? (i := 149) (by decide +kernel), rfl⟩
theorem qFN_X6_161 : gW (.fieldLinkNest RX6 161 "FogBridge$Cart" "coins" "I" "FogBridge") := ⟨List.mem_of_getElem? (i := 150) (by decide +kernel), rfl⟩
theorem qFN_X0_99 : gW (.fieldLinkNest RX0 99 "FogBridge$Cart" "coins" "I" "FogBridge") := ⟨List.mem_of_getElem? (i := 151) (by decide +kernel), rfl⟩
theorem qF_X1_36 : gW (.fieldLink RX1 36 "FogBridge$Cart" "isCheat" "Z") := ⟨List.mem_of_getElem? (i := 152) (by decide +kernel), rfl⟩
theorem qFN_X6_164 : gW (.fieldLinkNest RX6 164 "FogBridge$Cart" "isCheat" "Z" "FogBridge") := ⟨List.mem_of_getElem? (i := 153) (by decide +kernel), rfl⟩
theorem qFN_X0_190 : gW (.fieldLinkNest RX0 190 "FogBridge$Cart" "isCheat" "Z" "FogBridge") := ⟨List.mem_of_getElem? (i := 154) (by decide +kernel), rfl⟩
theorem qF_X1_40 : gW (.fieldLink RX1 40 "FogBridge$Cart" "hasPaid" "Z") := ⟨List.mem_of_getElem? (i := 155) (by decide +kernel), rfl⟩
theorem qFN_X0_173 : gW (.fieldLinkNest RX0 173 "FogBridge$Cart" "hasPaid" "Z" "FogBridge") := ⟨List.mem_of_getElem? (i := 156) (by decide +kernel), rfl⟩
theorem qF_X1_9 : gW (.fieldLink RX1 9 "FogBridge$Cart" "state" "I") := ⟨List.mem_of_getElem? (i := 157) (by decide +kernel), rfl⟩
theorem qFN_X0_74 : gW (.fieldLinkNest RX0 74 "FogBridge$Cart" "state" "I" "FogBridge") := ⟨List.mem_of_getElem? (i := 158) (by decide +kernel), rfl⟩
theorem qF_X1_43 : gW (.fieldLink RX1 43 "FogBridge$Cart" "way" "I") := ⟨List.mem_of_getElem? (i := 159) (by decide +kernel), rfl⟩
theorem qFN_X0_133 : gW (.fieldLinkNest RX0 133 "FogBridge$Cart" "way" "I" "FogBridge") := ⟨List.mem_of_getElem? (i := 160) (by decide +kernel), rfl⟩
theorem qF_X1_15 : gW (.fieldLink RX1 15 "FogBridge$Cart" "overTick" "I") := ⟨List.mem_of_getElem? (i := 161) (by decide +kernel), rfl⟩
theorem qFN_X0_90 : gW (.fieldLinkNest RX0 90 "FogBridge$Cart" "overTick" "I" "FogBridge") := ⟨List.mem_of_getElem? (i := 162) (by decide +kernel), rfl⟩
theorem qFN_X6_90 : gW (.fieldLinkNest RX6 90 "FogBridge$Bridge" "tick" "I" "FogBridge") := ⟨List.mem_of_getElem? (i := 186) (by decide +kernel), rfl⟩
theorem qF_X0_71 : gW (.fieldLink RX0 71 "FogBridge$Bridge" "tick" "I") := ⟨List.mem_of_getElem? (i := 187) (by decide +kernel), rfl⟩
theorem qF_X0_61 : gW (.fieldLink RX0 61 "FogBridge$Bridge" "direction" "I") := ⟨List.mem_of_getElem? (i := 188) (by decide +kernel), rfl⟩
theorem qFN_X6_136 : gW (.fieldLinkNest RX6 136 "FogBridge$Bridge" "direction" "I" "FogBridge") := ⟨List.mem_of_getElem? (i := 189) (by decide +kernel), rfl⟩
theorem qF_X0_9 : gW (.fieldLink RX0 9 "FogBridge$Bridge" "places" "I") := ⟨List.mem_of_getElem? (i := 190) (by decide +kernel), rfl⟩
theorem qFN_X6_122 : gW (.fieldLinkNest RX6 122 "FogBridge$Bridge" "places" "I" "FogBridge") := ⟨List.mem_of_getElem? (i := 191) (by decide +kernel), rfl⟩
theorem qF_X0_15 : gW (.fieldLink RX0 15 "FogBridge$Bridge" "bears" "I") := ⟨List.mem_of_getElem? (i := 192) (by decide +kernel), rfl⟩
theorem qFN_X6_119 : gW (.fieldLinkNest RX6 119 "FogBridge$Bridge" "bears" "I" "FogBridge") := ⟨List.mem_of_getElem? (i := 193) (by decide +kernel), rfl⟩
theorem qF_X0_18 : gW (.fieldLink RX0 18 "FogBridge$Bridge" "axleToll" "I") := ⟨List.mem_of_getElem? (i := 194) (by decide +kernel), rfl⟩
theorem qFN_X6_127 : gW (.fieldLinkNest RX6 127 "FogBridge$Bridge" "axleToll" "I" "FogBridge") := ⟨List.mem_of_getElem? (i := 195) (by decide +kernel), rfl⟩
theorem qF_X0_21 : gW (.fieldLink RX0 21 "FogBridge$Bridge" "tenToll" "I") := ⟨List.mem_of_getElem? (i := 196) (by decide +kernel), rfl⟩
theorem qFN_X6_130 : gW (.fieldLinkNest RX6 130 "FogBridge$Bridge" "tenToll" "I" "FogBridge") := ⟨List.mem_of_getElem? (i := 197) (by decide +kernel), rfl⟩
theorem qF_X0_50 : gW (.fieldLink RX0 50 "FogBridge$Bridge" "cartCount" "I") := ⟨List.mem_of_getElem? (i := 198) (by decide +kernel), rfl⟩
theorem qFN_X6_258 : gW (.fieldLinkNest RX6 258 "FogBridge$Bridge" "cartCount" "I" "FogBridge") := ⟨List.mem_of_getElem? (i := 199) (by decide +kernel), rfl⟩
theorem qF_X0_26 : gW (.fieldLink RX0 26 "FogBridge$Bridge" "carts" "[LFogBridge$Cart;") := ⟨List.mem_of_getElem? (i := 200) (by decide +kernel), rfl⟩
theorem qF_X0_33 : gW (.fieldLink RX0 33 "FogBridge$Bridge" "firstGate" "LFogBridge$Gate;") := ⟨List.mem_of_getElem? (i := 201) (by decide +kernel), rfl⟩
theorem qF_X0_37 : gW (.fieldLink RX0 37 "FogBridge$Bridge" "secondGate" "LFogBridge$Gate;") := ⟨List.mem_of_getElem? (i := 202) (by decide +kernel), rfl⟩
theorem qF_X0_43 : gW (.fieldLink RX0 43 "FogBridge$Bridge" "crossing" "LFogBridge$Row;") := ⟨List.mem_of_getElem? (i := 203) (by decide +kernel), rfl⟩
theorem qFN_X6_110 : gW (.fieldLinkNest RX6 110 "FogBridge$Bridge" "crossing" "LFogBridge$Row;" "FogBridge") := ⟨List.mem_of_getElem? (i := 204) (by decide +kernel), rfl⟩
theorem qF_X6_10 : gW (.fieldLink RX6 10 "FogBridge" "code" "LFogBridge$Code;") := ⟨List.mem_of_getElem? (i := 228) (by decide +kernel), rfl⟩
theorem qF_X6_16 : gW (.fieldLink RX6 16 "FogBridge" "fog" "[I") := ⟨List.mem_of_getElem? (i := 229) (by decide +kernel), rfl⟩
theorem qF_X6_23 : gW (.fieldLink RX6 23 "FogBridge" "bridge" "LFogBridge$Bridge;") := ⟨List.mem_of_getElem? (i := 230) (by decide +kernel), rfl⟩
theorem qF_X6_27 : gW (.fieldLink RX6 27 "FogBridge" "ahead" "LFogBridge$Bridge;") := ⟨List.mem_of_getElem? (i := 231) (by decide +kernel), rfl⟩
theorem qF_X6_30 : gW (.fieldLink RX6 30 "FogBridge" "branch" "LFogBridge$Bridge;") := ⟨List.mem_of_getElem? (i := 232) (by decide +kernel), rfl⟩
theorem qL_L_105 : gW (.methodLink RL 105 yX6_change) := ⟨List.mem_of_getElem? (i := 244) (by decide +kernel), rfl⟩
theorem qI_yX6_change : gW (.instanceMethod yX6_change) := ⟨List.mem_of_getElem? (i := 245) (by decide +kernel), rfl⟩
theorem qS_yX6_change : gW (.selects RX6 yX6_change yX6_change) := ⟨List.mem_of_getElem? (i := 246) (by decide +kernel), rfl⟩
theorem qC_yX6_change : gW (.code yX6_change cX6_change 1 (some .int)) := ⟨List.mem_of_getElem? (i := 247) (by decide +kernel), rfl⟩
theorem qL_X6_133 : gW (.methodLink RX6 133 yX0_turn) := ⟨List.mem_of_getElem? (i := 248) (by decide +kernel), rfl⟩
theorem qI_yX0_turn : gW (.instanceMethod yX0_turn) := ⟨List.mem_of_getElem? (i := 249) (by decide +kernel), rfl⟩
theorem qS_yX0_turn : gW (.selects RX0 yX0_turn yX0_turn) := ⟨List.mem_of_getElem? (i := 250) (by decide +kernel), rfl⟩
theorem qC_yX0_turn : gW (.code yX0_turn cX0_turn 1 none) := ⟨List.mem_of_getElem? (i := 251) (by decide +kernel), rfl⟩
theorem qL_L_134 : gW (.methodLink RL 134 yX6_keep) := ⟨List.mem_of_getElem? (i := 252) (by decide +kernel), rfl⟩
theorem qI_yX6_keep : gW (.instanceMethod yX6_keep) := ⟨List.mem_of_getElem? (i := 253) (by decide +kernel), rfl⟩
theorem qS_yX6_keep : gW (.selects RX6 yX6_keep yX6_keep) := ⟨List.mem_of_getElem? (i := 254) (by decide +kernel), rfl⟩
theorem qC_yX6_keep : gW (.code yX6_keep cX6_keep 6 (some .int)) := ⟨List.mem_of_getElem? (i := 255) (by decide +kernel), rfl⟩
theorem qL_X6_222 : gW (.methodLink RX6 222 yX0_copyFrom) := ⟨List.mem_of_getElem? (i := 256) (by decide +kernel), rfl⟩
theorem qI_yX0_copyFrom : gW (.instanceMethod yX0_copyFrom) := ⟨List.mem_of_getElem? (i := 257) (by decide +kernel), rfl⟩
theorem qS_yX0_copyFrom : gW (.selects RX0 yX0_copyFrom yX0_copyFrom) := ⟨List.mem_of_getElem? (i := 258) (by decide +kernel), rfl⟩
theorem qC_yX0_copyFrom : gW (.code yX0_copyFrom cX0_copyFrom 5 none) := ⟨List.mem_of_getElem? (i := 259) (by decide +kernel), rfl⟩
theorem qL_X0_57 : gW (.methodLink RX0 57 yX0_cartAt) := ⟨List.mem_of_getElem? (i := 260) (by decide +kernel), rfl⟩
theorem qI_yX0_cartAt : gW (.instanceMethod yX0_cartAt) := ⟨List.mem_of_getElem? (i := 261) (by decide +kernel), rfl⟩
theorem qS_yX0_cartAt : gW (.selects RX0 yX0_cartAt yX0_cartAt) := ⟨List.mem_of_getElem? (i := 262) (by decide +kernel), rfl⟩
theorem qC_yX0_cartAt : gW (.code yX0_cartAt cX0_cartAt 2 (some (.object "FogBridge$Cart"))) := ⟨List.mem_of_getElem? (i := 263) (by decide +kernel), rfl⟩
theorem qMN_X0_53 : gW (.methodLinkNest RX0 53 yX6_isIndex "FogBridge") := ⟨List.mem_of_getElem? (i := 264) (by decide +kernel), rfl⟩
theorem qT_yX6_isIndex : gW (.static yX6_isIndex) := ⟨List.mem_of_getElem? (i := 265) (by decide +kernel), rfl⟩
theorem qC_yX6_isIndex : gW (.code yX6_isIndex cX6_isIndex 2 (some .boolean)) := ⟨List.mem_of_getElem? (i := 266) (by decide +kernel), rfl⟩
theorem qL_X0_123 : gW (.methodLink RX0 123 yX1_copyFrom) := ⟨List.mem_of_getElem? (i := 267) (by decide +kernel), rfl⟩
theorem qI_yX1_copyFrom : gW (.instanceMethod yX1_copyFrom) := ⟨List.mem_of_getElem? (i := 268) (by decide +kernel), rfl⟩
theorem qS_yX1_copyFrom : gW (.selects RX1 yX1_copyFrom yX1_copyFrom) := ⟨List.mem_of_getElem? (i := 269) (by decide +kernel), rfl⟩
theorem qC_yX1_copyFrom : gW (.code yX1_copyFrom cX1_copyFrom 2 none) := ⟨List.mem_of_getElem? (i := 270) (by decide +kernel), rfl⟩
theorem qL_X0_127 : gW (.methodLink RX0 127 yX3_copyFrom) := ⟨List.mem_of_getElem? (i := 271) (by decide +kernel), rfl⟩
theorem qI_yX3_copyFrom : gW (.instanceMethod yX3_copyFrom) := ⟨List.mem_of_getElem? (i := 272) (by decide +kernel), rfl⟩
theorem qS_yX3_copyFrom : gW (.selects RX3 yX3_copyFrom yX3_copyFrom) := ⟨List.mem_of_getElem? (i := 273) (by decide +kernel), rfl⟩
theorem qC_yX3_copyFrom : gW (.code yX3_copyFrom cX3_copyFrom 2 none) := ⟨List.mem_of_getElem? (i := 274) (by decide +kernel), rfl⟩
theorem qL_X3_48 : gW (.methodLink RX3 48 yX5_copyFrom) := ⟨List.mem_of_getElem? (i := 275) (by decide +kernel), rfl⟩
theorem qI_yX5_copyFrom : gW (.instanceMethod yX5_copyFrom) := ⟨List.mem_of_getElem? (i := 276) (by decide +kernel), rfl⟩
theorem qS_yX5_copyFrom : gW (.selects RX5 yX5_copyFrom yX5_copyFrom) := ⟨List.mem_of_getElem? (i := 277) (by decide +kernel), rfl⟩
theorem qC_yX5_copyFrom : gW (.code yX5_copyFrom cX5_copyFrom 3 none) := ⟨List.mem_of_getElem? (i := 278) (by decide +kernel), rfl⟩
theorem qL_X5_23 : gW (.methodLink RX5 23 yX5_at) := ⟨List.mem_of_getElem? (i := 279) (by decide +kernel), rfl⟩
theorem qI_yX5_at : gW (.instanceMethod yX5_at) := ⟨List.mem_of_getElem? (i := 280) (by decide +kernel), rfl⟩
theorem qS_yX5_at : gW (.selects RX5 yX5_at yX5_at) := ⟨List.mem_of_getElem? (i := 281) (by decide +kernel), rfl⟩
theorem qC_yX5_at : gW (.code yX5_at cX5_at 2 (some .int)) := ⟨List.mem_of_getElem? (i := 282) (by decide +kernel), rfl⟩
theorem qMN_X5_19 : gW (.methodLinkNest RX5 19 yX6_isIndex "FogBridge") := ⟨List.mem_of_getElem? (i := 283) (by decide +kernel), rfl⟩
theorem qL_X0_130 : gW (.methodLink RX0 130 yX5_copyFrom) := ⟨List.mem_of_getElem? (i := 284) (by decide +kernel), rfl⟩
theorem qL_X6_212 : gW (.methodLink RX6 212 yX0_run) := ⟨List.mem_of_getElem? (i := 285) (by decide +kernel), rfl⟩
theorem qI_yX0_run : gW (.instanceMethod yX0_run) := ⟨List.mem_of_getElem? (i := 286) (by decide +kernel), rfl⟩
theorem qS_yX0_run : gW (.selects RX0 yX0_run yX0_run) := ⟨List.mem_of_getElem? (i := 287) (by decide +kernel), rfl⟩
theorem qC_yX0_run : gW (.code yX0_run cX0_run 4 (some .int)) := ⟨List.mem_of_getElem? (i := 288) (by decide +kernel), rfl⟩
theorem qL_X0_64 : gW (.methodLink RX0 64 yX0_move) := ⟨List.mem_of_getElem? (i := 289) (by decide +kernel), rfl⟩
theorem qI_yX0_move : gW (.instanceMethod yX0_move) := ⟨List.mem_of_getElem? (i := 291) (by decide +kernel), rfl⟩
theorem qC_yX0_move : gW (.code yX0_move cX0_move 2 (some .int)) := ⟨List.mem_of_getElem? (i := 292) (by decide +kernel), rfl⟩
theorem qL_X0_83 : gW (.methodLink RX0 83 yX5_at) := ⟨List.mem_of_getElem? (i := 293) (by decide +kernel), rfl⟩
theorem qL_X0_136 : gW (.methodLink RX0 136 yX0_goOn) := ⟨List.mem_of_getElem? (i := 294) (by decide +kernel), rfl⟩
theorem qI_yX0_goOn : gW (.instanceMethod yX0_goOn) := ⟨List.mem_of_getElem? (i := 296) (by decide +kernel), rfl⟩
theorem qC_yX0_goOn : gW (.code yX0_goOn cX0_goOn 6 (some .int)) := ⟨List.mem_of_getElem? (i := 297) (by decide +kernel), rfl⟩
theorem qL_X0_142 : gW (.methodLink RX0 142 yJ9_min_7cf53) := ⟨List.mem_of_getElem? (i := 298) (by decide +kernel), rfl⟩
theorem qT_yJ9_min_7cf53 : gW (.static yJ9_min_7cf53) := ⟨List.mem_of_getElem? (i := 299) (by decide +kernel), rfl⟩
theorem qC_yJ9_min_7cf53 : gW (.code yJ9_min_7cf53 cJ9_min_7cf53 2 (some .int)) := ⟨List.mem_of_getElem? (i := 300) (by decide +kernel), rfl⟩
theorem qL_X0_147 : gW (.methodLink RX0 147 yX5_removeFirst) := ⟨List.mem_of_getElem? (i := 301) (by decide +kernel), rfl⟩
theorem qI_yX5_removeFirst : gW (.instanceMethod yX5_removeFirst) := ⟨List.mem_of_getElem? (i := 302) (by decide +kernel), rfl⟩
theorem qS_yX5_removeFirst : gW (.selects RX5 yX5_removeFirst yX5_removeFirst) := ⟨List.mem_of_getElem? (i := 303) (by decide +kernel), rfl⟩
theorem qC_yX5_removeFirst : gW (.code yX5_removeFirst cX5_removeFirst 2 none) := ⟨List.mem_of_getElem? (i := 304) (by decide +kernel), rfl⟩
theorem qL_X0_139 : gW (.methodLink RX0 139 yX0_goBack) := ⟨List.mem_of_getElem? (i := 305) (by decide +kernel), rfl⟩
theorem qI_yX0_goBack : gW (.instanceMethod yX0_goBack) := ⟨List.mem_of_getElem? (i := 307) (by decide +kernel), rfl⟩
theorem qC_yX0_goBack : gW (.code yX0_goBack cX0_goBack 5 none) := ⟨List.mem_of_getElem? (i := 308) (by decide +kernel), rfl⟩
theorem qL_X0_150 : gW (.methodLink RX0 150 yJ9_max_7cf53) := ⟨List.mem_of_getElem? (i := 309) (by decide +kernel), rfl⟩
theorem qT_yJ9_max_7cf53 : gW (.static yJ9_max_7cf53) := ⟨List.mem_of_getElem? (i := 310) (by decide +kernel), rfl⟩
theorem qC_yJ9_max_7cf53 : gW (.code yJ9_max_7cf53 cJ9_max_7cf53 2 (some .int)) := ⟨List.mem_of_getElem? (i := 311) (by decide +kernel), rfl⟩
theorem qL_X0_153 : gW (.methodLink RX0 153 yX0_gateAt) := ⟨List.mem_of_getElem? (i := 312) (by decide +kernel), rfl⟩
theorem qI_yX0_gateAt : gW (.instanceMethod yX0_gateAt) := ⟨List.mem_of_getElem? (i := 313) (by decide +kernel), rfl⟩
theorem qS_yX0_gateAt : gW (.selects RX0 yX0_gateAt yX0_gateAt) := ⟨List.mem_of_getElem? (i := 314) (by decide +kernel), rfl⟩
theorem qC_yX0_gateAt : gW (.code yX0_gateAt cX0_gateAt 2 (some (.object "FogBridge$Gate"))) := ⟨List.mem_of_getElem? (i := 315) (by decide +kernel), rfl⟩
theorem qL_X0_163 : gW (.methodLink RX0 163 yX5_addFirst) := ⟨List.mem_of_getElem? (i := 316) (by decide +kernel), rfl⟩
theorem qI_yX5_addFirst : gW (.instanceMethod yX5_addFirst) := ⟨List.mem_of_getElem? (i := 317) (by decide +kernel), rfl⟩
theorem qS_yX5_addFirst : gW (.selects RX5 yX5_addFirst yX5_addFirst) := ⟨List.mem_of_getElem? (i := 318) (by decide +kernel), rfl⟩
theorem qC_yX5_addFirst : gW (.code yX5_addFirst cX5_addFirst 3 none) := ⟨List.mem_of_getElem? (i := 319) (by decide +kernel), rfl⟩
theorem qL_X0_166 : gW (.methodLink RX0 166 yX5_removeLast) := ⟨List.mem_of_getElem? (i := 320) (by decide +kernel), rfl⟩
theorem qI_yX5_removeLast : gW (.instanceMethod yX5_removeLast) := ⟨List.mem_of_getElem? (i := 321) (by decide +kernel), rfl⟩
theorem qS_yX5_removeLast : gW (.selects RX5 yX5_removeLast yX5_removeLast) := ⟨List.mem_of_getElem? (i := 322) (by decide +kernel), rfl⟩
theorem qC_yX5_removeLast : gW (.code yX5_removeLast cX5_removeLast 1 none) := ⟨List.mem_of_getElem? (i := 323) (by decide +kernel), rfl⟩
theorem qL_X0_68 : gW (.methodLink RX0 68 yX0_comeOn) := ⟨List.mem_of_getElem? (i := 324) (by decide +kernel), rfl⟩
theorem qI_yX0_comeOn : gW (.instanceMethod yX0_comeOn) := ⟨List.mem_of_getElem? (i := 326) (by decide +kernel), rfl⟩
theorem qC_yX0_comeOn : gW (.code yX0_comeOn cX0_comeOn 3 none) := ⟨List.mem_of_getElem? (i := 327) (by decide +kernel), rfl⟩
theorem qL_X0_169 : gW (.methodLink RX0 169 yX0_hasRoomFor) := ⟨List.mem_of_getElem? (i := 328) (by decide +kernel), rfl⟩
theorem qI_yX0_hasRoomFor : gW (.instanceMethod yX0_hasRoomFor) := ⟨List.mem_of_getElem? (i := 330) (by decide +kernel), rfl⟩
theorem qC_yX0_hasRoomFor : gW (.code yX0_hasRoomFor cX0_hasRoomFor 4 (some .boolean)) := ⟨List.mem_of_getElem? (i := 331) (by decide +kernel), rfl⟩
theorem qL_X0_184 : gW (.methodLink RX0 184 yX5_last) := ⟨List.mem_of_getElem? (i := 332) (by decide +kernel), rfl⟩
theorem qI_yX5_last : gW (.instanceMethod yX5_last) := ⟨List.mem_of_getElem? (i := 333) (by decide +kernel), rfl⟩
theorem qS_yX5_last : gW (.selects RX5 yX5_last yX5_last) := ⟨List.mem_of_getElem? (i := 334) (by decide +kernel), rfl⟩
theorem qC_yX5_last : gW (.code yX5_last cX5_last 1 (some .int)) := ⟨List.mem_of_getElem? (i := 335) (by decide +kernel), rfl⟩
theorem qL_X0_187 : gW (.methodLink RX0 187 yX0_weightOnBridge) := ⟨List.mem_of_getElem? (i := 336) (by decide +kernel), rfl⟩
theorem qI_yX0_weightOnBridge : gW (.instanceMethod yX0_weightOnBridge) := ⟨List.mem_of_getElem? (i := 337) (by decide +kernel), rfl⟩
theorem qS_yX0_weightOnBridge : gW (.selects RX0 yX0_weightOnBridge yX0_weightOnBridge) := ⟨List.mem_of_getElem? (i := 338) (by decide +kernel), rfl⟩
theorem qC_yX0_weightOnBridge : gW (.code yX0_weightOnBridge cX0_weightOnBridge 4 (some .int)) := ⟨List.mem_of_getElem? (i := 339) (by decide +kernel), rfl⟩
theorem qL_X0_177 : gW (.methodLink RX0 177 yX0_pays) := ⟨List.mem_of_getElem? (i := 340) (by decide +kernel), rfl⟩
theorem qI_yX0_pays : gW (.instanceMethod yX0_pays) := ⟨List.mem_of_getElem? (i := 342) (by decide +kernel), rfl⟩
theorem qC_yX0_pays : gW (.code yX0_pays cX0_pays 5 (some .boolean)) := ⟨List.mem_of_getElem? (i := 343) (by decide +kernel), rfl⟩
theorem qL_X0_107 : gW (.methodLink RX0 107 yX0_tollFor) := ⟨List.mem_of_getElem? (i := 344) (by decide +kernel), rfl⟩
theorem qI_yX0_tollFor : gW (.instanceMethod yX0_tollFor) := ⟨List.mem_of_getElem? (i := 346) (by decide +kernel), rfl⟩
theorem qC_yX0_tollFor : gW (.code yX0_tollFor cX0_tollFor 3 (some .int)) := ⟨List.mem_of_getElem? (i := 347) (by decide +kernel), rfl⟩
theorem qL_X0_193 : gW (.methodLink RX0 193 yX3_take) := ⟨List.mem_of_getElem? (i := 348) (by decide +kernel), rfl⟩
theorem qI_yX3_take : gW (.instanceMethod yX3_take) := ⟨List.mem_of_getElem? (i := 349) (by decide +kernel), rfl⟩
theorem qS_yX3_take : gW (.selects RX3 yX3_take yX3_take) := ⟨List.mem_of_getElem? (i := 350) (by decide +kernel), rfl⟩
theorem qC_yX3_take : gW (.code yX3_take cX3_take 4 none) := ⟨List.mem_of_getElem? (i := 351) (by decide +kernel), rfl⟩
theorem qL_X0_181 : gW (.methodLink RX0 181 yX5_addLast) := ⟨List.mem_of_getElem? (i := 352) (by decide +kernel), rfl⟩
theorem qI_yX5_addLast : gW (.instanceMethod yX5_addLast) := ⟨List.mem_of_getElem? (i := 353) (by decide +kernel), rfl⟩
theorem qS_yX5_addLast : gW (.selects RX5 yX5_addLast yX5_addLast) := ⟨List.mem_of_getElem? (i := 354) (by decide +kernel), rfl⟩
theorem qC_yX5_addLast : gW (.code yX5_addLast cX5_addLast 2 none) := ⟨List.mem_of_getElem? (i := 355) (by decide +kernel), rfl⟩
theorem qL_L_141 : gW (.methodLink RL 141 yX6_mean) := ⟨List.mem_of_getElem? (i := 356) (by decide +kernel), rfl⟩
theorem qI_yX6_mean : gW (.instanceMethod yX6_mean) := ⟨List.mem_of_getElem? (i := 357) (by decide +kernel), rfl⟩
theorem qS_yX6_mean : gW (.selects RX6 yX6_mean yX6_mean) := ⟨List.mem_of_getElem? (i := 358) (by decide +kernel), rfl⟩
theorem qC_yX6_mean : gW (.code yX6_mean cX6_mean 1 (some .double)) := ⟨List.mem_of_getElem? (i := 359) (by decide +kernel), rfl⟩
theorem qL_X6_235 : gW (.methodLink RX6 235 yX0_meanOverTick) := ⟨List.mem_of_getElem? (i := 360) (by decide +kernel), rfl⟩
theorem qI_yX0_meanOverTick : gW (.instanceMethod yX0_meanOverTick) := ⟨List.mem_of_getElem? (i := 361) (by decide +kernel), rfl⟩
theorem qS_yX0_meanOverTick : gW (.selects RX0 yX0_meanOverTick yX0_meanOverTick) := ⟨List.mem_of_getElem? (i := 362) (by decide +kernel), rfl⟩
theorem qC_yX0_meanOverTick : gW (.code yX0_meanOverTick cX0_meanOverTick 6 (some .double)) := ⟨List.mem_of_getElem? (i := 363) (by decide +kernel), rfl⟩
theorem qL_L_146 : gW (.methodLink RL 146 yX6_digest) := ⟨List.mem_of_getElem? (i := 364) (by decide +kernel), rfl⟩
theorem qI_yX6_digest : gW (.instanceMethod yX6_digest) := ⟨List.mem_of_getElem? (i := 365) (by decide +kernel), rfl⟩
theorem qS_yX6_digest : gW (.selects RX6 yX6_digest yX6_digest) := ⟨List.mem_of_getElem? (i := 366) (by decide +kernel), rfl⟩
theorem qC_yX6_digest : gW (.code yX6_digest cX6_digest 4 (some .long)) := ⟨List.mem_of_getElem? (i := 367) (by decide +kernel), rfl⟩
theorem qK_X6_239 : gW (.constantLong RX6 239 (683)) := ⟨List.mem_of_getElem? (i := 368) (by decide +kernel), rfl⟩
theorem qL_X6_217 : gW (.methodLink RX6 217 yX6_countOf) := ⟨List.mem_of_getElem? (i := 369) (by decide +kernel), rfl⟩
theorem qI_yX6_countOf : gW (.instanceMethod yX6_countOf) := ⟨List.mem_of_getElem? (i := 371) (by decide +kernel), rfl⟩
theorem qC_yX6_countOf : gW (.code yX6_countOf cX6_countOf 2 (some .int)) := ⟨List.mem_of_getElem? (i := 372) (by decide +kernel), rfl⟩
theorem qL_X6_261 : gW (.methodLink RX6 261 yX0_cartsIn) := ⟨List.mem_of_getElem? (i := 373) (by decide +kernel), rfl⟩
theorem qI_yX0_cartsIn : gW (.instanceMethod yX0_cartsIn) := ⟨List.mem_of_getElem? (i := 374) (by decide +kernel), rfl⟩
theorem qS_yX0_cartsIn : gW (.selects RX0 yX0_cartsIn yX0_cartsIn) := ⟨List.mem_of_getElem? (i := 375) (by decide +kernel), rfl⟩
theorem qC_yX0_cartsIn : gW (.code yX0_cartsIn cX0_cartsIn 5 (some .int)) := ⟨List.mem_of_getElem? (i := 376) (by decide +kernel), rfl⟩
theorem qL_X6_264 : gW (.methodLink RX6 264 yX0_weightOnBridge) := ⟨List.mem_of_getElem? (i := 377) (by decide +kernel), rfl⟩
theorem qL_X6_241 : gW (.methodLink RX6 241 yX6_mixed) := ⟨List.mem_of_getElem? (i := 378) (by decide +kernel), rfl⟩
theorem qT_yX6_mixed : gW (.static yX6_mixed) := ⟨List.mem_of_getElem? (i := 379) (by decide +kernel), rfl⟩
theorem qC_yX6_mixed : gW (.code yX6_mixed cX6_mixed 3 (some .long)) := ⟨List.mem_of_getElem? (i := 380) (by decide +kernel), rfl⟩
theorem qK_X6_250 : gW (.constantLong RX6 250 (31)) := ⟨List.mem_of_getElem? (i := 381) (by decide +kernel), rfl⟩
theorem qL_X6_245 : gW (.methodLink RX6 245 yX2_mixedInto) := ⟨List.mem_of_getElem? (i := 382) (by decide +kernel), rfl⟩
theorem qI_yX2_mixedInto : gW (.instanceMethod yX2_mixedInto) := ⟨List.mem_of_getElem? (i := 383) (by decide +kernel), rfl⟩
theorem qS_yX2_mixedInto : gW (.selects RX2 yX2_mixedInto yX2_mixedInto) := ⟨List.mem_of_getElem? (i := 384) (by decide +kernel), rfl⟩
theorem qC_yX2_mixedInto : gW (.code yX2_mixedInto cX2_mixedInto 6 (some .long)) := ⟨List.mem_of_getElem? (i := 385) (by decide +kernel), rfl⟩
theorem qL_X2_22 : gW (.methodLink RX2 22 yX2_ringsOf) := ⟨List.mem_of_getElem? (i := 386) (by decide +kernel), rfl⟩
theorem qI_yX2_ringsOf : gW (.instanceMethod yX2_ringsOf) := ⟨List.mem_of_getElem? (i := 387) (by decide +kernel), rfl⟩
theorem qS_yX2_ringsOf : gW (.selects RX2 yX2_ringsOf yX2_ringsOf) := ⟨List.mem_of_getElem? (i := 388) (by decide +kernel), rfl⟩
theorem qC_yX2_ringsOf : gW (.code yX2_ringsOf cX2_ringsOf 2 (some .int)) := ⟨List.mem_of_getElem? (i := 389) (by decide +kernel), rfl⟩
theorem qMN_X2_32 : gW (.methodLinkNest RX2 32 yX6_isIndex "FogBridge") := ⟨List.mem_of_getElem? (i := 390) (by decide +kernel), rfl⟩
theorem qMN_X2_54 : gW (.methodLinkNest RX2 54 yX6_mixed "FogBridge") := ⟨List.mem_of_getElem? (i := 391) (by decide +kernel), rfl⟩
theorem qL_X6_249 : gW (.methodLink RX6 249 yX0_mixedInto) := ⟨List.mem_of_getElem? (i := 392) (by decide +kernel), rfl⟩
theorem qI_yX0_mixedInto : gW (.instanceMethod yX0_mixedInto) := ⟨List.mem_of_getElem? (i := 393) (by decide +kernel), rfl⟩
theorem qS_yX0_mixedInto : gW (.selects RX0 yX0_mixedInto yX0_mixedInto) := ⟨List.mem_of_getElem? (i := 394) (by decide +kernel), rfl⟩
theorem qC_yX0_mixedInto : gW (.code yX0_mixedInto cX0_mixedInto 8 (some .long)) := ⟨List.mem_of_getElem? (i := 395) (by decide +kernel), rfl⟩
theorem qL_X0_111 : gW (.methodLink RX0 111 yX3_mixedInto) := ⟨List.mem_of_getElem? (i := 396) (by decide +kernel), rfl⟩
theorem qI_yX3_mixedInto : gW (.instanceMethod yX3_mixedInto) := ⟨List.mem_of_getElem? (i := 397) (by decide +kernel), rfl⟩
theorem qS_yX3_mixedInto : gW (.selects RX3 yX3_mixedInto yX3_mixedInto) := ⟨List.mem_of_getElem? (i := 398) (by decide +kernel), rfl⟩
theorem qC_yX3_mixedInto : gW (.code yX3_mixedInto cX3_mixedInto 6 (some .long)) := ⟨List.mem_of_getElem? (i := 399) (by decide +kernel), rfl⟩
theorem qL_X3_37 : gW (.methodLink RX3 37 yX3_tell) := ⟨List.mem_of_getElem? (i := 400) (by decide +kernel), rfl⟩
theorem qI_yX3_tell : gW (.instanceMethod yX3_tell) := ⟨List.mem_of_getElem? (i := 401) (by decide +kernel), rfl⟩
theorem qS_yX3_tell : gW (.selects RX3 yX3_tell yX3_tell) := ⟨List.mem_of_getElem? (i := 402) (by decide +kernel), rfl⟩
theorem qC_yX3_tell : gW (.code yX3_tell cX3_tell 2 (some .int)) := ⟨List.mem_of_getElem? (i := 403) (by decide +kernel), rfl⟩
theorem qMN_X3_41 : gW (.methodLinkNest RX3 41 yX6_mixed "FogBridge") := ⟨List.mem_of_getElem? (i := 404) (by decide +kernel), rfl⟩
theorem qL_X3_45 : gW (.methodLink RX3 45 yX5_at) := ⟨List.mem_of_getElem? (i := 405) (by decide +kernel), rfl⟩
theorem qL_X0_115 : gW (.methodLink RX0 115 yX0_tellCart) := ⟨List.mem_of_getElem? (i := 406) (by decide +kernel), rfl⟩
theorem qI_yX0_tellCart : gW (.instanceMethod yX0_tellCart) := ⟨List.mem_of_getElem? (i := 407) (by decide +kernel), rfl⟩
theorem qS_yX0_tellCart : gW (.selects RX0 yX0_tellCart yX0_tellCart) := ⟨List.mem_of_getElem? (i := 408) (by decide +kernel), rfl⟩
theorem qC_yX0_tellCart : gW (.code yX0_tellCart cX0_tellCart 3 (some .int)) := ⟨List.mem_of_getElem? (i := 409) (by decide +kernel), rfl⟩
theorem qL_X0_103 : gW (.methodLink RX0 103 yX0_placeOf) := ⟨List.mem_of_getElem? (i := 410) (by decide +kernel), rfl⟩
theorem qI_yX0_placeOf : gW (.instanceMethod yX0_placeOf) := ⟨List.mem_of_getElem? (i := 412) (by decide +kernel), rfl⟩
theorem qC_yX0_placeOf : gW (.code yX0_placeOf cX0_placeOf 2 (some .int)) := ⟨List.mem_of_getElem? (i := 413) (by decide +kernel), rfl⟩
theorem qMN_X0_119 : gW (.methodLinkNest RX0 119 yX6_mixed "FogBridge") := ⟨List.mem_of_getElem? (i := 414) (by decide +kernel), rfl⟩
theorem qL_L_73 : gW (.methodLink RL 73 yL_addSignal) := ⟨List.mem_of_getElem? (i := 415) (by decide +kernel), rfl⟩
theorem qT_yL_addSignal : gW (.static yL_addSignal) := ⟨List.mem_of_getElem? (i := 416) (by decide +kernel), rfl⟩
theorem qC_yL_addSignal : gW (.codeWith yL_addSignal cL_addSignal 4 (some .int) [(0, 9, 12, 13), (0, 9, 15, 15)]) := ⟨List.mem_of_getElem? (i := 417) (by decide +kernel), rfl⟩
theorem qCL_L_13 : gW (.classLink RL 13 "java/lang/IllegalArgumentException") := ⟨List.mem_of_getElem? (i := 418) (by decide +kernel), rfl⟩
theorem qCL_L_15 : gW (.classLink RL 15 "java/lang/IllegalStateException") := ⟨List.mem_of_getElem? (i := 419) (by decide +kernel), rfl⟩
theorem qL_L_7 : gW (.methodLink RL 7 yX6_addSignal) := ⟨List.mem_of_getElem? (i := 420) (by decide +kernel), rfl⟩
theorem qI_yX6_addSignal : gW (.instanceMethod yX6_addSignal) := ⟨List.mem_of_getElem? (i := 421) (by decide +kernel), rfl⟩
theorem qS_yX6_addSignal : gW (.selects RX6 yX6_addSignal yX6_addSignal) := ⟨List.mem_of_getElem? (i := 422) (by decide +kernel), rfl⟩
theorem qC_yX6_addSignal : gW (.code yX6_addSignal cX6_addSignal 2 (some .int)) := ⟨List.mem_of_getElem? (i := 423) (by decide +kernel), rfl⟩
theorem qL_X6_33 : gW (.methodLink RX6 33 yX4_lengthOf) := ⟨List.mem_of_getElem? (i := 424) (by decide +kernel), rfl⟩
theorem qT_yX4_lengthOf : gW (.static yX4_lengthOf) := ⟨List.mem_of_getElem? (i := 425) (by decide +kernel), rfl⟩
theorem qC_yX4_lengthOf : gW (.code yX4_lengthOf cX4_lengthOf 4 (some .int)) := ⟨List.mem_of_getElem? (i := 426) (by decide +kernel), rfl⟩
theorem qL_X6_39 : gW (.methodLink RX6 39 yX6_isBetween) := ⟨List.mem_of_getElem? (i := 427) (by decide +kernel), rfl⟩
theorem qT_yX6_isBetween : gW (.static yX6_isBetween) := ⟨List.mem_of_getElem? (i := 428) (by decide +kernel), rfl⟩
theorem qC_yX6_isBetween : gW (.code yX6_isBetween cX6_isBetween 3 (some .boolean)) := ⟨List.mem_of_getElem? (i := 429) (by decide +kernel), rfl⟩
theorem qCL_X6_43 : gW (.classLink RX6 43 "java/lang/IllegalArgumentException") := ⟨List.mem_of_getElem? (i := 430) (by decide +kernel), rfl⟩
theorem qL_X6_50 : gW (.methodLink RX6 50 yX2_isFull) := ⟨List.mem_of_getElem? (i := 498) (by decide +kernel), rfl⟩
theorem qI_yX2_isFull : gW (.instanceMethod yX2_isFull) := ⟨List.mem_of_getElem? (i := 499) (by decide +kernel), rfl⟩
theorem qS_yX2_isFull : gW (.selects RX2 yX2_isFull yX2_isFull) := ⟨List.mem_of_getElem? (i := 500) (by decide +kernel), rfl⟩
theorem qC_yX2_isFull : gW (.code yX2_isFull cX2_isFull 1 (some .boolean)) := ⟨List.mem_of_getElem? (i := 501) (by decide +kernel), rfl⟩
theorem qL_X6_54 : gW (.methodLink RX6 54 yX2_isAmbiguousWith) := ⟨List.mem_of_getElem? (i := 502) (by decide +kernel), rfl⟩
theorem qI_yX2_isAmbiguousWith : gW (.instanceMethod yX2_isAmbiguousWith) := ⟨List.mem_of_getElem? (i := 503) (by decide +kernel), rfl⟩
theorem qS_yX2_isAmbiguousWith : gW (.selects RX2 yX2_isAmbiguousWith yX2_isAmbiguousWith) := ⟨List.mem_of_getElem? (i := 504) (by decide +kernel), rfl⟩
theorem qC_yX2_isAmbiguousWith : gW (.code yX2_isAmbiguousWith cX2_isAmbiguousWith 4 (some .boolean)) := ⟨List.mem_of_getElem? (i := 505) (by decide +kernel), rfl⟩
theorem qL_X2_26 : gW (.methodLink RX2 26 yX4_isBeginning) := ⟨List.mem_of_getElem? (i := 506) (by decide +kernel), rfl⟩
theorem qT_yX4_isBeginning : gW (.static yX4_isBeginning) := ⟨List.mem_of_getElem? (i := 507) (by decide +kernel), rfl⟩
theorem qC_yX4_isBeginning : gW (.code yX4_isBeginning cX4_isBeginning 3 (some .boolean)) := ⟨List.mem_of_getElem? (i := 508) (by decide +kernel), rfl⟩
theorem qL_X4_18 : gW (.methodLink RX4 18 yX4_lengthOf) := ⟨List.mem_of_getElem? (i := 509) (by decide +kernel), rfl⟩
theorem qL_X4_9 : gW (.methodLink RX4 9 yX4_withoutLast) := ⟨List.mem_of_getElem? (i := 510) (by decide +kernel), rfl⟩
theorem qT_yX4_withoutLast : gW (.static yX4_withoutLast) := ⟨List.mem_of_getElem? (i := 511) (by decide +kernel), rfl⟩
theorem qC_yX4_withoutLast : gW (.code yX4_withoutLast cX4_withoutLast 4 (some .int)) := ⟨List.mem_of_getElem? (i := 512) (by decide +kernel), rfl⟩
theorem qCL_X6_58 : gW (.classLink RX6 58 "java/lang/IllegalStateException") := ⟨List.mem_of_getElem? (i := 513) (by decide +kernel), rfl⟩
theorem qL_X6_63 : gW (.methodLink RX6 63 yX2_add) := ⟨List.mem_of_getElem? (i := 529) (by decide +kernel), rfl⟩
theorem qI_yX2_add : gW (.instanceMethod yX2_add) := ⟨List.mem_of_getElem? (i := 530) (by decide +kernel), rfl⟩
theorem qS_yX2_add : gW (.selects RX2 yX2_add yX2_add) := ⟨List.mem_of_getElem? (i := 531) (by decide +kernel), rfl⟩
theorem qC_yX2_add : gW (.code yX2_add cX2_add 2 (some .int)) := ⟨List.mem_of_getElem? (i := 532) (by decide +kernel), rfl⟩
theorem qL_L_83 : gW (.methodLink RL 83 yL_read) := ⟨List.mem_of_getElem? (i := 533) (by decide +kernel), rfl⟩
theorem qT_yL_read : gW (.static yL_read) := ⟨List.mem_of_getElem? (i := 534) (by decide +kernel), rfl⟩
theorem qC_yL_read : gW (.codeWith yL_read cL_read 5 (some .int) [(0, 10, 13, 13), (0, 10, 17, 21)]) := ⟨List.mem_of_getElem? (i := 535) (by decide +kernel), rfl⟩
theorem qCL_L_21 : gW (.classLink RL 21 "java/lang/IndexOutOfBoundsException") := ⟨List.mem_of_getElem? (i := 536) (by decide +kernel), rfl⟩
theorem qL_L_17 : gW (.methodLink RL 17 yX6_read) := ⟨List.mem_of_getElem? (i := 537) (by decide +kernel), rfl⟩
theorem qI_yX6_read : gW (.instanceMethod yX6_read) := ⟨List.mem_of_getElem? (i := 538) (by decide +kernel), rfl⟩
theorem qS_yX6_read : gW (.selects RX6 yX6_read yX6_read) := ⟨List.mem_of_getElem? (i := 539) (by decide +kernel), rfl⟩
theorem qC_yX6_read : gW (.code yX6_read cX6_read 3 (some .int)) := ⟨List.mem_of_getElem? (i := 540) (by decide +kernel), rfl⟩
theorem qL_X6_68 : gW (.methodLink RX6 68 yX6_isIndex) := ⟨List.mem_of_getElem? (i := 542) (by decide +kernel), rfl⟩
theorem qCL_X6_72 : gW (.classLink RX6 72 "java/lang/IndexOutOfBoundsException") := ⟨List.mem_of_getElem? (i := 543) (by decide +kernel), rfl⟩
theorem qL_X6_77 : gW (.methodLink RX6 77 yX2_readRow) := ⟨List.mem_of_getElem? (i := 559) (by decide +kernel), rfl⟩
theorem qI_yX2_readRow : gW (.instanceMethod yX2_readRow) := ⟨List.mem_of_getElem? (i := 560) (by decide +kernel), rfl⟩
theorem qS_yX2_readRow : gW (.selects RX2 yX2_readRow yX2_readRow) := ⟨List.mem_of_getElem? (i := 561) (by decide +kernel), rfl⟩
theorem qC_yX2_readRow : gW (.code yX2_readRow cX2_readRow 8 (some .int)) := ⟨List.mem_of_getElem? (i := 562) (by decide +kernel), rfl⟩
theorem qL_X2_35 : gW (.methodLink RX2 35 yX2_signalAtBeginningOf) := ⟨List.mem_of_getElem? (i := 563) (by decide +kernel), rfl⟩
theorem qI_yX2_signalAtBeginningOf : gW (.instanceMethod yX2_signalAtBeginningOf) := ⟨List.mem_of_getElem? (i := 565) (by decide +kernel), rfl⟩
theorem qC_yX2_signalAtBeginningOf : gW (.code yX2_signalAtBeginningOf cX2_signalAtBeginningOf 3 (some .int)) := ⟨List.mem_of_getElem? (i := 566) (by decide +kernel), rfl⟩
theorem qL_X2_38 : gW (.methodLink RX2 38 yX4_behindBeginning) := ⟨List.mem_of_getElem? (i := 567) (by decide +kernel), rfl⟩
theorem qT_yX4_behindBeginning : gW (.static yX4_behindBeginning) := ⟨List.mem_of_getElem? (i := 568) (by decide +kernel), rfl⟩
theorem qC_yX4_behindBeginning : gW (.code yX4_behindBeginning cX4_behindBeginning 2 (some .int)) := ⟨List.mem_of_getElem? (i := 569) (by decide +kernel), rfl⟩
theorem qL_X4_15 : gW (.methodLink RX4 15 yX4_followedBy) := ⟨List.mem_of_getElem? (i := 570) (by decide +kernel), rfl⟩
theorem qT_yX4_followedBy : gW (.static yX4_followedBy) := ⟨List.mem_of_getElem? (i := 571) (by decide +kernel), rfl⟩
theorem qC_yX4_followedBy : gW (.code yX4_followedBy cX4_followedBy 4 (some .int)) := ⟨List.mem_of_getElem? (i := 572) (by decide +kernel), rfl⟩
theorem qL_X2_42 : gW (.methodLink RX2 42 yX4_lengthOf) := ⟨List.mem_of_getElem? (i := 573) (by decide +kernel), rfl⟩
theorem qL_L_87 : gW (.methodLink RL 87 yL_heard) := ⟨List.mem_of_getElem? (i := 574) (by decide +kernel), rfl⟩
theorem qT_yL_heard : gW (.static yL_heard) := ⟨List.mem_of_getElem? (i := 575) (by decide +kernel), rfl⟩
theorem qC_yL_heard : gW (.codeWith yL_heard cL_heard 4 (some .int) [(0, 9, 12, 21)]) := ⟨List.mem_of_getElem? (i := 576) (by decide +kernel), rfl⟩
theorem qL_L_23 : gW (.methodLink RL 23 yX6_heard) := ⟨List.mem_of_getElem? (i := 577) (by decide +kernel), rfl⟩
theorem qI_yX6_heard : gW (.instanceMethod yX6_heard) := ⟨List.mem_of_getElem? (i := 578) (by decide +kernel), rfl⟩
theorem qS_yX6_heard : gW (.selects RX6 yX6_heard yX6_heard) := ⟨List.mem_of_getElem? (i := 579) (by decide +kernel), rfl⟩
theorem qC_yX6_heard : gW (.code yX6_heard cX6_heard 2 (some .int)) := ⟨List.mem_of_getElem? (i := 580) (by decide +kernel), rfl⟩
theorem qL_X6_87 : gW (.methodLink RX6 87 yX2_ringsOf) := ⟨List.mem_of_getElem? (i := 582) (by decide +kernel), rfl⟩
theorem qL_X6_93 : gW (.methodLink RX6 93 yX6_ringsHeard) := ⟨List.mem_of_getElem? (i := 583) (by decide +kernel), rfl⟩
theorem qI_yX6_ringsHeard : gW (.instanceMethod yX6_ringsHeard) := ⟨List.mem_of_getElem? (i := 585) (by decide +kernel), rfl⟩
theorem qC_yX6_ringsHeard : gW (.code yX6_ringsHeard cX6_ringsHeard 8 (some .int)) := ⟨List.mem_of_getElem? (i := 586) (by decide +kernel), rfl⟩
theorem qL_X6_252 : gW (.methodLink RX6 252 yX4_ringAt) := ⟨List.mem_of_getElem? (i := 587) (by decide +kernel), rfl⟩
theorem qT_yX4_ringAt : gW (.static yX4_ringAt) := ⟨List.mem_of_getElem? (i := 588) (by decide +kernel), rfl⟩
theorem qC_yX4_ringAt : gW (.code yX4_ringAt cX4_ringAt 2 (some .int)) := ⟨List.mem_of_getElem? (i := 589) (by decide +kernel), rfl⟩
theorem qL_X6_255 : gW (.methodLink RX6 255 yX6_fogIn) := ⟨List.mem_of_getElem? (i := 590) (by decide +kernel), rfl⟩
theorem qI_yX6_fogIn : gW (.instanceMethod yX6_fogIn) := ⟨List.mem_of_getElem? (i := 592) (by decide +kernel), rfl⟩
theorem qC_yX6_fogIn : gW (.code yX6_fogIn cX6_fogIn 3 (some .int)) := ⟨List.mem_of_getElem? (i := 593) (by decide +kernel), rfl⟩
theorem qL_L_90 : gW (.methodLink RL 90 yL_safe) := ⟨List.mem_of_getElem? (i := 594) (by decide +kernel), rfl⟩
theorem qT_yL_safe : gW (.static yL_safe) := ⟨List.mem_of_getElem? (i := 595) (by decide +kernel), rfl⟩
theorem qC_yL_safe : gW (.codeWith yL_safe cL_safe 4 (some .int) [(0, 9, 12, 21)]) := ⟨List.mem_of_getElem? (i := 596) (by decide +kernel), rfl⟩
theorem qL_L_26 : gW (.methodLink RL 26 yX6_safe) := ⟨List.mem_of_getElem? (i := 597) (by decide +kernel), rfl⟩
theorem qI_yX6_safe : gW (.instanceMethod yX6_safe) := ⟨List.mem_of_getElem? (i := 598) (by decide +kernel), rfl⟩
theorem qS_yX6_safe : gW (.selects RX6 yX6_safe yX6_safe) := ⟨List.mem_of_getElem? (i := 599) (by decide +kernel), rfl⟩
theorem qC_yX6_safe : gW (.code yX6_safe cX6_safe 2 (some .int)) := ⟨List.mem_of_getElem? (i := 600) (by decide +kernel), rfl⟩
theorem qL_X6_96 : gW (.methodLink RX6 96 yX2_safeRings) := ⟨List.mem_of_getElem? (i := 601) (by decide +kernel), rfl⟩
theorem qI_yX2_safeRings : gW (.instanceMethod yX2_safeRings) := ⟨List.mem_of_getElem? (i := 602) (by decide +kernel), rfl⟩
theorem qS_yX2_safeRings : gW (.selects RX2 yX2_safeRings yX2_safeRings) := ⟨List.mem_of_getElem? (i := 603) (by decide +kernel), rfl⟩
theorem qC_yX2_safeRings : gW (.code yX2_safeRings cX2_safeRings 6 (some .int)) := ⟨List.mem_of_getElem? (i := 604) (by decide +kernel), rfl⟩
theorem qL_X2_45 : gW (.methodLink RX2 45 yX4_withoutRing) := ⟨List.mem_of_getElem? (i := 605) (by decide +kernel), rfl⟩
theorem qT_yX4_withoutRing : gW (.static yX4_withoutRing) := ⟨List.mem_of_getElem? (i := 606) (by decide +kernel), rfl⟩
theorem qC_yX4_withoutRing : gW (.code yX4_withoutRing cX4_withoutRing 3 (some .int)) := ⟨List.mem_of_getElem? (i := 607) (by decide +kernel), rfl⟩
theorem qL_X2_48 : gW (.methodLink RX2 48 yX2_readRow) := ⟨List.mem_of_getElem? (i := 608) (by decide +kernel), rfl⟩
theorem qL_L_93 : gW (.methodLink RL 93 yL_rows) := ⟨List.mem_of_getElem? (i := 609) (by decide +kernel), rfl⟩
theorem qT_yL_rows : gW (.static yL_rows) := ⟨List.mem_of_getElem? (i := 610) (by decide +kernel), rfl⟩
theorem qC_yL_rows : gW (.codeWith yL_rows cL_rows 4 (some .int) [(0, 9, 12, 13)]) := ⟨List.mem_of_getElem? (i := 611) (by decide +kernel), rfl⟩
theorem qL_L_29 : gW (.methodLink RL 29 yX6_rows) := ⟨List.mem_of_getElem? (i := 612) (by decide +kernel), rfl⟩
theorem qI_yX6_rows : gW (.instanceMethod yX6_rows) := ⟨List.mem_of_getElem? (i := 613) (by decide +kernel), rfl⟩
theorem qS_yX6_rows : gW (.selects RX6 yX6_rows yX6_rows) := ⟨List.mem_of_getElem? (i := 614) (by decide +kernel), rfl⟩
theorem qC_yX6_rows : gW (.code yX6_rows cX6_rows 2 (some .int)) := ⟨List.mem_of_getElem? (i := 615) (by decide +kernel), rfl⟩
theorem qL_X6_101 : gW (.methodLink RX6 101 yX2_wholeRows) := ⟨List.mem_of_getElem? (i := 617) (by decide +kernel), rfl⟩
theorem qI_yX2_wholeRows : gW (.instanceMethod yX2_wholeRows) := ⟨List.mem_of_getElem? (i := 618) (by decide +kernel), rfl⟩
theorem qS_yX2_wholeRows : gW (.selects RX2 yX2_wholeRows yX2_wholeRows) := ⟨List.mem_of_getElem? (i := 619) (by decide +kernel), rfl⟩
theorem qC_yX2_wholeRows : gW (.code yX2_wholeRows cX2_wholeRows 3 (some .int)) := ⟨List.mem_of_getElem? (i := 620) (by decide +kernel), rfl⟩
theorem qL_X2_51 : gW (.methodLink RX2 51 yX2_rowsByLastSignal) := ⟨List.mem_of_getElem? (i := 621) (by decide +kernel), rfl⟩
theorem qI_yX2_rowsByLastSignal : gW (.instanceMethod yX2_rowsByLastSignal) := ⟨List.mem_of_getElem? (i := 623) (by decide +kernel), rfl⟩
theorem qC_yX2_rowsByLastSignal : gW (.code yX2_rowsByLastSignal cX2_rowsByLastSignal 5 (some .int)) := ⟨List.mem_of_getElem? (i := 624) (by decide +kernel), rfl⟩
theorem qL_L_96 : gW (.methodLink RL 96 yL_setFog) := ⟨List.mem_of_getElem? (i := 625) (by decide +kernel), rfl⟩
theorem qT_yL_setFog : gW (.static yL_setFog) := ⟨List.mem_of_getElem? (i := 626) (by decide +kernel), rfl⟩
theorem qC_yL_setFog : gW (.codeWith yL_setFog cL_setFog 5 (some .int) [(0, 10, 13, 21), (0, 10, 17, 13)]) := ⟨List.mem_of_getElem? (i := 627) (by decide +kernel), rfl⟩
theorem qL_L_32 : gW (.methodLink RL 32 yX6_setFog) := ⟨List.mem_of_getElem? (i := 628) (by decide +kernel), rfl⟩
theorem qI_yX6_setFog : gW (.instanceMethod yX6_setFog) := ⟨List.mem_of_getElem? (i := 629) (by decide +kernel), rfl⟩
theorem qS_yX6_setFog : gW (.selects RX6 yX6_setFog yX6_setFog) := ⟨List.mem_of_getElem? (i := 630) (by decide +kernel), rfl⟩
theorem qC_yX6_setFog : gW (.code yX6_setFog cX6_setFog 4 (some .int)) := ⟨List.mem_of_getElem? (i := 631) (by decide +kernel), rfl⟩
theorem qL_L_99 : gW (.methodLink RL 99 yL_rebuild) := ⟨List.mem_of_getElem? (i := 634) (by decide +kernel), rfl⟩
theorem qT_yL_rebuild : gW (.static yL_rebuild) := ⟨List.mem_of_getElem? (i := 635) (by decide +kernel), rfl⟩
theorem qC_yL_rebuild : gW (.codeWith yL_rebuild cL_rebuild 5 (some .int) [(0, 10, 13, 13), (0, 10, 17, 15)]) := ⟨List.mem_of_getElem? (i := 636) (by decide +kernel), rfl⟩
theorem qL_L_35 : gW (.methodLink RL 35 yX6_rebuild) := ⟨List.mem_of_getElem? (i := 637) (by decide +kernel), rfl⟩
theorem qI_yX6_rebuild : gW (.instanceMethod yX6_rebuild) := ⟨List.mem_of_getElem? (i := 638) (by decide +kernel), rfl⟩
theorem qS_yX6_rebuild : gW (.selects RX6 yX6_rebuild yX6_rebuild) := ⟨List.mem_of_getElem? (i := 639) (by decide +kernel), rfl⟩
theorem qC_yX6_rebuild : gW (.code yX6_rebuild cX6_rebuild 4 (some .int)) := ⟨List.mem_of_getElem? (i := 640) (by decide +kernel), rfl⟩
theorem qL_L_102 : gW (.methodLink RL 102 yL_setToll) := ⟨List.mem_of_getElem? (i := 643) (by decide +kernel), rfl⟩
theorem qT_yL_setToll : gW (.static yL_setToll) := ⟨List.mem_of_getElem? (i := 644) (by decide +kernel), rfl⟩
theorem qC_yL_setToll : gW (.codeWith yL_setToll cL_setToll 5 (some .int) [(0, 10, 13, 13)]) := ⟨List.mem_of_getElem? (i := 645) (by decide +kernel), rfl⟩
theorem qL_L_38 : gW (.methodLink RL 38 yX6_setToll) := ⟨List.mem_of_getElem? (i := 646) (by decide +kernel), rfl⟩
theorem qI_yX6_setToll : gW (.instanceMethod yX6_setToll) := ⟨List.mem_of_getElem? (i := 647) (by decide +kernel), rfl⟩
theorem qS_yX6_setToll : gW (.selects RX6 yX6_setToll yX6_setToll) := ⟨List.mem_of_getElem? (i := 648) (by decide +kernel), rfl⟩
theorem qC_yX6_setToll : gW (.code yX6_setToll cX6_setToll 4 (some .int)) := ⟨List.mem_of_getElem? (i := 649) (by decide +kernel), rfl⟩
theorem qL_L_109 : gW (.methodLink RL 109 yL_come) := ⟨List.mem_of_getElem? (i := 651) (by decide +kernel), rfl⟩
theorem qT_yL_come : gW (.static yL_come) := ⟨List.mem_of_getElem? (i := 652) (by decide +kernel), rfl⟩
theorem qC_yL_come : gW (.codeWith yL_come cL_come 9 (some .int) [(0, 18, 21, 13), (0, 18, 25, 15)]) := ⟨List.mem_of_getElem? (i := 653) (by decide +kernel), rfl⟩
theorem qL_L_41 : gW (.methodLink RL 41 yX6_come) := ⟨List.mem_of_getElem? (i := 654) (by decide +kernel), rfl⟩
theorem qI_yX6_come : gW (.instanceMethod yX6_come) := ⟨List.mem_of_getElem? (i := 655) (by decide +kernel), rfl⟩
theorem qS_yX6_come : gW (.selects RX6 yX6_come yX6_come) := ⟨List.mem_of_getElem? (i := 656) (by decide +kernel), rfl⟩
theorem qC_yX6_come : gW (.code yX6_come cX6_come 8 (some .int)) := ⟨List.mem_of_getElem? (i := 657) (by decide +kernel), rfl⟩
theorem qL_X6_141 : gW (.methodLink RX6 141 yX0_newCart) := ⟨List.mem_of_getElem? (i := 659) (by decide +kernel), rfl⟩
theorem qI_yX0_newCart : gW (.instanceMethod yX0_newCart) := ⟨List.mem_of_getElem? (i := 660) (by decide +kernel), rfl⟩
theorem qS_yX0_newCart : gW (.selects RX0 yX0_newCart yX0_newCart) := ⟨List.mem_of_getElem? (i := 661) (by decide +kernel), rfl⟩
theorem qC_yX0_newCart : gW (.code yX0_newCart cX0_newCart 1 (some (.object "FogBridge$Cart"))) := ⟨List.mem_of_getElem? (i := 662) (by decide +kernel), rfl⟩
theorem qL_X6_168 : gW (.methodLink RX6 168 yX0_gateAt) := ⟨List.mem_of_getElem? (i := 664) (by decide +kernel), rfl⟩
theorem qL_X6_180 : gW (.methodLink RX6 180 yX5_addLast) := ⟨List.mem_of_getElem? (i := 665) (by decide +kernel), rfl⟩
theorem qL_L_113 : gW (.methodLink RL 113 yL_cart) := ⟨List.mem_of_getElem? (i := 666) (by decide +kernel), rfl⟩
theorem qT_yL_cart : gW (.static yL_cart) := ⟨List.mem_of_getElem? (i := 667) (by decide +kernel), rfl⟩
theorem qC_yL_cart : gW (.codeWith yL_cart cL_cart 5 (some .int) [(0, 10, 13, 21)]) := ⟨List.mem_of_getElem? (i := 668) (by decide +kernel), rfl⟩
theorem qL_L_45 : gW (.methodLink RL 45 yX6_cart) := ⟨List.mem_of_getElem? (i := 669) (by decide +kernel), rfl⟩
theorem qI_yX6_cart : gW (.instanceMethod yX6_cart) := ⟨List.mem_of_getElem? (i := 670) (by decide +kernel), rfl⟩
theorem qS_yX6_cart : gW (.selects RX6 yX6_cart yX6_cart) := ⟨List.mem_of_getElem? (i := 671) (by decide +kernel), rfl⟩
theorem qC_yX6_cart : gW (.code yX6_cart cX6_cart 4 (some .int)) := ⟨List.mem_of_getElem? (i := 672) (by decide +kernel), rfl⟩
theorem qL_X6_184 : gW (.methodLink RX6 184 yX0_cartAt) := ⟨List.mem_of_getElem? (i := 673) (by decide +kernel), rfl⟩
theorem qL_X6_190 : gW (.methodLink RX6 190 yX0_tellCart) := ⟨List.mem_of_getElem? (i := 675) (by decide +kernel), rfl⟩
theorem qL_L_116 : gW (.methodLink RL 116 yL_queue) := ⟨List.mem_of_getElem? (i := 676) (by decide +kernel), rfl⟩
theorem qT_yL_queue : gW (.static yL_queue) := ⟨List.mem_of_getElem? (i := 677) (by decide +kernel), rfl⟩
theorem qC_yL_queue : gW (.codeWith yL_queue cL_queue 5 (some .int) [(0, 10, 13, 21)]) := ⟨List.mem_of_getElem? (i := 678) (by decide +kernel), rfl⟩
theorem qL_L_48 : gW (.methodLink RL 48 yX6_queue) := ⟨List.mem_of_getElem? (i := 679) (by decide +kernel), rfl⟩
theorem qI_yX6_queue : gW (.instanceMethod yX6_queue) := ⟨List.mem_of_getElem? (i := 680) (by decide +kernel), rfl⟩
theorem qS_yX6_queue : gW (.selects RX6 yX6_queue yX6_queue) := ⟨List.mem_of_getElem? (i := 681) (by decide +kernel), rfl⟩
theorem qC_yX6_queue : gW (.code yX6_queue cX6_queue 3 (some .int)) := ⟨List.mem_of_getElem? (i := 682) (by decide +kernel), rfl⟩
theorem qL_X6_196 : gW (.methodLink RX6 196 yX5_at) := ⟨List.mem_of_getElem? (i := 684) (by decide +kernel), rfl⟩
theorem qL_L_119 : gW (.methodLink RL 119 yL_box) := ⟨List.mem_of_getElem? (i := 685) (by decide +kernel), rfl⟩
theorem qT_yL_box : gW (.static yL_box) := ⟨List.mem_of_getElem? (i := 686) (by decide +kernel), rfl⟩
theorem qC_yL_box : gW (.codeWith yL_box cL_box 5 (some .int) [(0, 10, 13, 21)]) := ⟨List.mem_of_getElem? (i := 687) (by decide +kernel), rfl⟩
theorem qL_L_51 : gW (.methodLink RL 51 yX6_box) := ⟨List.mem_of_getElem? (i := 688) (by decide +kernel), rfl⟩
theorem qI_yX6_box : gW (.instanceMethod yX6_box) := ⟨List.mem_of_getElem? (i := 689) (by decide +kernel), rfl⟩
theorem qS_yX6_box : gW (.selects RX6 yX6_box yX6_box) := ⟨List.mem_of_getElem? (i := 690) (by decide +kernel), rfl⟩
theorem qC_yX6_box : gW (.code yX6_box cX6_box 3 (some .int)) := ⟨List.mem_of_getElem? (i := 691) (by decide +kernel), rfl⟩
theorem qL_X6_201 : gW (.methodLink RX6 201 yX3_tell) := ⟨List.mem_of_getElem? (i := 693) (by decide +kernel), rfl⟩
theorem qL_L_122 : gW (.methodLink RL 122 yL_empty) := ⟨List.mem_of_getElem? (i := 694) (by decide +kernel), rfl⟩
theorem qT_yL_empty : gW (.static yL_empty) := ⟨List.mem_of_getElem? (i := 695) (by decide +kernel), rfl⟩
theorem qC_yL_empty : gW (.codeWith yL_empty cL_empty 4 (some .int) [(0, 9, 12, 21)]) := ⟨List.mem_of_getElem? (i := 696) (by decide +kernel), rfl⟩
theorem qL_L_54 : gW (.methodLink RL 54 yX6_empty) := ⟨List.mem_of_getElem? (i := 697) (by decide +kernel), rfl⟩
theorem qI_yX6_empty : gW (.instanceMethod yX6_empty) := ⟨List.mem_of_getElem? (i := 698) (by decide +kernel), rfl⟩
theorem qS_yX6_empty : gW (.selects RX6 yX6_empty yX6_empty) := ⟨List.mem_of_getElem? (i := 699) (by decide +kernel), rfl⟩
theorem qC_yX6_empty : gW (.code yX6_empty cX6_empty 4 (some .int)) := ⟨List.mem_of_getElem? (i := 700) (by decide +kernel), rfl⟩
theorem qL_L_125 : gW (.methodLink RL 125 yL_pass) := ⟨List.mem_of_getElem? (i := 702) (by decide +kernel), rfl⟩
theorem qT_yL_pass : gW (.static yL_pass) := ⟨List.mem_of_getElem? (i := 703) (by decide +kernel), rfl⟩
theorem qC_yL_pass : gW (.codeWith yL_pass cL_pass 4 (some .int) [(0, 9, 12, 13)]) := ⟨List.mem_of_getElem? (i := 704) (by decide +kernel), rfl⟩
theorem qL_L_57 : gW (.methodLink RL 57 yX6_pass) := ⟨List.mem_of_getElem? (i := 705) (by decide +kernel), rfl⟩
theorem qI_yX6_pass : gW (.instanceMethod yX6_pass) := ⟨List.mem_of_getElem? (i := 706) (by decide +kernel), rfl⟩
theorem qS_yX6_pass : gW (.selects RX6 yX6_pass yX6_pass) := ⟨List.mem_of_getElem? (i := 707) (by decide +kernel), rfl⟩
theorem qC_yX6_pass : gW (.code yX6_pass cX6_pass 2 (some .int)) := ⟨List.mem_of_getElem? (i := 708) (by decide +kernel), rfl⟩
theorem qL_L_128 : gW (.methodLink RL 128 yL_count) := ⟨List.mem_of_getElem? (i := 710) (by decide +kernel), rfl⟩
theorem qT_yL_count : gW (.static yL_count) := ⟨List.mem_of_getElem? (i := 711) (by decide +kernel), rfl⟩
theorem qC_yL_count : gW (.codeWith yL_count cL_count 4 (some .int) [(0, 9, 12, 21)]) := ⟨List.mem_of_getElem? (i := 712) (by decide +kernel), rfl⟩
theorem qL_L_60 : gW (.methodLink RL 60 yX6_count) := ⟨List.mem_of_getElem? (i := 713) (by decide +kernel), rfl⟩
theorem qI_yX6_count : gW (.instanceMethod yX6_count) := ⟨List.mem_of_getElem? (i := 714) (by decide +kernel), rfl⟩
theorem qS_yX6_count : gW (.selects RX6 yX6_count yX6_count) := ⟨List.mem_of_getElem? (i := 715) (by decide +kernel), rfl⟩
theorem qC_yX6_count : gW (.code yX6_count cX6_count 2 (some .int)) := ⟨List.mem_of_getElem? (i := 716) (by decide +kernel), rfl⟩
theorem qL_L_131 : gW (.methodLink RL 131 yL_over) := ⟨List.mem_of_getElem? (i := 718) (by decide +kernel), rfl⟩
theorem qT_yL_over : gW (.static yL_over) := ⟨List.mem_of_getElem? (i := 719) (by decide +kernel), rfl⟩
theorem qC_yL_over : gW (.codeWith yL_over cL_over 4 (some .int) [(0, 9, 12, 21)]) := ⟨List.mem_of_getElem? (i := 720) (by decide +kernel), rfl⟩
theorem qL_L_63 : gW (.methodLink RL 63 yX6_over) := ⟨List.mem_of_getElem? (i := 721) (by decide +kernel), rfl⟩
theorem qI_yX6_over : gW (.instanceMethod yX6_over) := ⟨List.mem_of_getElem? (i := 722) (by decide +kernel), rfl⟩
theorem qS_yX6_over : gW (.selects RX6 yX6_over yX6_over) := ⟨List.mem_of_getElem? (i := 723) (by decide +kernel), rfl⟩
theorem qC_yX6_over : gW (.code yX6_over cX6_over 3 (some .int)) := ⟨List.mem_of_getElem? (i := 724) (by decide +kernel), rfl⟩
theorem qL_X6_226 : gW (.methodLink RX6 226 yX0_isOver) := ⟨List.mem_of_getElem? (i := 726) (by decide +kernel), rfl⟩
theorem qI_yX0_isOver : gW (.instanceMethod yX0_isOver) := ⟨List.mem_of_getElem? (i := 727) (by decide +kernel), rfl⟩
theorem qS_yX0_isOver : gW (.selects RX0 yX0_isOver yX0_isOver) := ⟨List.mem_of_getElem? (i := 728) (by decide +kernel), rfl⟩
theorem qC_yX0_isOver : gW (.code yX0_isOver cX0_isOver 3 (some .boolean)) := ⟨List.mem_of_getElem? (i := 729) (by decide +kernel), rfl⟩
theorem qL_L_138 : gW (.methodLink RL 138 yL_foresee) := ⟨List.mem_of_getElem? (i := 730) (by decide +kernel), rfl⟩
theorem qT_yL_foresee : gW (.static yL_foresee) := ⟨List.mem_of_getElem? (i := 731) (by decide +kernel), rfl⟩
theorem qC_yL_foresee : gW (.codeWith yL_foresee cL_foresee 5 (some .int) [(0, 10, 13, 13), (0, 10, 17, 21)]) := ⟨List.mem_of_getElem? (i := 732) (by decide +kernel), rfl⟩
theorem qL_L_66 : gW (.methodLink RL 66 yX6_foresee) := ⟨List.mem_of_getElem? (i := 733) (by decide +kernel), rfl⟩
theorem qI_yX6_foresee : gW (.instanceMethod yX6_foresee) := ⟨List.mem_of_getElem? (i := 734) (by decide +kernel), rfl⟩
theorem qS_yX6_foresee : gW (.selects RX6 yX6_foresee yX6_foresee) := ⟨List.mem_of_getElem? (i := 735) (by decide +kernel), rfl⟩
theorem qC_yX6_foresee : gW (.code yX6_foresee cX6_foresee 4 (some .int)) := ⟨List.mem_of_getElem? (i := 736) (by decide +kernel), rfl⟩
theorem qL_X6_231 : gW (.methodLink RX6 231 yX0_coinsInBoxes) := ⟨List.mem_of_getElem? (i := 738) (by decide +kernel), rfl⟩
theorem qI_yX0_coinsInBoxes : gW (.instanceMethod yX0_coinsInBoxes) := ⟨List.mem_of_getElem? (i := 739) (by decide +kernel), rfl⟩
theorem qS_yX0_coinsInBoxes : gW (.selects RX0 yX0_coinsInBoxes yX0_coinsInBoxes) := ⟨List.mem_of_getElem? (i := 740) (by decide +kernel), rfl⟩
theorem qC_yX0_coinsInBoxes : gW (.code yX0_coinsInBoxes cX0_coinsInBoxes 1 (some .int)) := ⟨List.mem_of_getElem? (i := 741) (by decide +kernel), rfl⟩
theorem qCL_L_70 : gW (.classLink RL 70 RX8) := ⟨List.mem_of_getElem? (i := 742) (by decide +kernel), rfl⟩
theorem qIn_X8 : gW (.instantiable RX8 10) := ⟨List.mem_of_getElem? (i := 743) (by decide +kernel), rfl⟩
theorem qL_L_72 : gW (.methodLink RL 72 yX8_init) := ⟨List.mem_of_getElem? (i := 744) (by decide +kernel), rfl⟩
theorem qI_yX8_init : gW (.instanceMethod yX8_init) := ⟨List.mem_of_getElem? (i := 745) (by decide +kernel), rfl⟩
theorem qC_yX8_init : gW (.code yX8_init cX8_init 1 none) := ⟨List.mem_of_getElem? (i := 746) (by decide +kernel), rfl⟩
theorem qL_X8_1 : gW (.methodLink RX8 1 objectInit) := ⟨List.mem_of_getElem? (i := 747) (by decide +kernel), rfl⟩
theorem qCL_X8_29 : gW (.classLink RX8 29 RX7) := ⟨List.mem_of_getElem? (i := 748) (by decide +kernel), rfl⟩
theorem qIn_X7 : gW (.instantiable RX7 8) := ⟨List.mem_of_getElem? (i := 749) (by decide +kernel), rfl⟩
theorem qL_X8_31 : gW (.methodLink RX8 31 yX7_init) := ⟨List.mem_of_getElem? (i := 750) (by decide +kernel), rfl⟩
theorem qI_yX7_init : gW (.instanceMethod yX7_init) := ⟨List.mem_of_getElem? (i := 751) (by decide +kernel), rfl⟩
theorem qC_yX7_init : gW (.code yX7_init cX7_init 3 none) := ⟨List.mem_of_getElem? (i := 752) (by decide +kernel), rfl⟩
theorem qL_X7_9 : gW (.methodLink RX7 9 objectInit) := ⟨List.mem_of_getElem? (i := 753) (by decide +kernel), rfl⟩
theorem qF_X7_34 : gW (.fieldLink RX7 34 "FogBridgeModel$State" "tick" "I") := ⟨List.mem_of_getElem? (i := 754) (by decide +kernel), rfl⟩
theorem qFN_X8_79 : gW (.fieldLinkNest RX8 79 "FogBridgeModel$State" "tick" "I" "FogBridgeModel") := ⟨List.mem_of_getElem? (i := 755) (by decide +kernel), rfl⟩
theorem qF_X7_38 : gW (.fieldLink RX7 38 "FogBridgeModel$State" "open" "I") := ⟨List.mem_of_getElem? (i := 756) (by decide +kernel), rfl⟩
theorem qFN_X8_88 : gW (.fieldLinkNest RX8 88 "FogBridgeModel$State" "open" "I" "FogBridgeModel") := ⟨List.mem_of_getElem? (i := 757) (by decide +kernel), rfl⟩
theorem qF_X7_41 : gW (.fieldLink RX7 41 "FogBridgeModel$State" "carts" "I") := ⟨List.mem_of_getElem? (i := 758) (by decide +kernel), rfl⟩
theorem qFN_X8_91 : gW (.fieldLinkNest RX8 91 "FogBridgeModel$State" "carts" "I" "FogBridgeModel") := ⟨List.mem_of_getElem? (i := 759) (by decide +kernel), rfl⟩
theorem qF_X7_15 : gW (.fieldLink RX7 15 "FogBridgeModel$State" "of" "[I") := ⟨List.mem_of_getElem? (i := 760) (by decide +kernel), rfl⟩
theorem qFN_X8_94 : gW (.fieldLinkNest RX8 94 "FogBridgeModel$State" "of" "[I" "FogBridgeModel") := ⟨List.mem_of_getElem? (i := 761) (by decide +kernel), rfl⟩
theorem qF_X7_19 : gW (.fieldLink RX7 19 "FogBridgeModel$State" "at" "[I") := ⟨List.mem_of_getElem? (i := 762) (by decide +kernel), rfl⟩
theorem qF_X7_22 : gW (.fieldLink RX7 22 "FogBridgeModel$State" "row" "[I") := ⟨List.mem_of_getElem? (i := 763) (by decide +kernel), rfl⟩
theorem qFN_X8_119 : gW (.fieldLinkNest RX8 119 "FogBridgeModel$State" "row" "[I" "FogBridgeModel") := ⟨List.mem_of_getElem? (i := 764) (by decide +kernel), rfl⟩
theorem qF_X7_25 : gW (.fieldLink RX7 25 "FogBridgeModel$State" "box" "[I") := ⟨List.mem_of_getElem? (i := 765) (by decide +kernel), rfl⟩
theorem qFN_X8_103 : gW (.fieldLinkNest RX8 103 "FogBridgeModel$State" "box" "[I" "FogBridgeModel") := ⟨List.mem_of_getElem? (i := 766) (by decide +kernel), rfl⟩
theorem qF_X7_3 : gW (.fieldLink RX7 3 "FogBridgeModel$State" "this$0" "LFogBridgeModel;") := ⟨List.mem_of_getElem? (i := 767) (by decide +kernel), rfl⟩
theorem qF_X8_41 : gW (.fieldLink RX8 41 "FogBridgeModel" "thrown" "I") := ⟨List.mem_of_getElem? (i := 785) (by decide +kernel), rfl⟩
theorem qF_X8_62 : gW (.fieldLink RX8 62 "FogBridgeModel" "signals" "I") := ⟨List.mem_of_getElem? (i := 786) (by decide +kernel), rfl⟩
theorem qF_X8_9 : gW (.fieldLink RX8 9 "FogBridgeModel" "signal" "[I") := ⟨List.mem_of_getElem? (i := 787) (by decide +kernel), rfl⟩
theorem qF_X8_13 : gW (.fieldLink RX8 13 "FogBridgeModel" "fog" "[I") := ⟨List.mem_of_getElem? (i := 788) (by decide +kernel), rfl⟩
theorem qF_X8_16 : gW (.fieldLink RX8 16 "FogBridgeModel" "places" "I") := ⟨List.mem_of_getElem? (i := 789) (by decide +kernel), rfl⟩
theorem qFN_X7_59 : gW (.fieldLinkNest RX7 59 "FogBridgeModel" "places" "I" "FogBridgeModel") := ⟨List.mem_of_getElem? (i := 790) (by decide +kernel), rfl⟩
theorem qF_X8_20 : gW (.fieldLink RX8 20 "FogBridgeModel" "bears" "I") := ⟨List.mem_of_getElem? (i := 791) (by decide +kernel), rfl⟩
theorem qFN_X7_74 : gW (.fieldLinkNest RX7 74 "FogBridgeModel" "bears" "I" "FogBridgeModel") := ⟨List.mem_of_getElem? (i := 792) (by decide +kernel), rfl⟩
theorem qF_X8_23 : gW (.fieldLink RX8 23 "FogBridgeModel" "axleToll" "I") := ⟨List.mem_of_getElem? (i := 793) (by decide +kernel), rfl⟩
theorem qFN_X7_81 : gW (.fieldLinkNest RX7 81 "FogBridgeModel" "axleToll" "I" "FogBridgeModel") := ⟨List.mem_of_getElem? (i := 794) (by decide +kernel), rfl⟩
theorem qF_X8_26 : gW (.fieldLink RX8 26 "FogBridgeModel" "tenToll" "I") := ⟨List.mem_of_getElem? (i := 795) (by decide +kernel), rfl⟩
theorem qFN_X7_84 : gW (.fieldLinkNest RX7 84 "FogBridgeModel" "tenToll" "I" "FogBridgeModel") := ⟨List.mem_of_getElem? (i := 796) (by decide +kernel), rfl⟩
theorem qF_X8_34 : gW (.fieldLink RX8 34 "FogBridgeModel" "s" "LFogBridgeModel$State;") := ⟨List.mem_of_getElem? (i := 797) (by decide +kernel), rfl⟩
theorem qF_X8_38 : gW (.fieldLink RX8 38 "FogBridgeModel" "ahead" "LFogBridgeModel$State;") := ⟨List.mem_of_getElem? (i := 798) (by decide +kernel), rfl⟩
theorem qL_L_79 : gW (.methodLink RL 79 yX8_thrown) := ⟨List.mem_of_getElem? (i := 820) (by decide +kernel), rfl⟩
theorem qI_yX8_thrown : gW (.instanceMethod yX8_thrown) := ⟨List.mem_of_getElem? (i := 821) (by decide +kernel), rfl⟩
theorem qS_yX8_thrown : gW (.selects RX8 yX8_thrown yX8_thrown) := ⟨List.mem_of_getElem? (i := 822) (by decide +kernel), rfl⟩
theorem qC_yX8_thrown : gW (.code yX8_thrown cX8_thrown 1 (some .int)) := ⟨List.mem_of_getElem? (i := 823) (by decide +kernel), rfl⟩
theorem qL_L_78 : gW (.methodLink RL 78 yX8_addSignal) := ⟨List.mem_of_getElem? (i := 824) (by decide +kernel), rfl⟩
theorem qI_yX8_addSignal : gW (.instanceMethod yX8_addSignal) := ⟨List.mem_of_getElem? (i := 825) (by decide +kernel), rfl⟩
theorem qS_yX8_addSignal : gW (.selects RX8 yX8_addSignal yX8_addSignal) := ⟨List.mem_of_getElem? (i := 826) (by decide +kernel), rfl⟩
theorem qC_yX8_addSignal : gW (.code yX8_addSignal cX8_addSignal 3 (some .int)) := ⟨List.mem_of_getElem? (i := 827) (by decide +kernel), rfl⟩
theorem qL_X8_55 : gW (.methodLink RX8 55 yX8_isRow) := ⟨List.mem_of_getElem? (i := 828) (by decide +kernel), rfl⟩
theorem qT_yX8_isRow : gW (.static yX8_isRow) := ⟨List.mem_of_getElem? (i := 829) (by decide +kernel), rfl⟩
theorem qC_yX8_isRow : gW (.code yX8_isRow cX8_isRow 4 (some .boolean)) := ⟨List.mem_of_getElem? (i := 830) (by decide +kernel), rfl⟩
theorem qL_X8_44 : gW (.methodLink RX8 44 yX8_length) := ⟨List.mem_of_getElem? (i := 831) (by decide +kernel), rfl⟩
theorem qT_yX8_length : gW (.static yX8_length) := ⟨List.mem_of_getElem? (i := 832) (by decide +kernel), rfl⟩
theorem qC_yX8_length : gW (.code yX8_length cX8_length 3 (some .int)) := ⟨List.mem_of_getElem? (i := 833) (by decide +kernel), rfl⟩
theorem qL_X8_48 : gW (.methodLink RX8 48 yX8_isIn) := ⟨List.mem_of_getElem? (i := 834) (by decide +kernel), rfl⟩
theorem qT_yX8_isIn : gW (.static yX8_isIn) := ⟨List.mem_of_getElem? (i := 835) (by decide +kernel), rfl⟩
theorem qC_yX8_isIn : gW (.code yX8_isIn cX8_isIn 3 (some .boolean)) := ⟨List.mem_of_getElem? (i := 836) (by decide +kernel), rfl⟩
theorem qL_X8_59 : gW (.methodLink RX8 59 yX8_no) := ⟨List.mem_of_getElem? (i := 837) (by decide +kernel), rfl⟩
theorem qI_yX8_no : gW (.instanceMethod yX8_no) := ⟨List.mem_of_getElem? (i := 839) (by decide +kernel), rfl⟩
theorem qC_yX8_no : gW (.code yX8_no cX8_no 2 (some .int)) := ⟨List.mem_of_getElem? (i := 840) (by decide +kernel), rfl⟩
theorem qL_X8_65 : gW (.methodLink RX8 65 yX8_begins) := ⟨List.mem_of_getElem? (i := 841) (by decide +kernel), rfl⟩
theorem qT_yX8_begins : gW (.static yX8_begins) := ⟨List.mem_of_getElem? (i := 842) (by decide +kernel), rfl⟩
theorem qC_yX8_begins : gW (.code yX8_begins cX8_begins 3 (some .boolean)) := ⟨List.mem_of_getElem? (i := 843) (by decide +kernel), rfl⟩
theorem qL_X8_52 : gW (.methodLink RX8 52 yX8_ten) := ⟨List.mem_of_getElem? (i := 844) (by decide +kernel), rfl⟩
theorem qT_yX8_ten : gW (.static yX8_ten) := ⟨List.mem_of_getElem? (i := 845) (by decide +kernel), rfl⟩
theorem qC_yX8_ten : gW (.code yX8_ten cX8_ten 3 (some .int)) := ⟨List.mem_of_getElem? (i := 846) (by decide +kernel), rfl⟩
theorem qL_L_86 : gW (.methodLink RL 86 yX8_read) := ⟨List.mem_of_getElem? (i := 847) (by decide +kernel), rfl⟩
theorem qI_yX8_read : gW (.instanceMethod yX8_read) := ⟨List.mem_of_getElem? (i := 848) (by decide +kernel), rfl⟩
theorem qS_yX8_read : gW (.selects RX8 yX8_read yX8_read) := ⟨List.mem_of_getElem? (i := 849) (by decide +kernel), rfl⟩
theorem qC_yX8_read : gW (.code yX8_read cX8_read 7 (some .int)) := ⟨List.mem_of_getElem? (i := 850) (by decide +kernel), rfl⟩
theorem qL_X8_68 : gW (.methodLink RX8 68 yX8_beginning) := ⟨List.mem_of_getElem? (i := 851) (by decide +kernel), rfl⟩
theorem qI_yX8_beginning : gW (.instanceMethod yX8_beginning) := ⟨List.mem_of_getElem? (i := 853) (by decide +kernel), rfl⟩
theorem qC_yX8_beginning : gW (.code yX8_beginning cX8_beginning 3 (some .int)) := ⟨List.mem_of_getElem? (i := 854) (by decide +kernel), rfl⟩
theorem qL_X8_71 : gW (.methodLink RX8 71 yX8_behind) := ⟨List.mem_of_getElem? (i := 855) (by decide +kernel), rfl⟩
theorem qI_yX8_behind : gW (.instanceMethod yX8_behind) := ⟨List.mem_of_getElem? (i := 857) (by decide +kernel), rfl⟩
theorem qC_yX8_behind : gW (.code yX8_behind cX8_behind 3 (some .int)) := ⟨List.mem_of_getElem? (i := 858) (by decide +kernel), rfl⟩
theorem qL_L_89 : gW (.methodLink RL 89 yX8_heard) := ⟨List.mem_of_getElem? (i := 859) (by decide +kernel), rfl⟩
theorem qI_yX8_heard : gW (.instanceMethod yX8_heard) := ⟨List.mem_of_getElem? (i := 860) (by decide +kernel), rfl⟩
theorem qS_yX8_heard : gW (.selects RX8 yX8_heard yX8_heard) := ⟨List.mem_of_getElem? (i := 861) (by decide +kernel), rfl⟩
theorem qC_yX8_heard : gW (.code yX8_heard cX8_heard 6 (some .int)) := ⟨List.mem_of_getElem? (i := 862) (by decide +kernel), rfl⟩
theorem qL_X8_75 : gW (.methodLink RX8 75 yX8_isSignal) := ⟨List.mem_of_getElem? (i := 863) (by decide +kernel), rfl⟩
theorem qI_yX8_isSignal : gW (.instanceMethod yX8_isSignal) := ⟨List.mem_of_getElem? (i := 865) (by decide +kernel), rfl⟩
theorem qC_yX8_isSignal : gW (.code yX8_isSignal cX8_isSignal 2 (some .boolean)) := ⟨List.mem_of_getElem? (i := 866) (by decide +kernel), rfl⟩
theorem qL_L_92 : gW (.methodLink RL 92 yX8_safe) := ⟨List.mem_of_getElem? (i := 867) (by decide +kernel), rfl⟩
theorem qI_yX8_safe : gW (.instanceMethod yX8_safe) := ⟨List.mem_of_getElem? (i := 868) (by decide +kernel), rfl⟩
theorem qS_yX8_safe : gW (.selects RX8 yX8_safe yX8_safe) := ⟨List.mem_of_getElem? (i := 869) (by decide +kernel), rfl⟩
theorem qC_yX8_safe : gW (.code yX8_safe cX8_safe 4 (some .int)) := ⟨List.mem_of_getElem? (i := 870) (by decide +kernel), rfl⟩
theorem qL_X8_82 : gW (.methodLink RX8 82 yX8_isWhole) := ⟨List.mem_of_getElem? (i := 871) (by decide +kernel), rfl⟩
theorem qI_yX8_isWhole : gW (.instanceMethod yX8_isWhole) := ⟨List.mem_of_getElem? (i := 873) (by decide +kernel), rfl⟩
theorem qC_yX8_isWhole : gW (.code yX8_isWhole cX8_isWhole 4 (some .boolean)) := ⟨List.mem_of_getElem? (i := 874) (by decide +kernel), rfl⟩
theorem qL_L_95 : gW (.methodLink RL 95 yX8_rows) := ⟨List.mem_of_getElem? (i := 875) (by decide +kernel), rfl⟩
theorem qI_yX8_rows : gW (.instanceMethod yX8_rows) := ⟨List.mem_of_getElem? (i := 876) (by decide +kernel), rfl⟩
theorem qS_yX8_rows : gW (.selects RX8 yX8_rows yX8_rows) := ⟨List.mem_of_getElem? (i := 877) (by decide +kernel), rfl⟩
theorem qC_yX8_rows : gW (.code yX8_rows cX8_rows 5 (some .int)) := ⟨List.mem_of_getElem? (i := 878) (by decide +kernel), rfl⟩
theorem qL_L_98 : gW (.methodLink RL 98 yX8_setFog) := ⟨List.mem_of_getElem? (i := 879) (by decide +kernel), rfl⟩
theorem qI_yX8_setFog : gW (.instanceMethod yX8_setFog) := ⟨List.mem_of_getElem? (i := 880) (by decide +kernel), rfl⟩
theorem qS_yX8_setFog : gW (.selects RX8 yX8_setFog yX8_setFog) := ⟨List.mem_of_getElem? (i := 881) (by decide +kernel), rfl⟩
theorem qC_yX8_setFog : gW (.code yX8_setFog cX8_setFog 4 (some .int)) := ⟨List.mem_of_getElem? (i := 882) (by decide +kernel), rfl⟩
theorem qL_L_101 : gW (.methodLink RL 101 yX8_rebuild) := ⟨List.mem_of_getElem? (i := 883) (by decide +kernel), rfl⟩
theorem qI_yX8_rebuild : gW (.instanceMethod yX8_rebuild) := ⟨List.mem_of_getElem? (i := 884) (by decide +kernel), rfl⟩
theorem qS_yX8_rebuild : gW (.selects RX8 yX8_rebuild yX8_rebuild) := ⟨List.mem_of_getElem? (i := 885) (by decide +kernel), rfl⟩
theorem qC_yX8_rebuild : gW (.code yX8_rebuild cX8_rebuild 4 (some .int)) := ⟨List.mem_of_getElem? (i := 886) (by decide +kernel), rfl⟩
theorem qL_X8_85 : gW (.methodLink RX8 85 yX7_how) := ⟨List.mem_of_getElem? (i := 887) (by decide +kernel), rfl⟩
theorem qI_yX7_how : gW (.instanceMethod yX7_how) := ⟨List.mem_of_getElem? (i := 888) (by decide +kernel), rfl⟩
theorem qS_yX7_how : gW (.selects RX7 yX7_how yX7_how) := ⟨List.mem_of_getElem? (i := 889) (by decide +kernel), rfl⟩
theorem qC_yX7_how : gW (.code yX7_how cX7_how 4 (some .int)) := ⟨List.mem_of_getElem? (i := 890) (by decide +kernel), rfl⟩
theorem qL_X7_52 : gW (.methodLink RX7 52 yX7_own) := ⟨List.mem_of_getElem? (i := 891) (by decide +kernel), rfl⟩
theorem qI_yX7_own : gW (.instanceMethod yX7_own) := ⟨List.mem_of_getElem? (i := 893) (by decide +kernel), rfl⟩
theorem qC_yX7_own : gW (.code yX7_own cX7_own 3 (some .int)) := ⟨List.mem_of_getElem? (i := 894) (by decide +kernel), rfl⟩
theorem qL_L_104 : gW (.methodLink RL 104 yX8_setToll) := ⟨List.mem_of_getElem? (i := 895) (by decide +kernel), rfl⟩
theorem qI_yX8_setToll : gW (.instanceMethod yX8_setToll) := ⟨List.mem_of_getElem? (i := 896) (by decide +kernel), rfl⟩
theorem qS_yX8_setToll : gW (.selects RX8 yX8_setToll yX8_setToll) := ⟨List.mem_of_getElem? (i := 897) (by decide +kernel), rfl⟩
theorem qC_yX8_setToll : gW (.code yX8_setToll cX8_setToll 4 (some .int)) := ⟨List.mem_of_getElem? (i := 898) (by decide +kernel), rfl⟩
theorem qL_L_108 : gW (.methodLink RL 108 yX8_change) := ⟨List.mem_of_getElem? (i := 899) (by decide +kernel), rfl⟩
theorem qI_yX8_change : gW (.instanceMethod yX8_change) := ⟨List.mem_of_getElem? (i := 900) (by decide +kernel), rfl⟩
theorem qS_yX8_change : gW (.selects RX8 yX8_change yX8_change) := ⟨List.mem_of_getElem? (i := 901) (by decide +kernel), rfl⟩
theorem qC_yX8_change : gW (.code yX8_change cX8_change 1 (some .int)) := ⟨List.mem_of_getElem? (i := 902) (by decide +kernel), rfl⟩
theorem qL_L_112 : gW (.methodLink RL 112 yX8_come) := ⟨List.mem_of_getElem? (i := 903) (by decide +kernel), rfl⟩
theorem qI_yX8_come : gW (.instanceMethod yX8_come) := ⟨List.mem_of_getElem? (i := 904) (by decide +kernel), rfl⟩
theorem qS_yX8_come : gW (.selects RX8 yX8_come yX8_come) := ⟨List.mem_of_getElem? (i := 905) (by decide +kernel), rfl⟩
theorem qC_yX8_come : gW (.code yX8_come cX8_come 8 (some .int)) := ⟨List.mem_of_getElem? (i := 906) (by decide +kernel), rfl⟩
theorem qL_X8_97 : gW (.methodLink RX8 97 arraycopyName) := ⟨List.mem_of_getElem? (i := 907) (by decide +kernel), rfl⟩
theorem qT_arraycopyName : gW (.static arraycopyName) := ⟨List.mem_of_getElem? (i := 908) (by decide +kernel), rfl⟩
theorem qNa_arraycopyName : gW (.native arraycopyName) := ⟨List.mem_of_getElem? (i := 909) (by decide +kernel), rfl⟩
theorem qL_X8_106 : gW (.methodLink RX8 106 yX7_line) := ⟨List.mem_of_getElem? (i := 910) (by decide +kernel), rfl⟩
theorem qI_yX7_line : gW (.instanceMethod yX7_line) := ⟨List.mem_of_getElem? (i := 911) (by decide +kernel), rfl⟩
theorem qS_yX7_line : gW (.selects RX7 yX7_line yX7_line) := ⟨List.mem_of_getElem? (i := 912) (by decide +kernel), rfl⟩
theorem qC_yX7_line : gW (.code yX7_line cX7_line 5 none) := ⟨List.mem_of_getElem? (i := 913) (by decide +kernel), rfl⟩
theorem qL_X7_28 : gW (.methodLink RX7 28 arraycopyName) := ⟨List.mem_of_getElem? (i := 914) (by decide +kernel), rfl⟩
theorem qL_X7_48 : gW (.methodLink RX7 48 yX7_set) := ⟨List.mem_of_getElem? (i := 915) (by decide +kernel), rfl⟩
theorem qI_yX7_set : gW (.instanceMethod yX7_set) := ⟨List.mem_of_getElem? (i := 917) (by decide +kernel), rfl⟩
theorem qC_yX7_set : gW (.code yX7_set cX7_set 4 none) := ⟨List.mem_of_getElem? (i := 918) (by decide +kernel), rfl⟩
theorem qL_L_115 : gW (.methodLink RL 115 yX8_cart) := ⟨List.mem_of_getElem? (i := 919) (by decide +kernel), rfl⟩
theorem qI_yX8_cart : gW (.instanceMethod yX8_cart) := ⟨List.mem_of_getElem? (i := 920) (by decide +kernel), rfl⟩
theorem qS_yX8_cart : gW (.selects RX8 yX8_cart yX8_cart) := ⟨List.mem_of_getElem? (i := 921) (by decide +kernel), rfl⟩
theorem qC_yX8_cart : gW (.code yX8_cart cX8_cart 3 (some .int)) := ⟨List.mem_of_getElem? (i := 922) (by decide +kernel), rfl⟩
theorem qL_X8_113 : gW (.methodLink RX8 113 yX8_isCart) := ⟨List.mem_of_getElem? (i := 923) (by decide +kernel), rfl⟩
theorem qI_yX8_isCart : gW (.instanceMethod yX8_isCart) := ⟨List.mem_of_getElem? (i := 925) (by decide +kernel), rfl⟩
theorem qC_yX8_isCart : gW (.code yX8_isCart cX8_isCart 2 (some .boolean)) := ⟨List.mem_of_getElem? (i := 926) (by decide +kernel), rfl⟩
theorem qL_X8_116 : gW (.methodLink RX8 116 yX8_cartTold) := ⟨List.mem_of_getElem? (i := 927) (by decide +kernel), rfl⟩
theorem qI_yX8_cartTold : gW (.instanceMethod yX8_cartTold) := ⟨List.mem_of_getElem? (i := 929) (by decide +kernel), rfl⟩
theorem qC_yX8_cartTold : gW (.code yX8_cartTold cX8_cartTold 3 (some .int)) := ⟨List.mem_of_getElem? (i := 930) (by decide +kernel), rfl⟩
theorem qMN_X8_110 : gW (.methodLinkNest RX8 110 yX7_own "FogBridgeModel") := ⟨List.mem_of_getElem? (i := 931) (by decide +kernel), rfl⟩
theorem qL_L_118 : gW (.methodLink RL 118 yX8_queue) := ⟨List.mem_of_getElem? (i := 932) (by decide +kernel), rfl⟩
theorem qI_yX8_queue : gW (.instanceMethod yX8_queue) := ⟨List.mem_of_getElem? (i := 933) (by decide +kernel), rfl⟩
theorem qS_yX8_queue : gW (.selects RX8 yX8_queue yX8_queue) := ⟨List.mem_of_getElem? (i := 934) (by decide +kernel), rfl⟩
theorem qC_yX8_queue : gW (.code yX8_queue cX8_queue 3 (some .int)) := ⟨List.mem_of_getElem? (i := 935) (by decide +kernel), rfl⟩
theorem qL_L_121 : gW (.methodLink RL 121 yX8_box) := ⟨List.mem_of_getElem? (i := 936) (by decide +kernel), rfl⟩
theorem qI_yX8_box : gW (.instanceMethod yX8_box) := ⟨List.mem_of_getElem? (i := 937) (by decide +kernel), rfl⟩
theorem qS_yX8_box : gW (.selects RX8 yX8_box yX8_box) := ⟨List.mem_of_getElem? (i := 938) (by decide +kernel), rfl⟩
theorem qC_yX8_box : gW (.code yX8_box cX8_box 3 (some .int)) := ⟨List.mem_of_getElem? (i := 939) (by decide +kernel), rfl⟩
theorem qL_L_124 : gW (.methodLink RL 124 yX8_empty) := ⟨List.mem_of_getElem? (i := 940) (by decide +kernel), rfl⟩
theorem qI_yX8_empty : gW (.instanceMethod yX8_empty) := ⟨List.mem_of_getElem? (i := 941) (by decide +kernel), rfl⟩
theorem qS_yX8_empty : gW (.selects RX8 yX8_empty yX8_empty) := ⟨List.mem_of_getElem? (i := 942) (by decide +kernel), rfl⟩
theorem qC_yX8_empty : gW (.code yX8_empty cX8_empty 3 (some .int)) := ⟨List.mem_of_getElem? (i := 943) (by decide +kernel), rfl⟩
theorem qL_L_127 : gW (.methodLink RL 127 yX8_pass) := ⟨List.mem_of_getElem? (i := 944) (by decide +kernel), rfl⟩
theorem qI_yX8_pass : gW (.instanceMethod yX8_pass) := ⟨List.mem_of_getElem? (i := 945) (by decide +kernel), rfl⟩
theorem qS_yX8_pass : gW (.selects RX8 yX8_pass yX8_pass) := ⟨List.mem_of_getElem? (i := 946) (by decide +kernel), rfl⟩
theorem qC_yX8_pass : gW (.code yX8_pass cX8_pass 4 (some .int)) := ⟨List.mem_of_getElem? (i := 947) (by decide +kernel), rfl⟩
theorem qL_X8_122 : gW (.methodLink RX8 122 yX7_pass) := ⟨List.mem_of_getElem? (i := 948) (by decide +kernel), rfl⟩
theorem qI_yX7_pass : gW (.instanceMethod yX7_pass) := ⟨List.mem_of_getElem? (i := 949) (by decide +kernel), rfl⟩
theorem qS_yX7_pass : gW (.selects RX7 yX7_pass yX7_pass) := ⟨List.mem_of_getElem? (i := 950) (by decide +kernel), rfl⟩
theorem qC_yX7_pass : gW (.code yX7_pass cX7_pass 4 (some .int)) := ⟨List.mem_of_getElem? (i := 951) (by decide +kernel), rfl⟩
theorem qL_X7_87 : gW (.methodLink RX7 87 yX7_how) := ⟨List.mem_of_getElem? (i := 952) (by decide +kernel), rfl⟩
theorem qL_X7_90 : gW (.methodLink RX7 90 yX7_move) := ⟨List.mem_of_getElem? (i := 953) (by decide +kernel), rfl⟩
theorem qI_yX7_move : gW (.instanceMethod yX7_move) := ⟨List.mem_of_getElem? (i := 955) (by decide +kernel), rfl⟩
theorem qC_yX7_move : gW (.code yX7_move cX7_move 6 none) := ⟨List.mem_of_getElem? (i := 956) (by decide +kernel), rfl⟩
theorem qL_X7_62 : gW (.methodLink RX7 62 yX7_leave) := ⟨List.mem_of_getElem? (i := 957) (by decide +kernel), rfl⟩
theorem qI_yX7_leave : gW (.instanceMethod yX7_leave) := ⟨List.mem_of_getElem? (i := 959) (by decide +kernel), rfl⟩
theorem qC_yX7_leave : gW (.code yX7_leave cX7_leave 2 none) := ⟨List.mem_of_getElem? (i := 960) (by decide +kernel), rfl⟩
theorem qL_X7_56 : gW (.methodLink RX7 56 yX7_line) := ⟨List.mem_of_getElem? (i := 961) (by decide +kernel), rfl⟩
theorem qL_X7_93 : gW (.methodLink RX7 93 yX7_comeOn) := ⟨List.mem_of_getElem? (i := 962) (by decide +kernel), rfl⟩
theorem qI_yX7_comeOn : gW (.instanceMethod yX7_comeOn) := ⟨List.mem_of_getElem? (i := 964) (by decide +kernel), rfl⟩
theorem qC_yX7_comeOn : gW (.code yX7_comeOn cX7_comeOn 5 none) := ⟨List.mem_of_getElem? (i := 965) (by decide +kernel), rfl⟩
theorem qL_X7_66 : gW (.methodLink RX7 66 yX7_isBack) := ⟨List.mem_of_getElem? (i := 966) (by decide +kernel), rfl⟩
theorem qI_yX7_isBack : gW (.instanceMethod yX7_isBack) := ⟨List.mem_of_getElem? (i := 968) (by decide +kernel), rfl⟩
theorem qC_yX7_isBack : gW (.code yX7_isBack cX7_isBack 3 (some .boolean)) := ⟨List.mem_of_getElem? (i := 969) (by decide +kernel), rfl⟩
theorem qL_X7_70 : gW (.methodLink RX7 70 yX7_weight) := ⟨List.mem_of_getElem? (i := 970) (by decide +kernel), rfl⟩
theorem qI_yX7_weight : gW (.instanceMethod yX7_weight) := ⟨List.mem_of_getElem? (i := 971) (by decide +kernel), rfl⟩
theorem qS_yX7_weight : gW (.selects RX7 yX7_weight yX7_weight) := ⟨List.mem_of_getElem? (i := 972) (by decide +kernel), rfl⟩
theorem qC_yX7_weight : gW (.code yX7_weight cX7_weight 3 (some .int)) := ⟨List.mem_of_getElem? (i := 973) (by decide +kernel), rfl⟩
theorem qL_X7_77 : gW (.methodLink RX7 77 yX7_first) := ⟨List.mem_of_getElem? (i := 974) (by decide +kernel), rfl⟩
theorem qI_yX7_first : gW (.instanceMethod yX7_first) := ⟨List.mem_of_getElem? (i := 976) (by decide +kernel), rfl⟩
theorem qC_yX7_first : gW (.code yX7_first cX7_first 3 (some .int)) := ⟨List.mem_of_getElem? (i := 977) (by decide +kernel), rfl⟩
theorem qL_L_130 : gW (.methodLink RL 130 yX8_count) := ⟨List.mem_of_getElem? (i := 978) (by decide +kernel), rfl⟩
theorem qI_yX8_count : gW (.instanceMethod yX8_count) := ⟨List.mem_of_getElem? (i := 979) (by decide +kernel), rfl⟩
theorem qS_yX8_count : gW (.selects RX8 yX8_count yX8_count) := ⟨List.mem_of_getElem? (i := 980) (by decide +kernel), rfl⟩
theorem qC_yX8_count : gW (.code yX8_count cX8_count 2 (some .int)) := ⟨List.mem_of_getElem? (i := 981) (by decide +kernel), rfl⟩
theorem qL_X8_129 : gW (.methodLink RX8 129 yX8_counted) := ⟨List.mem_of_getElem? (i := 982) (by decide +kernel), rfl⟩
theorem qI_yX8_counted : gW (.instanceMethod yX8_counted) := ⟨List.mem_of_getElem? (i := 984) (by decide +kernel), rfl⟩
theorem qC_yX8_counted : gW (.code yX8_counted cX8_counted 3 (some .int)) := ⟨List.mem_of_getElem? (i := 985) (by decide +kernel), rfl⟩
theorem qL_X8_126 : gW (.methodLink RX8 126 yX7_weight) := ⟨List.mem_of_getElem? (i := 986) (by decide +kernel), rfl⟩
theorem qL_L_133 : gW (.methodLink RL 133 yX8_over) := ⟨List.mem_of_getElem? (i := 987) (by decide +kernel), rfl⟩
theorem qI_yX8_over : gW (.instanceMethod yX8_over) := ⟨List.mem_of_getElem? (i := 988) (by decide +kernel), rfl⟩
theorem qS_yX8_over : gW (.selects RX8 yX8_over yX8_over) := ⟨List.mem_of_getElem? (i := 989) (by decide +kernel), rfl⟩
theorem qC_yX8_over : gW (.code yX8_over cX8_over 4 (some .int)) := ⟨List.mem_of_getElem? (i := 990) (by decide +kernel), rfl⟩
theorem qL_X8_132 : gW (.methodLink RX8 132 yX7_become) := ⟨List.mem_of_getElem? (i := 991) (by decide +kernel), rfl⟩
theorem qI_yX7_become : gW (.instanceMethod yX7_become) := ⟨List.mem_of_getElem? (i := 992) (by decide +kernel), rfl⟩
theorem qS_yX7_become : gW (.selects RX7 yX7_become yX7_become) := ⟨List.mem_of_getElem? (i := 993) (by decide +kernel), rfl⟩
theorem qC_yX7_become : gW (.code yX7_become cX7_become 2 none) := ⟨List.mem_of_getElem? (i := 994) (by decide +kernel), rfl⟩
theorem qL_X7_44 : gW (.methodLink RX7 44 yX7_copy) := ⟨List.mem_of_getElem? (i := 995) (by decide +kernel), rfl⟩
theorem qI_yX7_copy : gW (.instanceMethod yX7_copy) := ⟨List.mem_of_getElem? (i := 997) (by decide +kernel), rfl⟩
theorem qC_yX7_copy : gW (.code yX7_copy cX7_copy 3 none) := ⟨List.mem_of_getElem? (i := 998) (by decide +kernel), rfl⟩
theorem qL_L_137 : gW (.methodLink RL 137 yX8_keep) := ⟨List.mem_of_getElem? (i := 999) (by decide +kernel), rfl⟩
theorem qI_yX8_keep : gW (.instanceMethod yX8_keep) := ⟨List.mem_of_getElem? (i := 1000) (by decide +kernel), rfl⟩
theorem qS_yX8_keep : gW (.selects RX8 yX8_keep yX8_keep) := ⟨List.mem_of_getElem? (i := 1001) (by decide +kernel), rfl⟩
theorem qC_yX8_keep : gW (.code yX8_keep cX8_keep 5 (some .int)) := ⟨List.mem_of_getElem? (i := 1002) (by decide +kernel), rfl⟩
theorem qL_X8_136 : gW (.methodLink RX8 136 yX8_overBy) := ⟨List.mem_of_getElem? (i := 1003) (by decide +kernel), rfl⟩
theorem qI_yX8_overBy : gW (.instanceMethod yX8_overBy) := ⟨List.mem_of_getElem? (i := 1005) (by decide +kernel), rfl⟩
theorem qC_yX8_overBy : gW (.code yX8_overBy cX8_overBy 3 (some .int)) := ⟨List.mem_of_getElem? (i := 1006) (by decide +kernel), rfl⟩
theorem qL_L_140 : gW (.methodLink RL 140 yX8_foresee) := ⟨List.mem_of_getElem? (i := 1007) (by decide +kernel), rfl⟩
theorem qI_yX8_foresee : gW (.instanceMethod yX8_foresee) := ⟨List.mem_of_getElem? (i := 1008) (by decide +kernel), rfl⟩
theorem qS_yX8_foresee : gW (.selects RX8 yX8_foresee yX8_foresee) := ⟨List.mem_of_getElem? (i := 1009) (by decide +kernel), rfl⟩
theorem qC_yX8_foresee : gW (.code yX8_foresee cX8_foresee 4 (some .int)) := ⟨List.mem_of_getElem? (i := 1010) (by decide +kernel), rfl⟩
theorem qL_L_145 : gW (.methodLink RL 145 yX8_mean) := ⟨List.mem_of_getElem? (i := 1011) (by decide +kernel), rfl⟩
theorem qI_yX8_mean : gW (.instanceMethod yX8_mean) := ⟨List.mem_of_getElem? (i := 1012) (by decide +kernel), rfl⟩
theorem qS_yX8_mean : gW (.selects RX8 yX8_mean yX8_mean) := ⟨List.mem_of_getElem? (i := 1013) (by decide +kernel), rfl⟩
theorem qC_yX8_mean : gW (.code yX8_mean cX8_mean 4 (some .double)) := ⟨List.mem_of_getElem? (i := 1014) (by decide +kernel), rfl⟩
theorem qL_L_150 : gW (.methodLink RL 150 yX8_digest) := ⟨List.mem_of_getElem? (i := 1015) (by decide +kernel), rfl⟩
theorem qI_yX8_digest : gW (.instanceMethod yX8_digest) := ⟨List.mem_of_getElem? (i := 1016) (by decide +kernel), rfl⟩
theorem qS_yX8_digest : gW (.selects RX8 yX8_digest yX8_digest) := ⟨List.mem_of_getElem? (i := 1017) (by decide +kernel), rfl⟩
theorem qC_yX8_digest : gW (.code yX8_digest cX8_digest 5 (some .long)) := ⟨List.mem_of_getElem? (i := 1018) (by decide +kernel), rfl⟩
theorem qK_X8_139 : gW (.constantLong RX8 139 (683)) := ⟨List.mem_of_getElem? (i := 1019) (by decide +kernel), rfl⟩
theorem qK_X8_141 : gW (.constantLong RX8 141 (31)) := ⟨List.mem_of_getElem? (i := 1020) (by decide +kernel), rfl⟩
theorem qA_long : gW (.arrayClass .long) := ⟨List.mem_of_getElem? (i := 1021) (by decide +kernel), rfl⟩
theorem qCm_min : gW (.code Lib.Math.min.name Lib.Math.min.code 2 (some .int)) := ⟨List.mem_of_getElem? (i := 300) (by decide +kernel), rfl⟩
theorem qTm_min : gW (.static Lib.Math.min.name) := ⟨List.mem_of_getElem? (i := 299) (by decide +kernel), rfl⟩
theorem qCm_max : gW (.code Lib.Math.max.name Lib.Math.max.code 2 (some .int)) := ⟨List.mem_of_getElem? (i := 311) (by decide +kernel), rfl⟩
theorem qTm_max : gW (.static Lib.Math.max.name) := ⟨List.mem_of_getElem? (i := 310) (by decide +kernel), rfl⟩
theorem qNm_math : gW (.initialized "java/lang/Math") := ⟨List.mem_of_getElem? (i := 48) (by decide +kernel), rfl⟩
end
section
theorem dX0_init_0 : decode cX0_init 0 = .ok (.aload_n 0, 1) := by decide +kernel
theorem dX0_init_1 : decode cX0_init 1 = .ok (.invokespecial 3, 3) := by decide +kernel
theorem dX0_init_4 : decode cX0_init 4 = .ok (.aload_n 0, 1) := by decide +kernel
theorem dX0_init_5 : decode cX0_init 5 = .ok (.bipush 10, 2) := by decide +kernel
theorem dX0_init_7 : decode cX0_init 7 = .ok (.putfield 9, 3) := by decide +kernel
theorem dX0_init_10 : decode cX0_init 10 = .ok (.aload_n 0, 1) := by decide +kernel
theorem dX0_init_11 : decode cX0_init 11 = .ok (.sipush 200, 3) := by decide +kernel
theorem dX0_init_14 : decode cX0_init 14 = .ok (.putfield 15, 3) := by decide +kernel
theorem dX0_init_17 : decode cX0_init 17 = .ok (.aload_n 0, 1) := by decide +kernel
theorem dX0_init_18 : decode cX0_init 18 = .ok (.iconst 1, 1) := by decide +kernel
theorem dX0_init_19 : decode cX0_init 19 = .ok (.putfield 18, 3) := by decide +kernel
theorem dX0_init_22 : decode cX0_init 22 = .ok (.aload_n 0, 1) := by decide +kernel
theorem dX0_init_23 : decode cX0_init 23 = .ok (.iconst 1, 1) := by decide +kernel
theorem dX0_init_24 : decode cX0_init 24 = .ok (.putfield 21, 3) := by decide +kernel
theorem dX0_init_27 : decode cX0_init 27 = .ok (.aload_n 0, 1) := by decide +kernel
theorem dX0_init_28 : decode cX0_init 28 = .ok (.bipush 16, 2) := by decide +kernel
theorem dX0_init_30 : decode cX0_init 30 = .ok (.anewarray 24, 3) := by decide +kernel
theorem dX0_init_33 : decode cX0_init 33 = .ok (.putfield 26, 3) := by decide +kernel
theorem dX0_init_36 : decode cX0_init 36 = .ok (.aload_n 0, 1) := by decide +kernel
theorem dX0_init_37 : decode cX0_init 37 = .ok (.new 30, 3) := by decide +kernel
theorem dX0_init_40 : decode cX0_init 40 = .ok (.dup, 1) := by decide +kernel
theorem dX0_init_41 : decode cX0_init 41 = .ok (.invokespecial 32, 3) := by decide +kernel
theorem dX0_init_44 : decode cX0_init 44 = .ok (.putfield 33, 3) := by decide +kernel
theorem dX0_init_47 : decode cX0_init 47 = .ok (.aload_n 0, 1) := by decide +kernel
theorem dX0_init_48 : decode cX0_init 48 = .ok (.new 30, 3) := by decide +kernel
theorem dX0_init_51 : decode cX0_init 51 = .ok (.dup, 1) := by decide +kernel
theorem dX0_init_52 : decode cX0_init 52 = .ok (.invokespecial 32, 3) := by decide +kernel
theorem dX0_init_55 : decode cX0_init 55 = .ok (.putfield 37, 3) := by decide +kernel
theorem dX0_init_58 : decode cX0_init 58 = .ok (.aload_n 0, 1) := by decide +kernel
theorem dX0_init_59 : decode cX0_init 59 = .ok (.new 40, 3) := by decide +kernel
theorem dX0_init_62 : decode cX0_init 62 = .ok (.dup, 1) := by decide +kernel
theorem dX0_init_63 : decode cX0_init 63 = .ok (.invokespecial 42, 3) := by decide +kernel
theorem dX0_init_66 : decode cX0_init 66 = .ok (.putfield 43, 3) := by decide +kernel
theorem dX0_init_69 : decode cX0_init 69 = .ok (.iconst 0, 1) := by decide +kernel
theorem dX0_init_70 : decode cX0_init 70 = .ok (.istore_n 1, 1) := by decide +kernel
theorem dX0_init_71 : decode cX0_init 71 = .ok (.iload_n 1, 1) := by decide +kernel
theorem dX0_init_72 : decode cX0_init 72 = .ok (.aload_n 0, 1) := by decide +kernel
theorem dX0_init_73 : decode cX0_init 73 = .ok (.getfield 26, 3) := by decide +kernel
theorem dX0_init_76 : decode cX0_init 76 = .ok (.arraylength, 1) := by decide +kernel
theorem dX0_init_77 : decode cX0_init 77 = .ok (.if_icmp .ge 23, 3) := by decide +kernel
theorem dX0_init_80 : decode cX0_init 80 = .ok (.aload_n 0, 1) := by decide +kernel
theorem dX0_init_81 : decode cX0_init 81 = .ok (.getfield 26, 3) := by decide +kernel
theorem dX0_init_84 : decode cX0_init 84 = .ok (.iload_n 1, 1) := by decide +kernel
theorem dX0_init_85 : decode cX0_init 85 = .ok (.new 24, 3) := by decide +kernel
theorem dX0_init_88 : decode cX0_init 88 = .ok (.dup, 1) := by decide +kernel
theorem dX0_init_89 : decode cX0_init 89 = .ok (.iload_n 1, 1) := by decide +kernel
theorem dX0_init_90 : decode cX0_init 90 = .ok (.invokespecial 47, 3) := by decide +kernel
theorem dX0_init_93 : decode cX0_init 93 = .ok (.aastore, 1) := by decide +kernel
theorem dX0_init_94 : decode cX0_init 94 = .ok (.iinc 1 1, 3) := by decide +kernel
theorem dX0_init_97 : decode cX0_init 97 = .ok (.goto (-26), 3) := by decide +kernel
theorem dX0_init_100 : decode cX0_init 100 = .ok (.return_, 1) := by decide +kernel
theorem dX0_gateAt_0 : decode cX0_gateAt 0 = .ok (.iload_n 1, 1) := by decide +kernel
theorem dX0_gateAt_1 : decode cX0_gateAt 1 = .ok (.ifCond .ne 10, 3) := by decide +kernel
theorem dX0_gateAt_4 : decode cX0_gateAt 4 = .ok (.aload_n 0, 1) := by decide +kernel
theorem dX0_gateAt_5 : decode cX0_gateAt 5 = .ok (.getfield 33, 3) := by decide +kernel
theorem dX0_gateAt_8 : decode cX0_gateAt 8 = .ok (.goto 7, 3) := by decide +kernel
theorem dX0_gateAt_11 : decode cX0_gateAt 11 = .ok (.aload_n 0, 1) := by decide +kernel
theorem dX0_gateAt_12 : decode cX0_gateAt 12 = .ok (.getfield 37, 3) := by decide +kernel
theorem dX0_gateAt_15 : decode cX0_gateAt 15 = .ok (.areturn, 1) := by decide +kernel
theorem dX0_cartAt_0 : decode cX0_cartAt 0 = .ok (.iload_n 1, 1) := by decide +kernel
theorem dX0_cartAt_1 : decode cX0_cartAt 1 = .ok (.aload_n 0, 1) := by decide +kernel
theorem dX0_cartAt_2 : decode cX0_cartAt 2 = .ok (.getfield 50, 3) := by decide +kernel
theorem dX0_cartAt_5 : decode cX0_cartAt 5 = .ok (.if_icmp .ge 24, 3) := by decide +kernel
theorem dX0_cartAt_8 : decode cX0_cartAt 8 = .ok (.iload_n 1, 1) := by decide +kernel
theorem dX0_cartAt_9 : decode cX0_cartAt 9 = .ok (.aload_n 0, 1) := by decide +kernel
theorem dX0_cartAt_10 : decode cX0_cartAt 10 = .ok (.getfield 26, 3) := by decide +kernel
theorem dX0_cartAt_13 : decode cX0_cartAt 13 = .ok (.arraylength, 1) := by decide +kernel
theorem dX0_cartAt_14 : decode cX0_cartAt 14 = .ok (.invokestatic 53, 3) := by decide +kernel
theorem dX0_cartAt_17 : decode cX0_cartAt 17 = .ok (.ifCond .eq 12, 3) := by decide +kernel
theorem dX0_cartAt_20 : decode cX0_cartAt 20 = .ok (.aload_n 0, 1) := by decide +kernel
theorem dX0_cartAt_21 : decode cX0_cartAt 21 = .ok (.getfield 26, 3) := by decide +kernel
theorem dX0_cartAt_24 : decode cX0_cartAt 24 = .ok (.iload_n 1, 1) := by decide +kernel
theorem dX0_cartAt_25 : decode cX0_cartAt 25 = .ok (.aaload, 1) := by decide +kernel
theorem dX0_cartAt_26 : decode cX0_cartAt 26 = .ok (.goto 4, 3) := by decide +kernel
theorem dX0_cartAt_29 : decode cX0_cartAt 29 = .ok (.aconst_null, 1) := by decide +kernel
theorem dX0_cartAt_30 : decode cX0_cartAt 30 = .ok (.areturn, 1) := by decide +kernel
theorem dX0_newCart_0 : decode cX0_newCart 0 = .ok (.aload_n 0, 1) := by decide +kernel
theorem dX0_newCart_1 : decode cX0_newCart 1 = .ok (.getfield 50, 3) := by decide +kernel
theorem dX0_newCart_4 : decode cX0_newCart 4 = .ok (.aload_n 0, 1) := by decide +kernel
theorem dX0_newCart_5 : decode cX0_newCart 5 = .ok (.getfield 26, 3) := by decide +kernel
theorem dX0_newCart_8 : decode cX0_newCart 8 = .ok (.arraylength, 1) := by decide +kernel
theorem dX0_newCart_9 : decode cX0_newCart 9 = .ok (.if_icmp .lt 5, 3) := by decide +kernel
theorem dX0_newCart_12 : decode cX0_newCart 12 = .ok (.aconst_null, 1) := by decide +kernel
theorem dX0_newCart_13 : decode cX0_newCart 13 = .ok (.areturn, 1) := by decide +kernel
theorem dX0_newCart_14 : decode cX0_newCart 14 = .ok (.aload_n 0, 1) := by decide +kernel
theorem dX0_newCart_15 : decode cX0_newCart 15 = .ok (.dup, 1) := by decide +kernel
theorem dX0_newCart_16 : decode cX0_newCart 16 = .ok (.getfield 50, 3) := by decide +kernel
theorem dX0_newCart_19 : decode cX0_newCart 19 = .ok (.iconst 1, 1) := by decide +kernel
theorem dX0_newCart_20 : decode cX0_newCart 20 = .ok (.iadd, 1) := by decide +kernel
theorem dX0_newCart_21 : decode cX0_newCart 21 = .ok (.putfield 50, 3) := by decide +kernel
theorem dX0_newCart_24 : decode cX0_newCart 24 = .ok (.aload_n 0, 1) := by decide +kernel
theorem dX0_newCart_25 : decode cX0_newCart 25 = .ok (.aload_n 0, 1) := by decide +kernel
theorem dX0_newCart_26 : decode cX0_newCart 26 = .ok (.getfield 50, 3) := by decide +kernel
theorem dX0_newCart_29 : decode cX0_newCart 29 = .ok (.iconst 1, 1) := by decide +kernel
theorem dX0_newCart_30 : decode cX0_newCart 30 = .ok (.isub, 1) := by decide +kernel
theorem dX0_newCart_31 : decode cX0_newCart 31 = .ok (.invokevirtual 57, 3) := by decide +kernel
theorem dX0_newCart_34 : decode cX0_newCart 34 = .ok (.areturn, 1) := by decide +kernel
theorem dX0_turn_0 : decode cX0_turn 0 = .ok (.aload_n 0, 1) := by decide +kernel
theorem dX0_turn_1 : decode cX0_turn 1 = .ok (.iconst 1, 1) := by decide +kernel
theorem dX0_turn_2 : decode cX0_turn 2 = .ok (.aload_n 0, 1) := by decide +kernel
theorem dX0_turn_3 : decode cX0_turn 3 = .ok (.getfield 61, 3) := by decide +kernel
theorem dX0_turn_6 : decode cX0_turn 6 = .ok (.isub, 1) := by decide +kernel
theorem dX0_turn_7 : decode cX0_turn 7 = .ok (.putfield 61, 3) := by decide +kernel
theorem dX0_turn_10 : decode cX0_turn 10 = .ok (.return_, 1) := by decide +kernel
theorem dX0_run_0 : decode cX0_run 0 = .ok (.iconst 0, 1) := by decide +kernel
theorem dX0_run_1 : decode cX0_run 1 = .ok (.istore_n 2, 1) := by decide +kernel
theorem dX0_run_2 : decode cX0_run 2 = .ok (.iconst 0, 1) := by decide +kernel
theorem dX0_run_3 : decode cX0_run 3 = .ok (.istore_n 3, 1) := by decide +kernel
theorem dX0_run_4 : decode cX0_run 4 = .ok (.iload_n 3, 1) := by decide +kernel
theorem dX0_run_5 : decode cX0_run 5 = .ok (.iload_n 1, 1) := by decide +kernel
theorem dX0_run_6 : decode cX0_run 6 = .ok (.if_icmp .ge 30, 3) := by decide +kernel
theorem dX0_run_9 : decode cX0_run 9 = .ok (.iload_n 2, 1) := by decide +kernel
theorem dX0_run_10 : decode cX0_run 10 = .ok (.aload_n 0, 1) := by decide +kernel
theorem dX0_run_11 : decode cX0_run 11 = .ok (.invokevirtual 64, 3) := by decide +kernel
theorem dX0_run_14 : decode cX0_run 14 = .ok (.iadd, 1) := by decide +kernel
theorem dX0_run_15 : decode cX0_run 15 = .ok (.istore_n 2, 1) := by decide +kernel
theorem dX0_run_16 : decode cX0_run 16 = .ok (.aload_n 0, 1) := by decide +kernel
theorem dX0_run_17 : decode cX0_run 17 = .ok (.invokevirtual 68, 3) := by decide +kernel
theorem dX0_run_20 : decode cX0_run 20 = .ok (.aload_n 0, 1) := by decide +kernel
theorem dX0_run_21 : decode cX0_run 21 = .ok (.dup, 1) := by decide +kernel
theorem dX0_run_22 : decode cX0_run 22 = .ok (.getfield 71, 3) := by decide +kernel
theorem dX0_run_25 : decode cX0_run 25 = .ok (.iconst 1, 1) := by decide +kernel
theorem dX0_run_26 : decode cX0_run 26 = .ok (.iadd, 1) := by decide +kernel
theorem dX0_run_27 : decode cX0_run 27 = .ok (.putfield 71, 3) := by decide +kernel
theorem dX0_run_30 : decode cX0_run 30 = .ok (.iinc 3 1, 3) := by decide +kernel
theorem dX0_run_33 : decode cX0_run 33 = .ok (.goto (-29), 3) := by decide +kernel
theorem dX0_run_36 : decode cX0_run 36 = .ok (.iload_n 2, 1) := by decide +kernel
theorem dX0_run_37 : decode cX0_run 37 = .ok (.ireturn, 1) := by decide +kernel
theorem dX0_isOver_0 : decode cX0_isOver 0 = .ok (.aload_n 0, 1) := by decide +kernel
theorem dX0_isOver_1 : decode cX0_isOver 1 = .ok (.iload_n 1, 1) := by decide +kernel
theorem dX0_isOver_2 : decode cX0_isOver 2 = .ok (.invokevirtual 57, 3) := by decide +kernel
theorem dX0_isOver_5 : decode cX0_isOver 5 = .ok (.astore_n 2, 1) := by decide +kernel
theorem dX0_isOver_6 : decode cX0_isOver 6 = .ok (.aload_n 2, 1) := by decide +kernel
theorem dX0_isOver_7 : decode cX0_isOver 7 = .ok (.ifnull 15, 3) := by decide +kernel
theorem dX0_isOver_10 : decode cX0_isOver 10 = .ok (.aload_n 2, 1) := by decide +kernel
theorem dX0_isOver_11 : decode cX0_isOver 11 = .ok (.getfield 74, 3) := by decide +kernel
theorem dX0_isOver_14 : decode cX0_isOver 14 = .ok (.iconst 2, 1) := by decide +kernel
theorem dX0_isOver_15 : decode cX0_isOver 15 = .ok (.if_icmp .ne 7, 3) := by decide +kernel
theorem dX0_isOver_18 : decode cX0_isOver 18 = .ok (.iconst 1, 1) := by decide +kernel
theorem dX0_isOver_19 : decode cX0_isOver 19 = .ok (.goto 4, 3) := by decide +kernel
theorem dX0_isOver_22 : decode cX0_isOver 22 = .ok (.iconst 0, 1) := by decide +kernel
theorem dX0_isOver_23 : decode cX0_isOver 23 = .ok (.ireturn, 1) := by decide +kernel
theorem dX0_coinsInBoxes_0 : decode cX0_coinsInBoxes 0 = .ok (.aload_n 0, 1) := by decide +kernel
theorem dX0_coinsInBoxes_1 : decode cX0_coinsInBoxes 1 = .ok (.getfield 33, 3) := by decide +kernel
theorem dX0_coinsInBoxes_4 : decode cX0_coinsInBoxes 4 = .ok (.getfield 77, 3) := by decide +kernel
theorem dX0_coinsInBoxes_7 : decode cX0_coinsInBoxes 7 = .ok (.aload_n 0, 1) := by decide +kernel
theorem dX0_coinsInBoxes_8 : decode cX0_coinsInBoxes 8 = .ok (.getfield 37, 3) := by decide +kernel
theorem dX0_coinsInBoxes_11 : decode cX0_coinsInBoxes 11 = .ok (.getfield 77, 3) := by decide +kernel
theorem dX0_coinsInBoxes_14 : decode cX0_coinsInBoxes 14 = .ok (.iadd, 1) := by decide +kernel
theorem dX0_coinsInBoxes_15 : decode cX0_coinsInBoxes 15 = .ok (.ireturn, 1) := by decide +kernel
theorem dX0_cartsIn_0 : decode cX0_cartsIn 0 = .ok (.iconst 0, 1) := by decide +kernel
theorem dX0_cartsIn_1 : decode cX0_cartsIn 1 = .ok (.istore_n 2, 1) := by decide +kernel
theorem dX0_cartsIn_2 : decode cX0_cartsIn 2 = .ok (.iconst 0, 1) := by decide +kernel
theorem dX0_cartsIn_3 : decode cX0_cartsIn 3 = .ok (.istore_n 3, 1) := by decide +kernel
theorem dX0_cartsIn_4 : decode cX0_cartsIn 4 = .ok (.iload_n 3, 1) := by decide +kernel
theorem dX0_cartsIn_5 : decode cX0_cartsIn 5 = .ok (.aload_n 0, 1) := by decide +kernel
theorem dX0_cartsIn_6 : decode cX0_cartsIn 6 = .ok (.getfield 50, 3) := by decide +kernel
theorem dX0_cartsIn_9 : decode cX0_cartsIn 9 = .ok (.if_icmp .ge 33, 3) := by decide +kernel
theorem dX0_cartsIn_12 : decode cX0_cartsIn 12 = .ok (.aload_n 0, 1) := by decide +kernel
theorem dX0_cartsIn_13 : decode cX0_cartsIn 13 = .ok (.iload_n 3, 1) := by decide +kernel
theorem dX0_cartsIn_14 : decode cX0_cartsIn 14 = .ok (.invokevirtual 57, 3) := by decide +kernel
theorem dX0_cartsIn_17 : decode cX0_cartsIn 17 = .ok (.astore 4, 2) := by decide +kernel
theorem dX0_cartsIn_19 : decode cX0_cartsIn 19 = .ok (.aload 4, 2) := by decide +kernel
theorem dX0_cartsIn_21 : decode cX0_cartsIn 21 = .ok (.ifnull 15, 3) := by decide +kernel
theorem dX0_cartsIn_24 : decode cX0_cartsIn 24 = .ok (.aload 4, 2) := by decide +kernel
theorem dX0_cartsIn_26 : decode cX0_cartsIn 26 = .ok (.getfield 74, 3) := by decide +kernel
theorem dX0_cartsIn_29 : decode cX0_cartsIn 29 = .ok (.iload_n 1, 1) := by decide +kernel
theorem dX0_cartsIn_30 : decode cX0_cartsIn 30 = .ok (.if_icmp .ne 6, 3) := by decide +kernel
theorem dX0_cartsIn_33 : decode cX0_cartsIn 33 = .ok (.iinc 2 1, 3) := by decide +kernel
theorem dX0_cartsIn_36 : decode cX0_cartsIn 36 = .ok (.iinc 3 1, 3) := by decide +kernel
theorem dX0_cartsIn_39 : decode cX0_cartsIn 39 = .ok (.goto (-35), 3) := by decide +kernel
theorem dX0_cartsIn_42 : decode cX0_cartsIn 42 = .ok (.iload_n 2, 1) := by decide +kernel
theorem dX0_cartsIn_43 : decode cX0_cartsIn 43 = .ok (.ireturn, 1) := by decide +kernel
theorem dX0_weightOnBridge_0 : decode cX0_weightOnBridge 0 = .ok (.iconst 0, 1) := by decide +kernel
theorem dX0_weightOnBridge_1 : decode cX0_weightOnBridge 1 = .ok (.istore_n 1, 1) := by decide +kernel
theorem dX0_weightOnBridge_2 : decode cX0_weightOnBridge 2 = .ok (.iconst 0, 1) := by decide +kernel
theorem dX0_weightOnBridge_3 : decode cX0_weightOnBridge 3 = .ok (.istore_n 2, 1) := by decide +kernel
theorem dX0_weightOnBridge_4 : decode cX0_weightOnBridge 4 = .ok (.iload_n 2, 1) := by decide +kernel
theorem dX0_weightOnBridge_5 : decode cX0_weightOnBridge 5 = .ok (.aload_n 0, 1) := by decide +kernel
theorem dX0_weightOnBridge_6 : decode cX0_weightOnBridge 6 = .ok (.getfield 43, 3) := by decide +kernel
theorem dX0_weightOnBridge_9 : decode cX0_weightOnBridge 9 = .ok (.getfield 80, 3) := by decide +kernel
theorem dX0_weightOnBridge_12 : decode cX0_weightOnBridge 12 = .ok (.if_icmp .ge 33, 3) := by decide +kernel
theorem dX0_weightOnBridge_15 : decode cX0_weightOnBridge 15 = .ok (.aload_n 0, 1) := by decide +kernel
theorem dX0_weightOnBridge_16 : decode cX0_weightOnBridge 16 = .ok (.aload_n 0, 1) := by decide +kernel
theorem dX0_weightOnBridge_17 : decode cX0_weightOnBridge 17 = .ok (.getfield 43, 3) := by decide +kernel
theorem dX0_weightOnBridge_20 : decode cX0_weightOnBridge 20 = .ok (.iload_n 2, 1) := by decide +kernel
theorem dX0_weightOnBridge_21 : decode cX0_weightOnBridge 21 = .ok (.invokevirtual 83, 3) := by decide +kernel
theorem dX0_weightOnBridge_24 : decode cX0_weightOnBridge 24 = .ok (.invokevirtual 57, 3) := by decide +kernel
theorem dX0_weightOnBridge_27 : decode cX0_weightOnBridge 27 = .ok (.astore_n 3, 1) := by decide +kernel
theorem dX0_weightOnBridge_28 : decode cX0_weightOnBridge 28 = .ok (.aload_n 3, 1) := by decide +kernel
theorem dX0_weightOnBridge_29 : decode cX0_weightOnBridge 29 = .ok (.ifnull 10, 3) := by decide +kernel
theorem dX0_weightOnBridge_32 : decode cX0_weightOnBridge 32 = .ok (.iload_n 1, 1) := by decide +kernel
theorem dX0_weightOnBridge_33 : decode cX0_weightOnBridge 33 = .ok (.aload_n 3, 1) := by decide +kernel
theorem dX0_weightOnBridge_34 : decode cX0_weightOnBridge 34 = .ok (.getfield 87, 3) := by decide +kernel
theorem dX0_weightOnBridge_37 : decode cX0_weightOnBridge 37 = .ok (.iadd, 1) := by decide +kernel
theorem dX0_weightOnBridge_38 : decode cX0_weightOnBridge 38 = .ok (.istore_n 1, 1) := by decide +kernel
theorem dX0_weightOnBridge_39 : decode cX0_weightOnBridge 39 = .ok (.iinc 2 1, 3) := by decide +kernel
theorem dX0_weightOnBridge_42 : decode cX0_weightOnBridge 42 = .ok (.goto (-38), 3) := by decide +kernel
theorem dX0_weightOnBridge_45 : decode cX0_weightOnBridge 45 = .ok (.iload_n 1, 1) := by decide +kernel
theorem dX0_weightOnBridge_46 : decode cX0_weightOnBridge 46 = .ok (.ireturn, 1) := by decide +kernel
theorem dX0_meanOverTick_0 : decode cX0_meanOverTick 0 = .ok (.lconst 0, 1) := by decide +kernel
theorem dX0_meanOverTick_1 : decode cX0_meanOverTick 1 = .ok (.lstore_n 1, 1) := by decide +kernel
theorem dX0_meanOverTick_2 : decode cX0_meanOverTick 2 = .ok (.iconst 0, 1) := by decide +kernel
theorem dX0_meanOverTick_3 : decode cX0_meanOverTick 3 = .ok (.istore_n 3, 1) := by decide +kernel
theorem dX0_meanOverTick_4 : decode cX0_meanOverTick 4 = .ok (.iconst 0, 1) := by decide +kernel
theorem dX0_meanOverTick_5 : decode cX0_meanOverTick 5 = .ok (.istore 4, 2) := by decide +kernel
theorem dX0_meanOverTick_7 : decode cX0_meanOverTick 7 = .ok (.iload 4, 2) := by decide +kernel
theorem dX0_meanOverTick_9 : decode cX0_meanOverTick 9 = .ok (.aload_n 0, 1) := by decide +kernel
theorem dX0_meanOverTick_10 : decode cX0_meanOverTick 10 = .ok (.getfield 50, 3) := by decide +kernel
theorem dX0_meanOverTick_13 : decode cX0_meanOverTick 13 = .ok (.if_icmp .ge 43, 3) := by decide +kernel
theorem dX0_meanOverTick_16 : decode cX0_meanOverTick 16 = .ok (.aload_n 0, 1) := by decide +kernel
theorem dX0_meanOverTick_17 : decode cX0_meanOverTick 17 = .ok (.iload 4, 2) := by decide +kernel
theorem dX0_meanOverTick_19 : decode cX0_meanOverTick 19 = .ok (.invokevirtual 57, 3) := by decide +kernel
theorem dX0_meanOverTick_22 : decode cX0_meanOverTick 22 = .ok (.astore 5, 2) := by decide +kernel
theorem dX0_meanOverTick_24 : decode cX0_meanOverTick 24 = .ok (.aload 5, 2) := by decide +kernel
theorem dX0_meanOverTick_26 : decode cX0_meanOverTick 26 = .ok (.ifnull 24, 3) := by decide +kernel
theorem dX0_meanOverTick_29 : decode cX0_meanOverTick 29 = .ok (.aload 5, 2) := by decide +kernel
theorem dX0_meanOverTick_31 : decode cX0_meanOverTick 31 = .ok (.getfield 74, 3) := by decide +kernel
theorem dX0_meanOverTick_34 : decode cX0_meanOverTick 34 = .ok (.iconst 2, 1) := by decide +kernel
theorem dX0_meanOverTick_35 : decode cX0_meanOverTick 35 = .ok (.if_icmp .ne 15, 3) := by decide +kernel
theorem dX0_meanOverTick_38 : decode cX0_meanOverTick 38 = .ok (.lload_n 1, 1) := by decide +kernel
theorem dX0_meanOverTick_39 : decode cX0_meanOverTick 39 = .ok (.aload 5, 2) := by decide +kernel
theorem dX0_meanOverTick_41 : decode cX0_meanOverTick 41 = .ok (.getfield 90, 3) := by decide +kernel
theorem dX0_meanOverTick_44 : decode cX0_meanOverTick 44 = .ok (.i2l, 1) := by decide +kernel
theorem dX0_meanOverTick_45 : decode cX0_meanOverTick 45 = .ok (.ladd, 1) := by decide +kernel
theorem dX0_meanOverTick_46 : decode cX0_meanOverTick 46 = .ok (.lstore_n 1, 1) := by decide +kernel
theorem dX0_meanOverTick_47 : decode cX0_meanOverTick 47 = .ok (.iinc 3 1, 3) := by decide +kernel
theorem dX0_meanOverTick_50 : decode cX0_meanOverTick 50 = .ok (.iinc 4 1, 3) := by decide +kernel
theorem dX0_meanOverTick_53 : decode cX0_meanOverTick 53 = .ok (.goto (-46), 3) := by decide +kernel
theorem dX0_meanOverTick_56 : decode cX0_meanOverTick 56 = .ok (.iload_n 3, 1) := by decide +kernel
theorem dX0_meanOverTick_57 : decode cX0_meanOverTick 57 = .ok (.ifCond .ne 7, 3) := by decide +kernel
theorem dX0_meanOverTick_60 : decode cX0_meanOverTick 60 = .ok (.dconst 0, 1) := by decide +kernel
theorem dX0_meanOverTick_61 : decode cX0_meanOverTick 61 = .ok (.goto 8, 3) := by decide +kernel
theorem dX0_meanOverTick_64 : decode cX0_meanOverTick 64 = .ok (.lload_n 1, 1) := by decide +kernel
theorem dX0_meanOverTick_65 : decode cX0_meanOverTick 65 = .ok (.l2d, 1) := by decide +kernel
theorem dX0_meanOverTick_66 : decode cX0_meanOverTick 66 = .ok (.iload_n 3, 1) := by decide +kernel
theorem dX0_meanOverTick_67 : decode cX0_meanOverTick 67 = .ok (.i2d, 1) := by decide +kernel
theorem dX0_meanOverTick_68 : decode cX0_meanOverTick 68 = .ok (.ddiv, 1) := by decide +kernel
theorem dX0_meanOverTick_69 : decode cX0_meanOverTick 69 = .ok (.dreturn, 1) := by decide +kernel
theorem dX0_tellCart_0 : decode cX0_tellCart 0 = .ok (.iload_n 2, 1) := by decide +kernel
theorem dX0_tellCart_1 : decode cX0_tellCart 1 = .ok (.tableswitch 96 0 7 #[47, 52, 57, 62, 67, 72, 77, 83], 47) := by decide +kernel
theorem dX0_tellCart_48 : decode cX0_tellCart 48 = .ok (.aload_n 1, 1) := by decide +kernel
theorem dX0_tellCart_49 : decode cX0_tellCart 49 = .ok (.getfield 93, 3) := by decide +kernel
theorem dX0_tellCart_52 : decode cX0_tellCart 52 = .ok (.ireturn, 1) := by decide +kernel
theorem dX0_tellCart_53 : decode cX0_tellCart 53 = .ok (.aload_n 1, 1) := by decide +kernel
theorem dX0_tellCart_54 : decode cX0_tellCart 54 = .ok (.getfield 87, 3) := by decide +kernel
theorem dX0_tellCart_57 : decode cX0_tellCart 57 = .ok (.ireturn, 1) := by decide +kernel
theorem dX0_tellCart_58 : decode cX0_tellCart 58 = .ok (.aload_n 1, 1) := by decide +kernel
theorem dX0_tellCart_59 : decode cX0_tellCart 59 = .ok (.getfield 96, 3) := by decide +kernel
theorem dX0_tellCart_62 : decode cX0_tellCart 62 = .ok (.ireturn, 1) := by decide +kernel
theorem dX0_tellCart_63 : decode cX0_tellCart 63 = .ok (.aload_n 1, 1) := by decide +kernel
theorem dX0_tellCart_64 : decode cX0_tellCart 64 = .ok (.getfield 99, 3) := by decide +kernel
theorem dX0_tellCart_67 : decode cX0_tellCart 67 = .ok (.ireturn, 1) := by decide +kernel
theorem dX0_tellCart_68 : decode cX0_tellCart 68 = .ok (.aload_n 1, 1) := by decide +kernel
theorem dX0_tellCart_69 : decode cX0_tellCart 69 = .ok (.getfield 100, 3) := by decide +kernel
theorem dX0_tellCart_72 : decode cX0_tellCart 72 = .ok (.ireturn, 1) := by decide +kernel
theorem dX0_tellCart_73 : decode cX0_tellCart 73 = .ok (.aload_n 1, 1) := by decide +kernel
theorem dX0_tellCart_74 : decode cX0_tellCart 74 = .ok (.getfield 74, 3) := by decide +kernel
theorem dX0_tellCart_77 : decode cX0_tellCart 77 = .ok (.ireturn, 1) := by decide +kernel
theorem dX0_tellCart_78 : decode cX0_tellCart 78 = .ok (.aload_n 0, 1) := by decide +kernel
theorem dX0_tellCart_79 : decode cX0_tellCart 79 = .ok (.aload_n 1, 1) := by decide +kernel
theorem dX0_tellCart_80 : decode cX0_tellCart 80 = .ok (.invokevirtual 103, 3) := by decide +kernel
theorem dX0_tellCart_83 : decode cX0_tellCart 83 = .ok (.ireturn, 1) := by decide +kernel
theorem dX0_tellCart_84 : decode cX0_tellCart 84 = .ok (.aload_n 0, 1) := by decide +kernel
theorem dX0_tellCart_85 : decode cX0_tellCart 85 = .ok (.aload_n 1, 1) := by decide +kernel
theorem dX0_tellCart_86 : decode cX0_tellCart 86 = .ok (.getfield 93, 3) := by decide +kernel
theorem dX0_tellCart_89 : decode cX0_tellCart 89 = .ok (.aload_n 1, 1) := by decide +kernel
theorem dX0_tellCart_90 : decode cX0_tellCart 90 = .ok (.getfield 87, 3) := by decide +kernel
theorem dX0_tellCart_93 : decode cX0_tellCart 93 = .ok (.invokevirtual 107, 3) := by decide +kernel
theorem dX0_tellCart_96 : decode cX0_tellCart 96 = .ok (.ireturn, 1) := by decide +kernel
theorem dX0_tellCart_97 : decode cX0_tellCart 97 = .ok (.aload_n 1, 1) := by decide +kernel
theorem dX0_tellCart_98 : decode cX0_tellCart 98 = .ok (.getfield 90, 3) := by decide +kernel
theorem dX0_tellCart_101 : decode cX0_tellCart 101 = .ok (.ireturn, 1) := by decide +kernel
theorem dX0_mixedInto_0 : decode cX0_mixedInto 0 = .ok (.aload_n 0, 1) := by decide +kernel
theorem dX0_mixedInto_1 : decode cX0_mixedInto 1 = .ok (.getfield 37, 3) := by decide +kernel
theorem dX0_mixedInto_4 : decode cX0_mixedInto 4 = .ok (.aload_n 0, 1) := by decide +kernel
theorem dX0_mixedInto_5 : decode cX0_mixedInto 5 = .ok (.getfield 33, 3) := by decide +kernel
theorem dX0_mixedInto_8 : decode cX0_mixedInto 8 = .ok (.lload_n 1, 1) := by decide +kernel
theorem dX0_mixedInto_9 : decode cX0_mixedInto 9 = .ok (.invokevirtual 111, 3) := by decide +kernel
theorem dX0_mixedInto_12 : decode cX0_mixedInto 12 = .ok (.invokevirtual 111, 3) := by decide +kernel
theorem dX0_mixedInto_15 : decode cX0_mixedInto 15 = .ok (.lstore_n 3, 1) := by decide +kernel
theorem dX0_mixedInto_16 : decode cX0_mixedInto 16 = .ok (.iconst 0, 1) := by decide +kernel
theorem dX0_mixedInto_17 : decode cX0_mixedInto 17 = .ok (.istore 5, 2) := by decide +kernel
theorem dX0_mixedInto_19 : decode cX0_mixedInto 19 = .ok (.iload 5, 2) := by decide +kernel
theorem dX0_mixedInto_21 : decode cX0_mixedInto 21 = .ok (.aload_n 0, 1) := by decide +kernel
theorem dX0_mixedInto_22 : decode cX0_mixedInto 22 = .ok (.getfield 50, 3) := by decide +kernel
theorem dX0_mixedInto_25 : decode cX0_mixedInto 25 = .ok (.if_icmp .ge 51, 3) := by decide +kernel
theorem dX0_mixedInto_28 : decode cX0_mixedInto 28 = .ok (.aload_n 0, 1) := by decide +kernel
theorem dX0_mixedInto_29 : decode cX0_mixedInto 29 = .ok (.iload 5, 2) := by decide +kernel
theorem dX0_mixedInto_31 : decode cX0_mixedInto 31 = .ok (.invokevirtual 57, 3) := by decide +kernel
theorem dX0_mixedInto_34 : decode cX0_mixedInto 34 = .ok (.astore 6, 2) := by decide +kernel
theorem dX0_mixedInto_36 : decode cX0_mixedInto 36 = .ok (.iconst 0, 1) := by decide +kernel
theorem dX0_mixedInto_37 : decode cX0_mixedInto 37 = .ok (.istore 7, 2) := by decide +kernel
theorem dX0_mixedInto_39 : decode cX0_mixedInto 39 = .ok (.aload 6, 2) := by decide +kernel
theorem dX0_mixedInto_41 : decode cX0_mixedInto 41 = .ok (.ifnull 29, 3) := by decide +kernel
theorem dX0_mixedInto_44 : decode cX0_mixedInto 44 = .ok (.iload 7, 2) := by decide +kernel
theorem dX0_mixedInto_46 : decode cX0_mixedInto 46 = .ok (.bipush 9, 2) := by decide +kernel
theorem dX0_mixedInto_48 : decode cX0_mixedInto 48 = .ok (.if_icmp .ge 22, 3) := by decide +kernel
theorem dX0_mixedInto_51 : decode cX0_mixedInto 51 = .ok (.lload_n 3, 1) := by decide +kernel
theorem dX0_mixedInto_52 : decode cX0_mixedInto 52 = .ok (.aload_n 0, 1) := by decide +kernel
theorem dX0_mixedInto_53 : decode cX0_mixedInto 53 = .ok (.aload 6, 2) := by decide +kernel
theorem dX0_mixedInto_55 : decode cX0_mixedInto 55 = .ok (.iload 7, 2) := by decide +kernel
theorem dX0_mixedInto_57 : decode cX0_mixedInto 57 = .ok (.invokevirtual 115, 3) := by decide +kernel
theorem dX0_mixedInto_60 : decode cX0_mixedInto 60 = .ok (.invokestatic 119, 3) := by decide +kernel
theorem dX0_mixedInto_63 : decode cX0_mixedInto 63 = .ok (.lstore_n 3, 1) := by decide +kernel
theorem dX0_mixedInto_64 : decode cX0_mixedInto 64 = .ok (.iinc 7 1, 3) := by decide +kernel
theorem dX0_mixedInto_67 : decode cX0_mixedInto 67 = .ok (.goto (-28), 3) := by decide +kernel
theorem dX0_mixedInto_70 : decode cX0_mixedInto 70 = .ok (.iinc 5 1, 3) := by decide +kernel
theorem dX0_mixedInto_73 : decode cX0_mixedInto 73 = .ok (.goto (-54), 3) := by decide +kernel
theorem dX0_mixedInto_76 : decode cX0_mixedInto 76 = .ok (.lload_n 3, 1) := by decide +kernel
theorem dX0_mixedInto_77 : decode cX0_mixedInto 77 = .ok (.lreturn, 1) := by decide +kernel
theorem dX0_copyFrom_0 : decode cX0_copyFrom 0 = .ok (.aload_n 0, 1) := by decide +kernel
theorem dX0_copyFrom_1 : decode cX0_copyFrom 1 = .ok (.aload_n 1, 1) := by decide +kernel
theorem dX0_copyFrom_2 : decode cX0_copyFrom 2 = .ok (.getfield 71, 3) := by decide +kernel
theorem dX0_copyFrom_5 : decode cX0_copyFrom 5 = .ok (.putfield 71, 3) := by decide +kernel
theorem dX0_copyFrom_8 : decode cX0_copyFrom 8 = .ok (.aload_n 0, 1) := by decide +kernel
theorem dX0_copyFrom_9 : decode cX0_copyFrom 9 = .ok (.aload_n 1, 1) := by decide +kernel
theorem dX0_copyFrom_10 : decode cX0_copyFrom 10 = .ok (.getfield 61, 3) := by decide +kernel
theorem dX0_copyFrom_13 : decode cX0_copyFrom 13 = .ok (.putfield 61, 3) := by decide +kernel
theorem dX0_copyFrom_16 : decode cX0_copyFrom 16 = .ok (.aload_n 0, 1) := by decide +kernel
theorem dX0_copyFrom_17 : decode cX0_copyFrom 17 = .ok (.aload_n 1, 1) := by decide +kernel
theorem dX0_copyFrom_18 : decode cX0_copyFrom 18 = .ok (.getfield 9, 3) := by decide +kernel
theorem dX0_copyFrom_21 : decode cX0_copyFrom 21 = .ok (.putfield 9, 3) := by decide +kernel
theorem dX0_copyFrom_24 : decode cX0_copyFrom 24 = .ok (.aload_n 0, 1) := by decide +kernel
theorem dX0_copyFrom_25 : decode cX0_copyFrom 25 = .ok (.aload_n 1, 1) := by decide +kernel
theorem dX0_copyFrom_26 : decode cX0_copyFrom 26 = .ok (.getfield 15, 3) := by decide +kernel
theorem dX0_copyFrom_29 : decode cX0_copyFrom 29 = .ok (.putfield 15, 3) := by decide +kernel
theorem dX0_copyFrom_32 : decode cX0_copyFrom 32 = .ok (.aload_n 0, 1) := by decide +kernel
theorem dX0_copyFrom_33 : decode cX0_copyFrom 33 = .ok (.aload_n 1, 1) := by decide +kernel
theorem dX0_copyFrom_34 : decode cX0_copyFrom 34 = .ok (.getfield 18, 3) := by decide +kernel
theorem dX0_copyFrom_37 : decode cX0_copyFrom 37 = .ok (.putfield 18, 3) := by decide +kernel
theorem dX0_copyFrom_40 : decode cX0_copyFrom 40 = .ok (.aload_n 0, 1) := by decide +kernel
theorem dX0_copyFrom_41 : decode cX0_copyFrom 41 = .ok (.aload_n 1, 1) := by decide +kernel
theorem dX0_copyFrom_42 : decode cX0_copyFrom 42 = .ok (.getfield 21, 3) := by decide +kernel
theorem dX0_copyFrom_45 : decode cX0_copyFrom 45 = .ok (.putfield 21, 3) := by decide +kernel
theorem dX0_copyFrom_48 : decode cX0_copyFrom 48 = .ok (.aload_n 0, 1) := by decide +kernel
theorem dX0_copyFrom_49 : decode cX0_copyFrom 49 = .ok (.aload_n 1, 1) := by decide +kernel
theorem dX0_copyFrom_50 : decode cX0_copyFrom 50 = .ok (.getfield 50, 3) := by decide +kernel
theorem dX0_copyFrom_53 : decode cX0_copyFrom 53 = .ok (.putfield 50, 3) := by decide +kernel
theorem dX0_copyFrom_56 : decode cX0_copyFrom 56 = .ok (.iconst 0, 1) := by decide +kernel
theorem dX0_copyFrom_57 : decode cX0_copyFrom 57 = .ok (.istore_n 2, 1) := by decide +kernel
theorem dX0_copyFrom_58 : decode cX0_copyFrom 58 = .ok (.iload_n 2, 1) := by decide +kernel
theorem dX0_copyFrom_59 : decode cX0_copyFrom 59 = .ok (.aload_n 0, 1) := by decide +kernel
theorem dX0_copyFrom_60 : decode cX0_copyFrom 60 = .ok (.getfield 50, 3) := by decide +kernel
theorem dX0_copyFrom_63 : decode cX0_copyFrom 63 = .ok (.if_icmp .ge 37, 3) := by decide +kernel
theorem dX0_copyFrom_66 : decode cX0_copyFrom 66 = .ok (.aload_n 0, 1) := by decide +kernel
theorem dX0_copyFrom_67 : decode cX0_copyFrom 67 = .ok (.iload_n 2, 1) := by decide +kernel
theorem dX0_copyFrom_68 : decode cX0_copyFrom 68 = .ok (.invokevirtual 57, 3) := by decide +kernel
theorem dX0_copyFrom_71 : decode cX0_copyFrom 71 = .ok (.astore_n 3, 1) := by decide +kernel
theorem dX0_copyFrom_72 : decode cX0_copyFrom 72 = .ok (.aload_n 1, 1) := by decide +kernel
theorem dX0_copyFrom_73 : decode cX0_copyFrom 73 = .ok (.iload_n 2, 1) := by decide +kernel
theorem dX0_copyFrom_74 : decode cX0_copyFrom 74 = .ok (.invokevirtual 57, 3) := by decide +kernel
theorem dX0_copyFrom_77 : decode cX0_copyFrom 77 = .ok (.astore 4, 2) := by decide +kernel
theorem dX0_copyFrom_79 : decode cX0_copyFrom 79 = .ok (.aload_n 3, 1) := by decide +kernel
theorem dX0_copyFrom_80 : decode cX0_copyFrom 80 = .ok (.ifnull 14, 3) := by decide +kernel
theorem dX0_copyFrom_83 : decode cX0_copyFrom 83 = .ok (.aload 4, 2) := by decide +kernel
theorem dX0_copyFrom_85 : decode cX0_copyFrom 85 = .ok (.ifnull 9, 3) := by decide +kernel
theorem dX0_copyFrom_88 : decode cX0_copyFrom 88 = .ok (.aload_n 3, 1) := by decide +kernel
theorem dX0_copyFrom_89 : decode cX0_copyFrom 89 = .ok (.aload 4, 2) := by decide +kernel
theorem dX0_copyFrom_91 : decode cX0_copyFrom 91 = .ok (.invokevirtual 123, 3) := by decide +kernel
theorem dX0_copyFrom_94 : decode cX0_copyFrom 94 = .ok (.iinc 2 1, 3) := by decide +kernel
theorem dX0_copyFrom_97 : decode cX0_copyFrom 97 = .ok (.goto (-39), 3) := by decide +kernel
theorem dX0_copyFrom_100 : decode cX0_copyFrom 100 = .ok (.aload_n 0, 1) := by decide +kernel
theorem dX0_copyFrom_101 : decode cX0_copyFrom 101 = .ok (.getfield 33, 3) := by decide +kernel
theorem dX0_copyFrom_104 : decode cX0_copyFrom 104 = .ok (.aload_n 1, 1) := by decide +kernel
theorem dX0_copyFrom_105 : decode cX0_copyFrom 105 = .ok (.getfield 33, 3) := by decide +kernel
theorem dX0_copyFrom_108 : decode cX0_copyFrom 108 = .ok (.invokevirtual 127, 3) := by decide +kernel
theorem dX0_copyFrom_111 : decode cX0_copyFrom 111 = .ok (.aload_n 0, 1) := by decide +kernel
theorem dX0_copyFrom_112 : decode cX0_copyFrom 112 = .ok (.getfield 37, 3) := by decide +kernel
theorem dX0_copyFrom_115 : decode cX0_copyFrom 115 = .ok (.aload_n 1, 1) := by decide +kernel
theorem dX0_copyFrom_116 : decode cX0_copyFrom 116 = .ok (.getfield 37, 3) := by decide +kernel
theorem dX0_copyFrom_119 : decode cX0_copyFrom 119 = .ok (.invokevirtual 127, 3) := by decide +kernel
theorem dX0_copyFrom_122 : decode cX0_copyFrom 122 = .ok (.aload_n 0, 1) := by decide +kernel
theorem dX0_copyFrom_123 : decode cX0_copyFrom 123 = .ok (.getfield 43, 3) := by decide +kernel
theorem dX0_copyFrom_126 : decode cX0_copyFrom 126 = .ok (.aload_n 1, 1) := by decide +kernel
theorem dX0_copyFrom_127 : decode cX0_copyFrom 127 = .ok (.getfield 43, 3) := by decide +kernel
theorem dX0_copyFrom_130 : decode cX0_copyFrom 130 = .ok (.invokevirtual 130, 3) := by decide +kernel
theorem dX0_copyFrom_133 : decode cX0_copyFrom 133 = .ok (.return_, 1) := by decide +kernel
theorem dX0_placeOf_0 : decode cX0_placeOf 0 = .ok (.aload_n 1, 1) := by decide +kernel
theorem dX0_placeOf_1 : decode cX0_placeOf 1 = .ok (.getfield 74, 3) := by decide +kernel
theorem dX0_placeOf_4 : decode cX0_placeOf 4 = .ok (.iconst 1, 1) := by decide +kernel
theorem dX0_placeOf_5 : decode cX0_placeOf 5 = .ok (.if_icmp .eq 5, 3) := by decide +kernel
theorem dX0_placeOf_8 : decode cX0_placeOf 8 = .ok (.iconst (-1), 1) := by decide +kernel
theorem dX0_placeOf_9 : decode cX0_placeOf 9 = .ok (.ireturn, 1) := by decide +kernel
theorem dX0_placeOf_10 : decode cX0_placeOf 10 = .ok (.aload_n 1, 1) := by decide +kernel
theorem dX0_placeOf_11 : decode cX0_placeOf 11 = .ok (.getfield 100, 3) := by decide +kernel
theorem dX0_placeOf_14 : decode cX0_placeOf 14 = .ok (.ifCond .ne 10, 3) := by decide +kernel
theorem dX0_placeOf_17 : decode cX0_placeOf 17 = .ok (.aload_n 1, 1) := by decide +kernel
theorem dX0_placeOf_18 : decode cX0_placeOf 18 = .ok (.getfield 133, 3) := by decide +kernel
theorem dX0_placeOf_21 : decode cX0_placeOf 21 = .ok (.goto 14, 3) := by decide +kernel
theorem dX0_placeOf_24 : decode cX0_placeOf 24 = .ok (.aload_n 0, 1) := by decide +kernel
theorem dX0_placeOf_25 : decode cX0_placeOf 25 = .ok (.getfield 9, 3) := by decide +kernel
theorem dX0_placeOf_28 : decode cX0_placeOf 28 = .ok (.iconst 1, 1) := by decide +kernel
theorem dX0_placeOf_29 : decode cX0_placeOf 29 = .ok (.isub, 1) := by decide +kernel
theorem dX0_placeOf_30 : decode cX0_placeOf 30 = .ok (.aload_n 1, 1) := by decide +kernel
theorem dX0_placeOf_31 : decode cX0_placeOf 31 = .ok (.getfield 133, 3) := by decide +kernel
theorem dX0_placeOf_34 : decode cX0_placeOf 34 = .ok (.isub, 1) := by decide +kernel
theorem dX0_placeOf_35 : decode cX0_placeOf 35 = .ok (.ireturn, 1) := by decide +kernel
theorem dX0_tollFor_0 : decode cX0_tollFor 0 = .ok (.iload_n 1, 1) := by decide +kernel
theorem dX0_tollFor_1 : decode cX0_tollFor 1 = .ok (.aload_n 0, 1) := by decide +kernel
theorem dX0_tollFor_2 : decode cX0_tollFor 2 = .ok (.getfield 18, 3) := by decide +kernel
theorem dX0_tollFor_5 : decode cX0_tollFor 5 = .ok (.imul, 1) := by decide +kernel
theorem dX0_tollFor_6 : decode cX0_tollFor 6 = .ok (.iload_n 2, 1) := by decide +kernel
theorem dX0_tollFor_7 : decode cX0_tollFor 7 = .ok (.bipush 10, 2) := by decide +kernel
theorem dX0_tollFor_9 : decode cX0_tollFor 9 = .ok (.idiv, 1) := by decide +kernel
theorem dX0_tollFor_10 : decode cX0_tollFor 10 = .ok (.aload_n 0, 1) := by decide +kernel
theorem dX0_tollFor_11 : decode cX0_tollFor 11 = .ok (.getfield 21, 3) := by decide +kernel
theorem dX0_tollFor_14 : decode cX0_tollFor 14 = .ok (.imul, 1) := by decide +kernel
theorem dX0_tollFor_15 : decode cX0_tollFor 15 = .ok (.iadd, 1) := by decide +kernel
theorem dX0_tollFor_16 : decode cX0_tollFor 16 = .ok (.ireturn, 1) := by decide +kernel
theorem dX0_move_0 : decode cX0_move 0 = .ok (.aload_n 0, 1) := by decide +kernel
theorem dX0_move_1 : decode cX0_move 1 = .ok (.aload_n 0, 1) := by decide +kernel
theorem dX0_move_2 : decode cX0_move 2 = .ok (.getfield 43, 3) := by decide +kernel
theorem dX0_move_5 : decode cX0_move 5 = .ok (.iconst 0, 1) := by decide +kernel
theorem dX0_move_6 : decode cX0_move 6 = .ok (.invokevirtual 83, 3) := by decide +kernel
theorem dX0_move_9 : decode cX0_move 9 = .ok (.invokevirtual 57, 3) := by decide +kernel
theorem dX0_move_12 : decode cX0_move 12 = .ok (.astore_n 1, 1) := by decide +kernel
theorem dX0_move_13 : decode cX0_move 13 = .ok (.aload_n 1, 1) := by decide +kernel
theorem dX0_move_14 : decode cX0_move 14 = .ok (.ifnonnull 5, 3) := by decide +kernel
theorem dX0_move_17 : decode cX0_move 17 = .ok (.iconst 0, 1) := by decide +kernel
theorem dX0_move_18 : decode cX0_move 18 = .ok (.ireturn, 1) := by decide +kernel
theorem dX0_move_19 : decode cX0_move 19 = .ok (.aload_n 1, 1) := by decide +kernel
theorem dX0_move_20 : decode cX0_move 20 = .ok (.getfield 100, 3) := by decide +kernel
theorem dX0_move_23 : decode cX0_move 23 = .ok (.aload_n 0, 1) := by decide +kernel
theorem dX0_move_24 : decode cX0_move 24 = .ok (.getfield 61, 3) := by decide +kernel
theorem dX0_move_27 : decode cX0_move 27 = .ok (.if_icmp .ne 8, 3) := by decide +kernel
theorem dX0_move_30 : decode cX0_move 30 = .ok (.aload_n 0, 1) := by decide +kernel
theorem dX0_move_31 : decode cX0_move 31 = .ok (.invokevirtual 136, 3) := by decide +kernel
theorem dX0_move_34 : decode cX0_move 34 = .ok (.ireturn, 1) := by decide +kernel
theorem dX0_move_35 : decode cX0_move 35 = .ok (.aload_n 0, 1) := by decide +kernel
theorem dX0_move_36 : decode cX0_move 36 = .ok (.invokevirtual 139, 3) := by decide +kernel
theorem dX0_move_39 : decode cX0_move 39 = .ok (.iconst 0, 1) := by decide +kernel
theorem dX0_move_40 : decode cX0_move 40 = .ok (.ireturn, 1) := by decide +kernel
theorem dX0_goOn_0 : decode cX0_goOn 0 = .ok (.iconst 0, 1) := by decide +kernel
theorem dX0_goOn_1 : decode cX0_goOn 1 = .ok (.istore_n 1, 1) := by decide +kernel
theorem dX0_goOn_2 : decode cX0_goOn 2 = .ok (.aload_n 0, 1) := by decide +kernel
theorem dX0_goOn_3 : decode cX0_goOn 3 = .ok (.getfield 9, 3) := by decide +kernel
theorem dX0_goOn_6 : decode cX0_goOn 6 = .ok (.iconst 3, 1) := by decide +kernel
theorem dX0_goOn_7 : decode cX0_goOn 7 = .ok (.iadd, 1) := by decide +kernel
theorem dX0_goOn_8 : decode cX0_goOn 8 = .ok (.istore_n 2, 1) := by decide +kernel
theorem dX0_goOn_9 : decode cX0_goOn 9 = .ok (.iconst 0, 1) := by decide +kernel
theorem dX0_goOn_10 : decode cX0_goOn 10 = .ok (.istore_n 3, 1) := by decide +kernel
theorem dX0_goOn_11 : decode cX0_goOn 11 = .ok (.iload_n 3, 1) := by decide +kernel
theorem dX0_goOn_12 : decode cX0_goOn 12 = .ok (.aload_n 0, 1) := by decide +kernel
theorem dX0_goOn_13 : decode cX0_goOn 13 = .ok (.getfield 43, 3) := by decide +kernel
theorem dX0_goOn_16 : decode cX0_goOn 16 = .ok (.getfield 80, 3) := by decide +kernel
theorem dX0_goOn_19 : decode cX0_goOn 19 = .ok (.if_icmp .ge 90, 3) := by decide +kernel
theorem dX0_goOn_22 : decode cX0_goOn 22 = .ok (.aload_n 0, 1) := by decide +kernel
theorem dX0_goOn_23 : decode cX0_goOn 23 = .ok (.aload_n 0, 1) := by decide +kernel
theorem dX0_goOn_24 : decode cX0_goOn 24 = .ok (.getfield 43, 3) := by decide +kernel
theorem dX0_goOn_27 : decode cX0_goOn 27 = .ok (.iload_n 3, 1) := by decide +kernel
theorem dX0_goOn_28 : decode cX0_goOn 28 = .ok (.invokevirtual 83, 3) := by decide +kernel
theorem dX0_goOn_31 : decode cX0_goOn 31 = .ok (.invokevirtual 57, 3) := by decide +kernel
theorem dX0_goOn_34 : decode cX0_goOn 34 = .ok (.astore 4, 2) := by decide +kernel
theorem dX0_goOn_36 : decode cX0_goOn 36 = .ok (.aload 4, 2) := by decide +kernel
theorem dX0_goOn_38 : decode cX0_goOn 38 = .ok (.ifnonnull 6, 3) := by decide +kernel
theorem dX0_goOn_41 : decode cX0_goOn 41 = .ok (.goto 68, 3) := by decide +kernel
theorem dX0_goOn_44 : decode cX0_goOn 44 = .ok (.aload 4, 2) := by decide +kernel
theorem dX0_goOn_46 : decode cX0_goOn 46 = .ok (.getfield 133, 3) := by decide +kernel
theorem dX0_goOn_49 : decode cX0_goOn 49 = .ok (.aload 4, 2) := by decide +kernel
theorem dX0_goOn_51 : decode cX0_goOn 51 = .ok (.getfield 96, 3) := by decide +kernel
theorem dX0_goOn_54 : decode cX0_goOn 54 = .ok (.iadd, 1) := by decide +kernel
theorem dX0_goOn_55 : decode cX0_goOn 55 = .ok (.iload_n 2, 1) := by decide +kernel
theorem dX0_goOn_56 : decode cX0_goOn 56 = .ok (.invokestatic 142, 3) := by decide +kernel
theorem dX0_goOn_59 : decode cX0_goOn 59 = .ok (.istore 5, 2) := by decide +kernel
theorem dX0_goOn_61 : decode cX0_goOn 61 = .ok (.iload 5, 2) := by decide +kernel
theorem dX0_goOn_63 : decode cX0_goOn 63 = .ok (.aload_n 0, 1) := by decide +kernel
theorem dX0_goOn_64 : decode cX0_goOn 64 = .ok (.getfield 9, 3) := by decide +kernel
theorem dX0_goOn_67 : decode cX0_goOn 67 = .ok (.if_icmp .ge 18, 3) := by decide +kernel
theorem dX0_goOn_70 : decode cX0_goOn 70 = .ok (.aload 4, 2) := by decide +kernel
theorem dX0_goOn_72 : decode cX0_goOn 72 = .ok (.iload 5, 2) := by decide +kernel
theorem dX0_goOn_74 : decode cX0_goOn 74 = .ok (.putfield 133, 3) := by decide +kernel
theorem dX0_goOn_77 : decode cX0_goOn 77 = .ok (.iload 5, 2) := by decide +kernel
theorem dX0_goOn_79 : decode cX0_goOn 79 = .ok (.iconst 1, 1) := by decide +kernel
theorem dX0_goOn_80 : decode cX0_goOn 80 = .ok (.isub, 1) := by decide +kernel
theorem dX0_goOn_81 : decode cX0_goOn 81 = .ok (.istore_n 2, 1) := by decide +kernel
theorem dX0_goOn_82 : decode cX0_goOn 82 = .ok (.goto 21, 3) := by decide +kernel
theorem dX0_goOn_85 : decode cX0_goOn 85 = .ok (.aload 4, 2) := by decide +kernel
theorem dX0_goOn_87 : decode cX0_goOn 87 = .ok (.iconst 2, 1) := by decide +kernel
theorem dX0_goOn_88 : decode cX0_goOn 88 = .ok (.putfield 74, 3) := by decide +kernel
theorem dX0_goOn_91 : decode cX0_goOn 91 = .ok (.aload 4, 2) := by decide +kernel
theorem dX0_goOn_93 : decode cX0_goOn 93 = .ok (.aload_n 0, 1) := by decide +kernel
theorem dX0_goOn_94 : decode cX0_goOn 94 = .ok (.getfield 71, 3) := by decide +kernel
theorem dX0_goOn_97 : decode cX0_goOn 97 = .ok (.putfield 90, 3) := by decide +kernel
theorem dX0_goOn_100 : decode cX0_goOn 100 = .ok (.iinc 1 1, 3) := by decide +kernel
theorem dX0_goOn_103 : decode cX0_goOn 103 = .ok (.iinc 3 1, 3) := by decide +kernel
theorem dX0_goOn_106 : decode cX0_goOn 106 = .ok (.goto (-95), 3) := by decide +kernel
theorem dX0_goOn_109 : decode cX0_goOn 109 = .ok (.iconst 0, 1) := by decide +kernel
theorem dX0_goOn_110 : decode cX0_goOn 110 = .ok (.istore_n 3, 1) := by decide +kernel
theorem dX0_goOn_111 : decode cX0_goOn 111 = .ok (.iload_n 3, 1) := by decide +kernel
theorem dX0_goOn_112 : decode cX0_goOn 112 = .ok (.iload_n 1, 1) := by decide +kernel
theorem dX0_goOn_113 : decode cX0_goOn 113 = .ok (.if_icmp .ge 16, 3) := by decide +kernel
theorem dX0_goOn_116 : decode cX0_goOn 116 = .ok (.aload_n 0, 1) := by decide +kernel
theorem dX0_goOn_117 : decode cX0_goOn 117 = .ok (.getfield 43, 3) := by decide +kernel
theorem dX0_goOn_120 : decode cX0_goOn 120 = .ok (.invokevirtual 147, 3) := by decide +kernel
theorem dX0_goOn_123 : decode cX0_goOn 123 = .ok (.iinc 3 1, 3) := by decide +kernel
theorem dX0_goOn_126 : decode cX0_goOn 126 = .ok (.goto (-15), 3) := by decide +kernel
theorem dX0_goOn_129 : decode cX0_goOn 129 = .ok (.iload_n 1, 1) := by decide +kernel
theorem dX0_goOn_130 : decode cX0_goOn 130 = .ok (.ireturn, 1) := by decide +kernel
theorem dX0_goBack_0 : decode cX0_goBack 0 = .ok (.iconst (-1), 1) := by decide +kernel
theorem dX0_goBack_1 : decode cX0_goBack 1 = .ok (.istore_n 1, 1) := by decide +kernel
theorem dX0_goBack_2 : decode cX0_goBack 2 = .ok (.aload_n 0, 1) := by decide +kernel
theorem dX0_goBack_3 : decode cX0_goBack 3 = .ok (.getfield 43, 3) := by decide +kernel
theorem dX0_goBack_6 : decode cX0_goBack 6 = .ok (.getfield 80, 3) := by decide +kernel
theorem dX0_goBack_9 : decode cX0_goBack 9 = .ok (.iconst 1, 1) := by decide +kernel
theorem dX0_goBack_10 : decode cX0_goBack 10 = .ok (.isub, 1) := by decide +kernel
theorem dX0_goBack_11 : decode cX0_goBack 11 = .ok (.istore_n 2, 1) := by decide +kernel
theorem dX0_goBack_12 : decode cX0_goBack 12 = .ok (.iload_n 2, 1) := by decide +kernel
theorem dX0_goBack_13 : decode cX0_goBack 13 = .ok (.ifCond .lt 90, 3) := by decide +kernel
theorem dX0_goBack_16 : decode cX0_goBack 16 = .ok (.aload_n 0, 1) := by decide +kernel
theorem dX0_goBack_17 : decode cX0_goBack 17 = .ok (.aload_n 0, 1) := by decide +kernel
theorem dX0_goBack_18 : decode cX0_goBack 18 = .ok (.getfield 43, 3) := by decide +kernel
theorem dX0_goBack_21 : decode cX0_goBack 21 = .ok (.iload_n 2, 1) := by decide +kernel
theorem dX0_goBack_22 : decode cX0_goBack 22 = .ok (.invokevirtual 83, 3) := by decide +kernel
theorem dX0_goBack_25 : decode cX0_goBack 25 = .ok (.invokevirtual 57, 3) := by decide +kernel
theorem dX0_goBack_28 : decode cX0_goBack 28 = .ok (.astore_n 3, 1) := by decide +kernel
theorem dX0_goBack_29 : decode cX0_goBack 29 = .ok (.aload_n 3, 1) := by decide +kernel
theorem dX0_goBack_30 : decode cX0_goBack 30 = .ok (.ifnonnull 6, 3) := by decide +kernel
theorem dX0_goBack_33 : decode cX0_goBack 33 = .ok (.goto 70, 3) := by decide +kernel
theorem dX0_goBack_36 : decode cX0_goBack 36 = .ok (.aload_n 3, 1) := by decide +kernel
theorem dX0_goBack_37 : decode cX0_goBack 37 = .ok (.getfield 133, 3) := by decide +kernel
theorem dX0_goBack_40 : decode cX0_goBack 40 = .ok (.iconst 1, 1) := by decide +kernel
theorem dX0_goBack_41 : decode cX0_goBack 41 = .ok (.isub, 1) := by decide +kernel
theorem dX0_goBack_42 : decode cX0_goBack 42 = .ok (.iload_n 1, 1) := by decide +kernel
theorem dX0_goBack_43 : decode cX0_goBack 43 = .ok (.invokestatic 150, 3) := by decide +kernel
theorem dX0_goBack_46 : decode cX0_goBack 46 = .ok (.istore 4, 2) := by decide +kernel
theorem dX0_goBack_48 : decode cX0_goBack 48 = .ok (.iload 4, 2) := by decide +kernel
theorem dX0_goBack_50 : decode cX0_goBack 50 = .ok (.ifCond .lt 17, 3) := by decide +kernel
theorem dX0_goBack_53 : decode cX0_goBack 53 = .ok (.aload_n 3, 1) := by decide +kernel
theorem dX0_goBack_54 : decode cX0_goBack 54 = .ok (.iload 4, 2) := by decide +kernel
theorem dX0_goBack_56 : decode cX0_goBack 56 = .ok (.putfield 133, 3) := by decide +kernel
theorem dX0_goBack_59 : decode cX0_goBack 59 = .ok (.iload 4, 2) := by decide +kernel
theorem dX0_goBack_61 : decode cX0_goBack 61 = .ok (.iconst 1, 1) := by decide +kernel
theorem dX0_goBack_62 : decode cX0_goBack 62 = .ok (.iadd, 1) := by decide +kernel
theorem dX0_goBack_63 : decode cX0_goBack 63 = .ok (.istore_n 1, 1) := by decide +kernel
theorem dX0_goBack_64 : decode cX0_goBack 64 = .ok (.goto 33, 3) := by decide +kernel
theorem dX0_goBack_67 : decode cX0_goBack 67 = .ok (.aload_n 3, 1) := by decide +kernel
theorem dX0_goBack_68 : decode cX0_goBack 68 = .ok (.iconst 0, 1) := by decide +kernel
theorem dX0_goBack_69 : decode cX0_goBack 69 = .ok (.putfield 74, 3) := by decide +kernel
theorem dX0_goBack_72 : decode cX0_goBack 72 = .ok (.aload_n 0, 1) := by decide +kernel
theorem dX0_goBack_73 : decode cX0_goBack 73 = .ok (.aload_n 3, 1) := by decide +kernel
theorem dX0_goBack_74 : decode cX0_goBack 74 = .ok (.getfield 100, 3) := by decide +kernel
theorem dX0_goBack_77 : decode cX0_goBack 77 = .ok (.invokevirtual 153, 3) := by decide +kernel
theorem dX0_goBack_80 : decode cX0_goBack 80 = .ok (.getfield 157, 3) := by decide +kernel
theorem dX0_goBack_83 : decode cX0_goBack 83 = .ok (.aload_n 3, 1) := by decide +kernel
theorem dX0_goBack_84 : decode cX0_goBack 84 = .ok (.getfield 160, 3) := by decide +kernel
theorem dX0_goBack_87 : decode cX0_goBack 87 = .ok (.invokevirtual 163, 3) := by decide +kernel
theorem dX0_goBack_90 : decode cX0_goBack 90 = .ok (.aload_n 0, 1) := by decide +kernel
theorem dX0_goBack_91 : decode cX0_goBack 91 = .ok (.getfield 43, 3) := by decide +kernel
theorem dX0_goBack_94 : decode cX0_goBack 94 = .ok (.invokevirtual 166, 3) := by decide +kernel
theorem dX0_goBack_97 : decode cX0_goBack 97 = .ok (.iinc 2 (-1), 3) := by decide +kernel
theorem dX0_goBack_100 : decode cX0_goBack 100 = .ok (.goto (-88), 3) := by decide +kernel
theorem dX0_goBack_103 : decode cX0_goBack 103 = .ok (.return_, 1) := by decide +kernel
theorem dX0_comeOn_0 : decode cX0_comeOn 0 = .ok (.aload_n 0, 1) := by decide +kernel
theorem dX0_comeOn_1 : decode cX0_comeOn 1 = .ok (.aload_n 0, 1) := by decide +kernel
theorem dX0_comeOn_2 : decode cX0_comeOn 2 = .ok (.getfield 61, 3) := by decide +kernel
theorem dX0_comeOn_5 : decode cX0_comeOn 5 = .ok (.invokevirtual 153, 3) := by decide +kernel
theorem dX0_comeOn_8 : decode cX0_comeOn 8 = .ok (.astore_n 1, 1) := by decide +kernel
theorem dX0_comeOn_9 : decode cX0_comeOn 9 = .ok (.aload_n 0, 1) := by decide +kernel
theorem dX0_comeOn_10 : decode cX0_comeOn 10 = .ok (.aload_n 1, 1) := by decide +kernel
theorem dX0_comeOn_11 : decode cX0_comeOn 11 = .ok (.getfield 157, 3) := by decide +kernel
theorem dX0_comeOn_14 : decode cX0_comeOn 14 = .ok (.iconst 0, 1) := by decide +kernel
theorem dX0_comeOn_15 : decode cX0_comeOn 15 = .ok (.invokevirtual 83, 3) := by decide +kernel
theorem dX0_comeOn_18 : decode cX0_comeOn 18 = .ok (.invokevirtual 57, 3) := by decide +kernel
theorem dX0_comeOn_21 : decode cX0_comeOn 21 = .ok (.astore_n 2, 1) := by decide +kernel
theorem dX0_comeOn_22 : decode cX0_comeOn 22 = .ok (.aload_n 2, 1) := by decide +kernel
theorem dX0_comeOn_23 : decode cX0_comeOn 23 = .ok (.ifnull 11, 3) := by decide +kernel
theorem dX0_comeOn_26 : decode cX0_comeOn 26 = .ok (.aload_n 0, 1) := by decide +kernel
theorem dX0_comeOn_27 : decode cX0_comeOn 27 = .ok (.aload_n 2, 1) := by decide +kernel
theorem dX0_comeOn_28 : decode cX0_comeOn 28 = .ok (.invokevirtual 169, 3) := by decide +kernel
theorem dX0_comeOn_31 : decode cX0_comeOn 31 = .ok (.ifCond .ne 4, 3) := by decide +kernel
theorem dX0_comeOn_34 : decode cX0_comeOn 34 = .ok (.return_, 1) := by decide +kernel
theorem dX0_comeOn_35 : decode cX0_comeOn 35 = .ok (.aload_n 1, 1) := by decide +kernel
theorem dX0_comeOn_36 : decode cX0_comeOn 36 = .ok (.getfield 157, 3) := by decide +kernel
theorem dX0_comeOn_39 : decode cX0_comeOn 39 = .ok (.invokevirtual 147, 3) := by decide +kernel
theorem dX0_comeOn_42 : decode cX0_comeOn 42 = .ok (.aload_n 2, 1) := by decide +kernel
theorem dX0_comeOn_43 : decode cX0_comeOn 43 = .ok (.getfield 173, 3) := by decide +kernel
theorem dX0_comeOn_46 : decode cX0_comeOn 46 = .ok (.ifCond .ne 12, 3) := by decide +kernel
theorem dX0_comeOn_49 : decode cX0_comeOn 49 = .ok (.aload_n 0, 1) := by decide +kernel
theorem dX0_comeOn_50 : decode cX0_comeOn 50 = .ok (.aload_n 2, 1) := by decide +kernel
theorem dX0_comeOn_51 : decode cX0_comeOn 51 = .ok (.aload_n 1, 1) := by decide +kernel
theorem dX0_comeOn_52 : decode cX0_comeOn 52 = .ok (.invokevirtual 177, 3) := by decide +kernel
theorem dX0_comeOn_55 : decode cX0_comeOn 55 = .ok (.ifCond .eq 27, 3) := by decide +kernel
theorem dX0_comeOn_58 : decode cX0_comeOn 58 = .ok (.aload_n 2, 1) := by decide +kernel
theorem dX0_comeOn_59 : decode cX0_comeOn 59 = .ok (.iconst 1, 1) := by decide +kernel
theorem dX0_comeOn_60 : decode cX0_comeOn 60 = .ok (.putfield 74, 3) := by decide +kernel
theorem dX0_comeOn_63 : decode cX0_comeOn 63 = .ok (.aload_n 2, 1) := by decide +kernel
theorem dX0_comeOn_64 : decode cX0_comeOn 64 = .ok (.iconst 0, 1) := by decide +kernel
theorem dX0_comeOn_65 : decode cX0_comeOn 65 = .ok (.putfield 133, 3) := by decide +kernel
theorem dX0_comeOn_68 : decode cX0_comeOn 68 = .ok (.aload_n 0, 1) := by decide +kernel
theorem dX0_comeOn_69 : decode cX0_comeOn 69 = .ok (.getfield 43, 3) := by decide +kernel
theorem dX0_comeOn_72 : decode cX0_comeOn 72 = .ok (.aload_n 2, 1) := by decide +kernel
theorem dX0_comeOn_73 : decode cX0_comeOn 73 = .ok (.getfield 160, 3) := by decide +kernel
theorem dX0_comeOn_76 : decode cX0_comeOn 76 = .ok (.invokevirtual 181, 3) := by decide +kernel
theorem dX0_comeOn_79 : decode cX0_comeOn 79 = .ok (.goto 8, 3) := by decide +kernel
theorem dX0_comeOn_82 : decode cX0_comeOn 82 = .ok (.aload_n 2, 1) := by decide +kernel
theorem dX0_comeOn_83 : decode cX0_comeOn 83 = .ok (.iconst 3, 1) := by decide +kernel
theorem dX0_comeOn_84 : decode cX0_comeOn 84 = .ok (.putfield 74, 3) := by decide +kernel
theorem dX0_comeOn_87 : decode cX0_comeOn 87 = .ok (.return_, 1) := by decide +kernel
theorem dX0_hasRoomFor_0 : decode cX0_hasRoomFor 0 = .ok (.aload_n 0, 1) := by decide +kernel
theorem dX0_hasRoomFor_1 : decode cX0_hasRoomFor 1 = .ok (.aload_n 0, 1) := by decide +kernel
theorem dX0_hasRoomFor_2 : decode cX0_hasRoomFor 2 = .ok (.getfield 43, 3) := by decide +kernel
theorem dX0_hasRoomFor_5 : decode cX0_hasRoomFor 5 = .ok (.invokevirtual 184, 3) := by decide +kernel
theorem dX0_hasRoomFor_8 : decode cX0_hasRoomFor 8 = .ok (.invokevirtual 57, 3) := by decide +kernel
theorem dX0_hasRoomFor_11 : decode cX0_hasRoomFor 11 = .ok (.astore_n 2, 1) := by decide +kernel
theorem dX0_hasRoomFor_12 : decode cX0_hasRoomFor 12 = .ok (.aload_n 2, 1) := by decide +kernel
theorem dX0_hasRoomFor_13 : decode cX0_hasRoomFor 13 = .ok (.ifnull 21, 3) := by decide +kernel
theorem dX0_hasRoomFor_16 : decode cX0_hasRoomFor 16 = .ok (.aload_n 2, 1) := by decide +kernel
theorem dX0_hasRoomFor_17 : decode cX0_hasRoomFor 17 = .ok (.getfield 100, 3) := by decide +kernel
theorem dX0_hasRoomFor_20 : decode cX0_hasRoomFor 20 = .ok (.aload_n 0, 1) := by decide +kernel
theorem dX0_hasRoomFor_21 : decode cX0_hasRoomFor 21 = .ok (.getfield 61, 3) := by decide +kernel
theorem dX0_hasRoomFor_24 : decode cX0_hasRoomFor 24 = .ok (.if_icmp .ne 14, 3) := by decide +kernel
theorem dX0_hasRoomFor_27 : decode cX0_hasRoomFor 27 = .ok (.aload_n 2, 1) := by decide +kernel
theorem dX0_hasRoomFor_28 : decode cX0_hasRoomFor 28 = .ok (.getfield 133, 3) := by decide +kernel
theorem dX0_hasRoomFor_31 : decode cX0_hasRoomFor 31 = .ok (.ifCond .le 7, 3) := by decide +kernel
theorem dX0_hasRoomFor_34 : decode cX0_hasRoomFor 34 = .ok (.iconst 1, 1) := by decide +kernel
theorem dX0_hasRoomFor_35 : decode cX0_hasRoomFor 35 = .ok (.goto 4, 3) := by decide +kernel
theorem dX0_hasRoomFor_38 : decode cX0_hasRoomFor 38 = .ok (.iconst 0, 1) := by decide +kernel
theorem dX0_hasRoomFor_39 : decode cX0_hasRoomFor 39 = .ok (.istore_n 3, 1) := by decide +kernel
theorem dX0_hasRoomFor_40 : decode cX0_hasRoomFor 40 = .ok (.iload_n 3, 1) := by decide +kernel
theorem dX0_hasRoomFor_41 : decode cX0_hasRoomFor 41 = .ok (.ifCond .eq 23, 3) := by decide +kernel
theorem dX0_hasRoomFor_44 : decode cX0_hasRoomFor 44 = .ok (.aload_n 0, 1) := by decide +kernel
theorem dX0_hasRoomFor_45 : decode cX0_hasRoomFor 45 = .ok (.invokevirtual 187, 3) := by decide +kernel
theorem dX0_hasRoomFor_48 : decode cX0_hasRoomFor 48 = .ok (.aload_n 1, 1) := by decide +kernel
theorem dX0_hasRoomFor_49 : decode cX0_hasRoomFor 49 = .ok (.getfield 87, 3) := by decide +kernel
theorem dX0_hasRoomFor_52 : decode cX0_hasRoomFor 52 = .ok (.iadd, 1) := by decide +kernel
theorem dX0_hasRoomFor_53 : decode cX0_hasRoomFor 53 = .ok (.aload_n 0, 1) := by decide +kernel
theorem dX0_hasRoomFor_54 : decode cX0_hasRoomFor 54 = .ok (.getfield 15, 3) := by decide +kernel
theorem dX0_hasRoomFor_57 : decode cX0_hasRoomFor 57 = .ok (.if_icmp .gt 7, 3) := by decide +kernel
theorem dX0_hasRoomFor_60 : decode cX0_hasRoomFor 60 = .ok (.iconst 1, 1) := by decide +kernel
theorem dX0_hasRoomFor_61 : decode cX0_hasRoomFor 61 = .ok (.goto 4, 3) := by decide +kernel
theorem dX0_hasRoomFor_64 : decode cX0_hasRoomFor 64 = .ok (.iconst 0, 1) := by decide +kernel
theorem dX0_hasRoomFor_65 : decode cX0_hasRoomFor 65 = .ok (.ireturn, 1) := by decide +kernel
theorem dX0_pays_0 : decode cX0_pays 0 = .ok (.aload_n 0, 1) := by decide +kernel
theorem dX0_pays_1 : decode cX0_pays 1 = .ok (.aload_n 1, 1) := by decide +kernel
theorem dX0_pays_2 : decode cX0_pays 2 = .ok (.getfield 93, 3) := by decide +kernel
theorem dX0_pays_5 : decode cX0_pays 5 = .ok (.aload_n 1, 1) := by decide +kernel
theorem dX0_pays_6 : decode cX0_pays 6 = .ok (.getfield 87, 3) := by decide +kernel
theorem dX0_pays_9 : decode cX0_pays 9 = .ok (.invokevirtual 107, 3) := by decide +kernel
theorem dX0_pays_12 : decode cX0_pays 12 = .ok (.istore_n 3, 1) := by decide +kernel
theorem dX0_pays_13 : decode cX0_pays 13 = .ok (.aload_n 1, 1) := by decide +kernel
theorem dX0_pays_14 : decode cX0_pays 14 = .ok (.getfield 190, 3) := by decide +kernel
theorem dX0_pays_17 : decode cX0_pays 17 = .ok (.ifCond .eq 15, 3) := by decide +kernel
theorem dX0_pays_20 : decode cX0_pays 20 = .ok (.aload_n 0, 1) := by decide +kernel
theorem dX0_pays_21 : decode cX0_pays 21 = .ok (.iconst 1, 1) := by decide +kernel
theorem dX0_pays_22 : decode cX0_pays 22 = .ok (.aload_n 1, 1) := by decide +kernel
theorem dX0_pays_23 : decode cX0_pays 23 = .ok (.getfield 87, 3) := by decide +kernel
theorem dX0_pays_26 : decode cX0_pays 26 = .ok (.invokevirtual 107, 3) := by decide +kernel
theorem dX0_pays_29 : decode cX0_pays 29 = .ok (.goto 4, 3) := by decide +kernel
theorem dX0_pays_32 : decode cX0_pays 32 = .ok (.iload_n 3, 1) := by decide +kernel
theorem dX0_pays_33 : decode cX0_pays 33 = .ok (.istore 4, 2) := by decide +kernel
theorem dX0_pays_35 : decode cX0_pays 35 = .ok (.aload_n 1, 1) := by decide +kernel
theorem dX0_pays_36 : decode cX0_pays 36 = .ok (.getfield 99, 3) := by decide +kernel
theorem dX0_pays_39 : decode cX0_pays 39 = .ok (.iload 4, 2) := by decide +kernel
theorem dX0_pays_41 : decode cX0_pays 41 = .ok (.if_icmp .ge 5, 3) := by decide +kernel
theorem dX0_pays_44 : decode cX0_pays 44 = .ok (.iconst 0, 1) := by decide +kernel
theorem dX0_pays_45 : decode cX0_pays 45 = .ok (.ireturn, 1) := by decide +kernel
theorem dX0_pays_46 : decode cX0_pays 46 = .ok (.aload_n 1, 1) := by decide +kernel
theorem dX0_pays_47 : decode cX0_pays 47 = .ok (.dup, 1) := by decide +kernel
theorem dX0_pays_48 : decode cX0_pays 48 = .ok (.getfield 99, 3) := by decide +kernel
theorem dX0_pays_51 : decode cX0_pays 51 = .ok (.iload 4, 2) := by decide +kernel
theorem dX0_pays_53 : decode cX0_pays 53 = .ok (.isub, 1) := by decide +kernel
theorem dX0_pays_54 : decode cX0_pays 54 = .ok (.putfield 99, 3) := by decide +kernel
theorem dX0_pays_57 : decode cX0_pays 57 = .ok (.aload_n 1, 1) := by decide +kernel
theorem dX0_pays_58 : decode cX0_pays 58 = .ok (.iconst 1, 1) := by decide +kernel
theorem dX0_pays_59 : decode cX0_pays 59 = .ok (.putfield 173, 3) := by decide +kernel
theorem dX0_pays_62 : decode cX0_pays 62 = .ok (.aload_n 2, 1) := by decide +kernel
theorem dX0_pays_63 : decode cX0_pays 63 = .ok (.aload_n 1, 1) := by decide +kernel
theorem dX0_pays_64 : decode cX0_pays 64 = .ok (.iload 4, 2) := by decide +kernel
theorem dX0_pays_66 : decode cX0_pays 66 = .ok (.iload_n 3, 1) := by decide +kernel
theorem dX0_pays_67 : decode cX0_pays 67 = .ok (.invokevirtual 193, 3) := by decide +kernel
theorem dX0_pays_70 : decode cX0_pays 70 = .ok (.iconst 1, 1) := by decide +kernel
theorem dX0_pays_71 : decode cX0_pays 71 = .ok (.ireturn, 1) := by decide +kernel
theorem dX1_init_0 : decode cX1_init 0 = .ok (.aload_n 0, 1) := by decide +kernel
theorem dX1_init_1 : decode cX1_init 1 = .ok (.invokespecial 3, 3) := by decide +kernel
theorem dX1_init_4 : decode cX1_init 4 = .ok (.aload_n 0, 1) := by decide +kernel
theorem dX1_init_5 : decode cX1_init 5 = .ok (.iconst 0, 1) := by decide +kernel
theorem dX1_init_6 : decode cX1_init 6 = .ok (.putfield 9, 3) := by decide +kernel
theorem dX1_init_9 : decode cX1_init 9 = .ok (.aload_n 0, 1) := by decide +kernel
theorem dX1_init_10 : decode cX1_init 10 = .ok (.iconst (-1), 1) := by decide +kernel
theorem dX1_init_11 : decode cX1_init 11 = .ok (.putfield 15, 3) := by decide +kernel
theorem dX1_init_14 : decode cX1_init 14 = .ok (.aload_n 0, 1) := by decide +kernel
theorem dX1_init_15 : decode cX1_init 15 = .ok (.iload_n 1, 1) := by decide +kernel
theorem dX1_init_16 : decode cX1_init 16 = .ok (.putfield 18, 3) := by decide +kernel
theorem dX1_init_19 : decode cX1_init 19 = .ok (.return_, 1) := by decide +kernel
theorem dX1_copyFrom_0 : decode cX1_copyFrom 0 = .ok (.aload_n 0, 1) := by decide +kernel
theorem dX1_copyFrom_1 : decode cX1_copyFrom 1 = .ok (.aload_n 1, 1) := by decide +kernel
theorem dX1_copyFrom_2 : decode cX1_copyFrom 2 = .ok (.getfield 21, 3) := by decide +kernel
theorem dX1_copyFrom_5 : decode cX1_copyFrom 5 = .ok (.putfield 21, 3) := by decide +kernel
theorem dX1_copyFrom_8 : decode cX1_copyFrom 8 = .ok (.aload_n 0, 1) := by decide +kernel
theorem dX1_copyFrom_9 : decode cX1_copyFrom 9 = .ok (.aload_n 1, 1) := by decide +kernel
theorem dX1_copyFrom_10 : decode cX1_copyFrom 10 = .ok (.getfield 24, 3) := by decide +kernel
theorem dX1_copyFrom_13 : decode cX1_copyFrom 13 = .ok (.putfield 24, 3) := by decide +kernel
theorem dX1_copyFrom_16 : decode cX1_copyFrom 16 = .ok (.aload_n 0, 1) := by decide +kernel
theorem dX1_copyFrom_17 : decode cX1_copyFrom 17 = .ok (.aload_n 1, 1) := by decide +kernel
theorem dX1_copyFrom_18 : decode cX1_copyFrom 18 = .ok (.getfield 27, 3) := by decide +kernel
theorem dX1_copyFrom_21 : decode cX1_copyFrom 21 = .ok (.putfield 27, 3) := by decide +kernel
theorem dX1_copyFrom_24 : decode cX1_copyFrom 24 = .ok (.aload_n 0, 1) := by decide +kernel
theorem dX1_copyFrom_25 : decode cX1_copyFrom 25 = .ok (.aload_n 1, 1) := by decide +kernel
theorem dX1_copyFrom_26 : decode cX1_copyFrom 26 = .ok (.getfield 30, 3) := by decide +kernel
theorem dX1_copyFrom_29 : decode cX1_copyFrom 29 = .ok (.putfield 30, 3) := by decide +kernel
theorem dX1_copyFrom_32 : decode cX1_copyFrom 32 = .ok (.aload_n 0, 1) := by decide +kernel
theorem dX1_copyFrom_33 : decode cX1_copyFrom 33 = .ok (.aload_n 1, 1) := by decide +kernel
theorem dX1_copyFrom_34 : decode cX1_copyFrom 34 = .ok (.getfield 33, 3) := by decide +kernel
theorem dX1_copyFrom_37 : decode cX1_copyFrom 37 = .ok (.putfield 33, 3) := by decide +kernel
theorem dX1_copyFrom_40 : decode cX1_copyFrom 40 = .ok (.aload_n 0, 1) := by decide +kernel
theorem dX1_copyFrom_41 : decode cX1_copyFrom 41 = .ok (.aload_n 1, 1) := by decide +kernel
theorem dX1_copyFrom_42 : decode cX1_copyFrom 42 = .ok (.getfield 36, 3) := by decide +kernel
theorem dX1_copyFrom_45 : decode cX1_copyFrom 45 = .ok (.putfield 36, 3) := by decide +kernel
theorem dX1_copyFrom_48 : decode cX1_copyFrom 48 = .ok (.aload_n 0, 1) := by decide +kernel
theorem dX1_copyFrom_49 : decode cX1_copyFrom 49 = .ok (.aload_n 1, 1) := by decide +kernel
theorem dX1_copyFrom_50 : decode cX1_copyFrom 50 = .ok (.getfield 40, 3) := by decide +kernel
theorem dX1_copyFrom_53 : decode cX1_copyFrom 53 = .ok (.putfield 40, 3) := by decide +kernel
theorem dX1_copyFrom_56 : decode cX1_copyFrom 56 = .ok (.aload_n 0, 1) := by decide +kernel
theorem dX1_copyFrom_57 : decode cX1_copyFrom 57 = .ok (.aload_n 1, 1) := by decide +kernel
theorem dX1_copyFrom_58 : decode cX1_copyFrom 58 = .ok (.getfield 9, 3) := by decide +kernel
theorem dX1_copyFrom_61 : decode cX1_copyFrom 61 = .ok (.putfield 9, 3) := by decide +kernel
theorem dX1_copyFrom_64 : decode cX1_copyFrom 64 = .ok (.aload_n 0, 1) := by decide +kernel
theorem dX1_copyFrom_65 : decode cX1_copyFrom 65 = .ok (.aload_n 1, 1) := by decide +kernel
theorem dX1_copyFrom_66 : decode cX1_copyFrom 66 = .ok (.getfield 43, 3) := by decide +kernel
theorem dX1_copyFrom_69 : decode cX1_copyFrom 69 = .ok (.putfield 43, 3) := by decide +kernel
theorem dX1_copyFrom_72 : decode cX1_copyFrom 72 = .ok (.aload_n 0, 1) := by decide +kernel
theorem dX1_copyFrom_73 : decode cX1_copyFrom 73 = .ok (.aload_n 1, 1) := by decide +kernel
theorem dX1_copyFrom_74 : decode cX1_copyFrom 74 = .ok (.getfield 15, 3) := by decide +kernel
theorem dX1_copyFrom_77 : decode cX1_copyFrom 77 = .ok (.putfield 15, 3) := by decide +kernel
theorem dX1_copyFrom_80 : decode cX1_copyFrom 80 = .ok (.return_, 1) := by decide +kernel
theorem dX2_init_0 : decode cX2_init 0 = .ok (.aload_n 0, 1) := by decide +kernel
theorem dX2_init_1 : decode cX2_init 1 = .ok (.invokespecial 3, 3) := by decide +kernel
theorem dX2_init_4 : decode cX2_init 4 = .ok (.aload_n 0, 1) := by decide +kernel
theorem dX2_init_5 : decode cX2_init 5 = .ok (.bipush 8, 2) := by decide +kernel
theorem dX2_init_7 : decode cX2_init 7 = .ok (.newarray .int, 2) := by decide +kernel
theorem dX2_init_9 : decode cX2_init 9 = .ok (.putfield 9, 3) := by decide +kernel
theorem dX2_init_12 : decode cX2_init 12 = .ok (.aload_n 0, 1) := by decide +kernel
theorem dX2_init_13 : decode cX2_init 13 = .ok (.bipush 21, 2) := by decide +kernel
theorem dX2_init_15 : decode cX2_init 15 = .ok (.newarray .int, 2) := by decide +kernel
theorem dX2_init_17 : decode cX2_init 17 = .ok (.putfield 15, 3) := by decide +kernel
theorem dX2_init_20 : decode cX2_init 20 = .ok (.return_, 1) := by decide +kernel
theorem dX2_isFull_0 : decode cX2_isFull 0 = .ok (.aload_n 0, 1) := by decide +kernel
theorem dX2_isFull_1 : decode cX2_isFull 1 = .ok (.getfield 18, 3) := by decide +kernel
theorem dX2_isFull_4 : decode cX2_isFull 4 = .ok (.aload_n 0, 1) := by decide +kernel
theorem dX2_isFull_5 : decode cX2_isFull 5 = .ok (.getfield 9, 3) := by decide +kernel
theorem dX2_isFull_8 : decode cX2_isFull 8 = .ok (.arraylength, 1) := by decide +kernel
theorem dX2_isFull_9 : decode cX2_isFull 9 = .ok (.if_icmp .lt 7, 3) := by decide +kernel
theorem dX2_isFull_12 : decode cX2_isFull 12 = .ok (.iconst 1, 1) := by decide +kernel
theorem dX2_isFull_13 : decode cX2_isFull 13 = .ok (.goto 4, 3) := by decide +kernel
theorem dX2_isFull_16 : decode cX2_isFull 16 = .ok (.iconst 0, 1) := by decide +kernel
theorem dX2_isFull_17 : decode cX2_isFull 17 = .ok (.ireturn, 1) := by decide +kernel
theorem dX2_isAmbiguousWith_0 : decode cX2_isAmbiguousWith 0 = .ok (.iconst 0, 1) := by decide +kernel
theorem dX2_isAmbiguousWith_1 : decode cX2_isAmbiguousWith 1 = .ok (.istore_n 2, 1) := by decide +kernel
theorem dX2_isAmbiguousWith_2 : decode cX2_isAmbiguousWith 2 = .ok (.iload_n 2, 1) := by decide +kernel
theorem dX2_isAmbiguousWith_3 : decode cX2_isAmbiguousWith 3 = .ok (.aload_n 0, 1) := by decide +kernel
theorem dX2_isAmbiguousWith_4 : decode cX2_isAmbiguousWith 4 = .ok (.getfield 18, 3) := by decide +kernel
theorem dX2_isAmbiguousWith_7 : decode cX2_isAmbiguousWith 7 = .ok (.if_icmp .ge 33, 3) := by decide +kernel
theorem dX2_isAmbiguousWith_10 : decode cX2_isAmbiguousWith 10 = .ok (.aload_n 0, 1) := by decide +kernel
theorem dX2_isAmbiguousWith_11 : decode cX2_isAmbiguousWith 11 = .ok (.iload_n 2, 1) := by decide +kernel
theorem dX2_isAmbiguousWith_12 : decode cX2_isAmbiguousWith 12 = .ok (.invokevirtual 22, 3) := by decide +kernel
theorem dX2_isAmbiguousWith_15 : decode cX2_isAmbiguousWith 15 = .ok (.istore_n 3, 1) := by decide +kernel
theorem dX2_isAmbiguousWith_16 : decode cX2_isAmbiguousWith 16 = .ok (.iload_n 3, 1) := by decide +kernel
theorem dX2_isAmbiguousWith_17 : decode cX2_isAmbiguousWith 17 = .ok (.iload_n 1, 1) := by decide +kernel
theorem dX2_isAmbiguousWith_18 : decode cX2_isAmbiguousWith 18 = .ok (.invokestatic 26, 3) := by decide +kernel
theorem dX2_isAmbiguousWith_21 : decode cX2_isAmbiguousWith 21 = .ok (.ifCond .ne 11, 3) := by decide +kernel
theorem dX2_isAmbiguousWith_24 : decode cX2_isAmbiguousWith 24 = .ok (.iload_n 1, 1) := by decide +kernel
theorem dX2_isAmbiguousWith_25 : decode cX2_isAmbiguousWith 25 = .ok (.iload_n 3, 1) := by decide +kernel
theorem dX2_isAmbiguousWith_26 : decode cX2_isAmbiguousWith 26 = .ok (.invokestatic 26, 3) := by decide +kernel
theorem dX2_isAmbiguousWith_29 : decode cX2_isAmbiguousWith 29 = .ok (.ifCond .eq 5, 3) := by decide +kernel
theorem dX2_isAmbiguousWith_32 : decode cX2_isAmbiguousWith 32 = .ok (.iconst 1, 1) := by decide +kernel
theorem dX2_isAmbiguousWith_33 : decode cX2_isAmbiguousWith 33 = .ok (.ireturn, 1) := by decide +kernel
theorem dX2_isAmbiguousWith_34 : decode cX2_isAmbiguousWith 34 = .ok (.iinc 2 1, 3) := by decide +kernel
theorem dX2_isAmbiguousWith_37 : decode cX2_isAmbiguousWith 37 = .ok (.goto (-35), 3) := by decide +kernel
theorem dX2_isAmbiguousWith_40 : decode cX2_isAmbiguousWith 40 = .ok (.iconst 0, 1) := by decide +kernel
theorem dX2_isAmbiguousWith_41 : decode cX2_isAmbiguousWith 41 = .ok (.ireturn, 1) := by decide +kernel
theorem dX2_add_0 : decode cX2_add 0 = .ok (.aload_n 0, 1) := by decide +kernel
theorem dX2_add_1 : decode cX2_add 1 = .ok (.getfield 18, 3) := by decide +kernel
theorem dX2_add_4 : decode cX2_add 4 = .ok (.aload_n 0, 1) := by decide +kernel
theorem dX2_add_5 : decode cX2_add 5 = .ok (.getfield 9, 3) := by decide +kernel
theorem dX2_add_8 : decode cX2_add 8 = .ok (.arraylength, 1) := by decide +kernel
theorem dX2_add_9 : decode cX2_add 9 = .ok (.invokestatic 32, 3) := by decide +kernel
theorem dX2_add_12 : decode cX2_add 12 = .ok (.ifCond .ne 5, 3) := by decide +kernel
theorem dX2_add_15 : decode cX2_add 15 = .ok (.iconst (-1), 1) := by decide +kernel
theorem dX2_add_16 : decode cX2_add 16 = .ok (.ireturn, 1) := by decide +kernel
theorem dX2_add_17 : decode cX2_add 17 = .ok (.aload_n 0, 1) := by decide +kernel
theorem dX2_add_18 : decode cX2_add 18 = .ok (.getfield 9, 3) := by decide +kernel
theorem dX2_add_21 : decode cX2_add 21 = .ok (.aload_n 0, 1) := by decide +kernel
theorem dX2_add_22 : decode cX2_add 22 = .ok (.getfield 18, 3) := by decide +kernel
theorem dX2_add_25 : decode cX2_add 25 = .ok (.iload_n 1, 1) := by decide +kernel
theorem dX2_add_26 : decode cX2_add 26 = .ok (.iastore, 1) := by decide +kernel
theorem dX2_add_27 : decode cX2_add 27 = .ok (.aload_n 0, 1) := by decide +kernel
theorem dX2_add_28 : decode cX2_add 28 = .ok (.dup, 1) := by decide +kernel
theorem dX2_add_29 : decode cX2_add 29 = .ok (.getfield 18, 3) := by decide +kernel
theorem dX2_add_32 : decode cX2_add 32 = .ok (.iconst 1, 1) := by decide +kernel
theorem dX2_add_33 : decode cX2_add 33 = .ok (.iadd, 1) := by decide +kernel
theorem dX2_add_34 : decode cX2_add 34 = .ok (.putfield 18, 3) := by decide +kernel
theorem dX2_add_37 : decode cX2_add 37 = .ok (.aload_n 0, 1) := by decide +kernel
theorem dX2_add_38 : decode cX2_add 38 = .ok (.getfield 18, 3) := by decide +kernel
theorem dX2_add_41 : decode cX2_add 41 = .ok (.iconst 1, 1) := by decide +kernel
theorem dX2_add_42 : decode cX2_add 42 = .ok (.isub, 1) := by decide +kernel
theorem dX2_add_43 : decode cX2_add 43 = .ok (.ireturn, 1) := by decide +kernel
theorem dX2_ringsOf_0 : decode cX2_ringsOf 0 = .ok (.iload_n 1, 1) := by decide +kernel
theorem dX2_ringsOf_1 : decode cX2_ringsOf 1 = .ok (.aload_n 0, 1) := by decide +kernel
theorem dX2_ringsOf_2 : decode cX2_ringsOf 2 = .ok (.getfield 9, 3) := by decide +kernel
theorem dX2_ringsOf_5 : decode cX2_ringsOf 5 = .ok (.arraylength, 1) := by decide +kernel
theorem dX2_ringsOf_6 : decode cX2_ringsOf 6 = .ok (.invokestatic 32, 3) := by decide +kernel
theorem dX2_ringsOf_9 : decode cX2_ringsOf 9 = .ok (.ifCond .eq 12, 3) := by decide +kernel
theorem dX2_ringsOf_12 : decode cX2_ringsOf 12 = .ok (.aload_n 0, 1) := by decide +kernel
theorem dX2_ringsOf_13 : decode cX2_ringsOf 13 = .ok (.getfield 9, 3) := by decide +kernel
theorem dX2_ringsOf_16 : decode cX2_ringsOf 16 = .ok (.iload_n 1, 1) := by decide +kernel
theorem dX2_ringsOf_17 : decode cX2_ringsOf 17 = .ok (.iaload, 1) := by decide +kernel
theorem dX2_ringsOf_18 : decode cX2_ringsOf 18 = .ok (.goto 4, 3) := by decide +kernel
theorem dX2_ringsOf_21 : decode cX2_ringsOf 21 = .ok (.iconst 0, 1) := by decide +kernel
theorem dX2_ringsOf_22 : decode cX2_ringsOf 22 = .ok (.ireturn, 1) := by decide +kernel
theorem dX2_readRow_0 : decode cX2_readRow 0 = .ok (.iload_n 1, 1) := by decide +kernel
theorem dX2_readRow_1 : decode cX2_readRow 1 = .ok (.istore_n 3, 1) := by decide +kernel
theorem dX2_readRow_2 : decode cX2_readRow 2 = .ok (.iconst 0, 1) := by decide +kernel
theorem dX2_readRow_3 : decode cX2_readRow 3 = .ok (.istore 4, 2) := by decide +kernel
theorem dX2_readRow_5 : decode cX2_readRow 5 = .ok (.iconst (-1), 1) := by decide +kernel
theorem dX2_readRow_6 : decode cX2_readRow 6 = .ok (.istore 5, 2) := by decide +kernel
theorem dX2_readRow_8 : decode cX2_readRow 8 = .ok (.iconst 0, 1) := by decide +kernel
theorem dX2_readRow_9 : decode cX2_readRow 9 = .ok (.istore 6, 2) := by decide +kernel
theorem dX2_readRow_11 : decode cX2_readRow 11 = .ok (.iload 6, 2) := by decide +kernel
theorem dX2_readRow_13 : decode cX2_readRow 13 = .ok (.bipush 9, 2) := by decide +kernel
theorem dX2_readRow_15 : decode cX2_readRow 15 = .ok (.if_icmp .ge 43, 3) := by decide +kernel
theorem dX2_readRow_18 : decode cX2_readRow 18 = .ok (.aload_n 0, 1) := by decide +kernel
theorem dX2_readRow_19 : decode cX2_readRow 19 = .ok (.iload_n 3, 1) := by decide +kernel
theorem dX2_readRow_20 : decode cX2_readRow 20 = .ok (.invokevirtual 35, 3) := by decide +kernel
theorem dX2_readRow_23 : decode cX2_readRow 23 = .ok (.istore 7, 2) := by decide +kernel
theorem dX2_readRow_25 : decode cX2_readRow 25 = .ok (.iload 7, 2) := by decide +kernel
theorem dX2_readRow_27 : decode cX2_readRow 27 = .ok (.iconst (-1), 1) := by decide +kernel
theorem dX2_readRow_28 : decode cX2_readRow 28 = .ok (.if_icmp .ne 6, 3) := by decide +kernel
theorem dX2_readRow_31 : decode cX2_readRow 31 = .ok (.goto 27, 3) := by decide +kernel
theorem dX2_readRow_34 : decode cX2_readRow 34 = .ok (.aload_n 0, 1) := by decide +kernel
theorem dX2_readRow_35 : decode cX2_readRow 35 = .ok (.iload 7, 2) := by decide +kernel
theorem dX2_readRow_37 : decode cX2_readRow 37 = .ok (.invokevirtual 22, 3) := by decide +kernel
theorem dX2_readRow_40 : decode cX2_readRow 40 = .ok (.iload_n 3, 1) := by decide +kernel
theorem dX2_readRow_41 : decode cX2_readRow 41 = .ok (.invokestatic 38, 3) := by decide +kernel
theorem dX2_readRow_44 : decode cX2_readRow 44 = .ok (.istore_n 3, 1) := by decide +kernel
theorem dX2_readRow_45 : decode cX2_readRow 45 = .ok (.iinc 4 1, 3) := by decide +kernel
theorem dX2_readRow_48 : decode cX2_readRow 48 = .ok (.iload 7, 2) := by decide +kernel
theorem dX2_readRow_50 : decode cX2_readRow 50 = .ok (.istore 5, 2) := by decide +kernel
theorem dX2_readRow_52 : decode cX2_readRow 52 = .ok (.iinc 6 1, 3) := by decide +kernel
theorem dX2_readRow_55 : decode cX2_readRow 55 = .ok (.goto (-44), 3) := by decide +kernel
theorem dX2_readRow_58 : decode cX2_readRow 58 = .ok (.iload_n 2, 1) := by decide +kernel
theorem dX2_readRow_59 : decode cX2_readRow 59 = .ok (.lookupswitch 31 #[(0, 25), (1, 28)], 25) := by decide +kernel
theorem dX2_readRow_84 : decode cX2_readRow 84 = .ok (.iload 4, 2) := by decide +kernel
theorem dX2_readRow_86 : decode cX2_readRow 86 = .ok (.ireturn, 1) := by decide +kernel
theorem dX2_readRow_87 : decode cX2_readRow 87 = .ok (.iload 5, 2) := by decide +kernel
theorem dX2_readRow_89 : decode cX2_readRow 89 = .ok (.ireturn, 1) := by decide +kernel
theorem dX2_readRow_90 : decode cX2_readRow 90 = .ok (.iload_n 3, 1) := by decide +kernel
theorem dX2_readRow_91 : decode cX2_readRow 91 = .ok (.invokestatic 42, 3) := by decide +kernel
theorem dX2_readRow_94 : decode cX2_readRow 94 = .ok (.ireturn, 1) := by decide +kernel
theorem dX2_safeRings_0 : decode cX2_safeRings 0 = .ok (.iload_n 1, 1) := by decide +kernel
theorem dX2_safeRings_1 : decode cX2_safeRings 1 = .ok (.invokestatic 42, 3) := by decide +kernel
theorem dX2_safeRings_4 : decode cX2_safeRings 4 = .ok (.istore_n 2, 1) := by decide +kernel
theorem dX2_safeRings_5 : decode cX2_safeRings 5 = .ok (.iconst 0, 1) := by decide +kernel
theorem dX2_safeRings_6 : decode cX2_safeRings 6 = .ok (.istore_n 3, 1) := by decide +kernel
theorem dX2_safeRings_7 : decode cX2_safeRings 7 = .ok (.iconst 0, 1) := by decide +kernel
theorem dX2_safeRings_8 : decode cX2_safeRings 8 = .ok (.istore 4, 2) := by decide +kernel
theorem dX2_safeRings_10 : decode cX2_safeRings 10 = .ok (.iload 4, 2) := by decide +kernel
theorem dX2_safeRings_12 : decode cX2_safeRings 12 = .ok (.iload_n 2, 1) := by decide +kernel
theorem dX2_safeRings_13 : decode cX2_safeRings 13 = .ok (.if_icmp .ge 35, 3) := by decide +kernel
theorem dX2_safeRings_16 : decode cX2_safeRings 16 = .ok (.iload_n 1, 1) := by decide +kernel
theorem dX2_safeRings_17 : decode cX2_safeRings 17 = .ok (.iload 4, 2) := by decide +kernel
theorem dX2_safeRings_19 : decode cX2_safeRings 19 = .ok (.invokestatic 45, 3) := by decide +kernel
theorem dX2_safeRings_22 : decode cX2_safeRings 22 = .ok (.istore 5, 2) := by decide +kernel
theorem dX2_safeRings_24 : decode cX2_safeRings 24 = .ok (.iload 5, 2) := by decide +kernel
theorem dX2_safeRings_26 : decode cX2_safeRings 26 = .ok (.ifCond .eq 13, 3) := by decide +kernel
theorem dX2_safeRings_29 : decode cX2_safeRings 29 = .ok (.aload_n 0, 1) := by decide +kernel
theorem dX2_safeRings_30 : decode cX2_safeRings 30 = .ok (.iload 5, 2) := by decide +kernel
theorem dX2_safeRings_32 : decode cX2_safeRings 32 = .ok (.iconst 2, 1) := by decide +kernel
theorem dX2_safeRings_33 : decode cX2_safeRings 33 = .ok (.invokevirtual 48, 3) := by decide +kernel
theorem dX2_safeRings_36 : decode cX2_safeRings 36 = .ok (.ifCond .le 6, 3) := by decide +kernel
theorem dX2_safeRings_39 : decode cX2_safeRings 39 = .ok (.iinc 3 1, 3) := by decide +kernel
theorem dX2_safeRings_42 : decode cX2_safeRings 42 = .ok (.iinc 4 1, 3) := by decide +kernel
theorem dX2_safeRings_45 : decode cX2_safeRings 45 = .ok (.goto (-35), 3) := by decide +kernel
theorem dX2_safeRings_48 : decode cX2_safeRings 48 = .ok (.iload_n 3, 1) := by decide +kernel
theorem dX2_safeRings_49 : decode cX2_safeRings 49 = .ok (.ireturn, 1) := by decide +kernel
theorem dX2_wholeRows_0 : decode cX2_wholeRows 0 = .ok (.iload_n 1, 1) := by decide +kernel
theorem dX2_wholeRows_1 : decode cX2_wholeRows 1 = .ok (.aload_n 0, 1) := by decide +kernel
theorem dX2_wholeRows_2 : decode cX2_wholeRows 2 = .ok (.getfield 15, 3) := by decide +kernel
theorem dX2_wholeRows_5 : decode cX2_wholeRows 5 = .ok (.arraylength, 1) := by decide +kernel
theorem dX2_wholeRows_6 : decode cX2_wholeRows 6 = .ok (.invokestatic 32, 3) := by decide +kernel
theorem dX2_wholeRows_9 : decode cX2_wholeRows 9 = .ok (.ifCond .ne 5, 3) := by decide +kernel
theorem dX2_wholeRows_12 : decode cX2_wholeRows 12 = .ok (.iconst 0, 1) := by decide +kernel
theorem dX2_wholeRows_13 : decode cX2_wholeRows 13 = .ok (.ireturn, 1) := by decide +kernel
theorem dX2_wholeRows_14 : decode cX2_wholeRows 14 = .ok (.aload_n 0, 1) := by decide +kernel
theorem dX2_wholeRows_15 : decode cX2_wholeRows 15 = .ok (.getfield 15, 3) := by decide +kernel
theorem dX2_wholeRows_18 : decode cX2_wholeRows 18 = .ok (.iconst 0, 1) := by decide +kernel
theorem dX2_wholeRows_19 : decode cX2_wholeRows 19 = .ok (.iconst 1, 1) := by decide +kernel
theorem dX2_wholeRows_20 : decode cX2_wholeRows 20 = .ok (.iastore, 1) := by decide +kernel
theorem dX2_wholeRows_21 : decode cX2_wholeRows 21 = .ok (.iconst 1, 1) := by decide +kernel
theorem dX2_wholeRows_22 : decode cX2_wholeRows 22 = .ok (.istore_n 2, 1) := by decide +kernel
theorem dX2_wholeRows_23 : decode cX2_wholeRows 23 = .ok (.iload_n 2, 1) := by decide +kernel
theorem dX2_wholeRows_24 : decode cX2_wholeRows 24 = .ok (.iload_n 1, 1) := by decide +kernel
theorem dX2_wholeRows_25 : decode cX2_wholeRows 25 = .ok (.if_icmp .gt 20, 3) := by decide +kernel
theorem dX2_wholeRows_28 : decode cX2_wholeRows 28 = .ok (.aload_n 0, 1) := by decide +kernel
theorem dX2_wholeRows_29 : decode cX2_wholeRows 29 = .ok (.getfield 15, 3) := by decide +kernel
theorem dX2_wholeRows_32 : decode cX2_wholeRows 32 = .ok (.iload_n 2, 1) := by decide +kernel
theorem dX2_wholeRows_33 : decode cX2_wholeRows 33 = .ok (.aload_n 0, 1) := by decide +kernel
theorem dX2_wholeRows_34 : decode cX2_wholeRows 34 = .ok (.iload_n 2, 1) := by decide +kernel
theorem dX2_wholeRows_35 : decode cX2_wholeRows 35 = .ok (.invokevirtual 51, 3) := by decide +kernel
theorem dX2_wholeRows_38 : decode cX2_wholeRows 38 = .ok (.iastore, 1) := by decide +kernel
theorem dX2_wholeRows_39 : decode cX2_wholeRows 39 = .ok (.iinc 2 1, 3) := by decide +kernel
theorem dX2_wholeRows_42 : decode cX2_wholeRows 42 = .ok (.goto (-19), 3) := by decide +kernel
theorem dX2_wholeRows_45 : decode cX2_wholeRows 45 = .ok (.aload_n 0, 1) := by decide +kernel
theorem dX2_wholeRows_46 : decode cX2_wholeRows 46 = .ok (.getfield 15, 3) := by decide +kernel
theorem dX2_wholeRows_49 : decode cX2_wholeRows 49 = .ok (.iload_n 1, 1) := by decide +kernel
theorem dX2_wholeRows_50 : decode cX2_wholeRows 50 = .ok (.iaload, 1) := by decide +kernel
theorem dX2_wholeRows_51 : decode cX2_wholeRows 51 = .ok (.ireturn, 1) := by decide +kernel
theorem dX2_mixedInto_0 : decode cX2_mixedInto 0 = .ok (.lload_n 1, 1) := by decide +kernel
theorem dX2_mixedInto_1 : decode cX2_mixedInto 1 = .ok (.lstore_n 3, 1) := by decide +kernel
theorem dX2_mixedInto_2 : decode cX2_mixedInto 2 = .ok (.iconst 0, 1) := by decide +kernel
theorem dX2_mixedInto_3 : decode cX2_mixedInto 3 = .ok (.istore 5, 2) := by decide +kernel
theorem dX2_mixedInto_5 : decode cX2_mixedInto 5 = .ok (.iload 5, 2) := by decide +kernel
theorem dX2_mixedInto_7 : decode cX2_mixedInto 7 = .ok (.aload_n 0, 1) := by decide +kernel
theorem dX2_mixedInto_8 : decode cX2_mixedInto 8 = .ok (.getfield 18, 3) := by decide +kernel
theorem dX2_mixedInto_11 : decode cX2_mixedInto 11 = .ok (.if_icmp .ge 20, 3) := by decide +kernel
theorem dX2_mixedInto_14 : decode cX2_mixedInto 14 = .ok (.lload_n 3, 1) := by decide +kernel
theorem dX2_mixedInto_15 : decode cX2_mixedInto 15 = .ok (.aload_n 0, 1) := by decide +kernel
theorem dX2_mixedInto_16 : decode cX2_mixedInto 16 = .ok (.iload 5, 2) := by decide +kernel
theorem dX2_mixedInto_18 : decode cX2_mixedInto 18 = .ok (.invokevirtual 22, 3) := by decide +kernel
theorem dX2_mixedInto_21 : decode cX2_mixedInto 21 = .ok (.invokestatic 54, 3) := by decide +kernel
theorem dX2_mixedInto_24 : decode cX2_mixedInto 24 = .ok (.lstore_n 3, 1) := by decide +kernel
theorem dX2_mixedInto_25 : decode cX2_mixedInto 25 = .ok (.iinc 5 1, 3) := by decide +kernel
theorem dX2_mixedInto_28 : decode cX2_mixedInto 28 = .ok (.goto (-23), 3) := by decide +kernel
theorem dX2_mixedInto_31 : decode cX2_mixedInto 31 = .ok (.lload_n 3, 1) := by decide +kernel
theorem dX2_mixedInto_32 : decode cX2_mixedInto 32 = .ok (.lreturn, 1) := by decide +kernel
theorem dX2_signalAtBeginningOf_0 : decode cX2_signalAtBeginningOf 0 = .ok (.iconst 0, 1) := by decide +kernel
theorem dX2_signalAtBeginningOf_1 : decode cX2_signalAtBeginningOf 1 = .ok (.istore_n 2, 1) := by decide +kernel
theorem dX2_signalAtBeginningOf_2 : decode cX2_signalAtBeginningOf 2 = .ok (.iload_n 2, 1) := by decide +kernel
theorem dX2_signalAtBeginningOf_3 : decode cX2_signalAtBeginningOf 3 = .ok (.aload_n 0, 1) := by decide +kernel
theorem dX2_signalAtBeginningOf_4 : decode cX2_signalAtBeginningOf 4 = .ok (.getfield 18, 3) := by decide +kernel
theorem dX2_signalAtBeginningOf_7 : decode cX2_signalAtBeginningOf 7 = .ok (.if_icmp .ge 23, 3) := by decide +kernel
theorem dX2_signalAtBeginningOf_10 : decode cX2_signalAtBeginningOf 10 = .ok (.aload_n 0, 1) := by decide +kernel
theorem dX2_signalAtBeginningOf_11 : decode cX2_signalAtBeginningOf 11 = .ok (.iload_n 2, 1) := by decide +kernel
theorem dX2_signalAtBeginningOf_12 : decode cX2_signalAtBeginningOf 12 = .ok (.invokevirtual 22, 3) := by decide +kernel
theorem dX2_signalAtBeginningOf_15 : decode cX2_signalAtBeginningOf 15 = .ok (.iload_n 1, 1) := by decide +kernel
theorem dX2_signalAtBeginningOf_16 : decode cX2_signalAtBeginningOf 16 = .ok (.invokestatic 26, 3) := by decide +kernel
theorem dX2_signalAtBeginningOf_19 : decode cX2_signalAtBeginningOf 19 = .ok (.ifCond .eq 5, 3) := by decide +kernel
theorem dX2_signalAtBeginningOf_22 : decode cX2_signalAtBeginningOf 22 = .ok (.iload_n 2, 1) := by decide +kernel
theorem dX2_signalAtBeginningOf_23 : decode cX2_signalAtBeginningOf 23 = .ok (.ireturn, 1) := by decide +kernel
theorem dX2_signalAtBeginningOf_24 : decode cX2_signalAtBeginningOf 24 = .ok (.iinc 2 1, 3) := by decide +kernel
theorem dX2_signalAtBeginningOf_27 : decode cX2_signalAtBeginningOf 27 = .ok (.goto (-25), 3) := by decide +kernel
theorem dX2_signalAtBeginningOf_30 : decode cX2_signalAtBeginningOf 30 = .ok (.iconst (-1), 1) := by decide +kernel
theorem dX2_signalAtBeginningOf_31 : decode cX2_signalAtBeginningOf 31 = .ok (.ireturn, 1) := by decide +kernel
theorem dX2_rowsByLastSignal_0 : decode cX2_rowsByLastSignal 0 = .ok (.iconst 0, 1) := by decide +kernel
theorem dX2_rowsByLastSignal_1 : decode cX2_rowsByLastSignal 1 = .ok (.istore_n 2, 1) := by decide +kernel
theorem dX2_rowsByLastSignal_2 : decode cX2_rowsByLastSignal 2 = .ok (.iconst 0, 1) := by decide +kernel
theorem dX2_rowsByLastSignal_3 : decode cX2_rowsByLastSignal 3 = .ok (.istore_n 3, 1) := by decide +kernel
theorem dX2_rowsByLastSignal_4 : decode cX2_rowsByLastSignal 4 = .ok (.iload_n 3, 1) := by decide +kernel
theorem dX2_rowsByLastSignal_5 : decode cX2_rowsByLastSignal 5 = .ok (.aload_n 0, 1) := by decide +kernel
theorem dX2_rowsByLastSignal_6 : decode cX2_rowsByLastSignal 6 = .ok (.getfield 18, 3) := by decide +kernel
theorem dX2_rowsByLastSignal_9 : decode cX2_rowsByLastSignal 9 = .ok (.if_icmp .ge 44, 3) := by decide +kernel
theorem dX2_rowsByLastSignal_12 : decode cX2_rowsByLastSignal 12 = .ok (.iload_n 1, 1) := by decide +kernel
theorem dX2_rowsByLastSignal_13 : decode cX2_rowsByLastSignal 13 = .ok (.aload_n 0, 1) := by decide +kernel
theorem dX2_rowsByLastSignal_14 : decode cX2_rowsByLastSignal 14 = .ok (.iload_n 3, 1) := by decide +kernel
theorem dX2_rowsByLastSignal_15 : decode cX2_rowsByLastSignal 15 = .ok (.invokevirtual 22, 3) := by decide +kernel
theorem dX2_rowsByLastSignal_18 : decode cX2_rowsByLastSignal 18 = .ok (.invokestatic 42, 3) := by decide +kernel
theorem dX2_rowsByLastSignal_21 : decode cX2_rowsByLastSignal 21 = .ok (.isub, 1) := by decide +kernel
theorem dX2_rowsByLastSignal_22 : decode cX2_rowsByLastSignal 22 = .ok (.istore 4, 2) := by decide +kernel
theorem dX2_rowsByLastSignal_24 : decode cX2_rowsByLastSignal 24 = .ok (.iload 4, 2) := by decide +kernel
theorem dX2_rowsByLastSignal_26 : decode cX2_rowsByLastSignal 26 = .ok (.aload_n 0, 1) := by decide +kernel
theorem dX2_rowsByLastSignal_27 : decode cX2_rowsByLastSignal 27 = .ok (.getfield 15, 3) := by decide +kernel
theorem dX2_rowsByLastSignal_30 : decode cX2_rowsByLastSignal 30 = .ok (.arraylength, 1) := by decide +kernel
theorem dX2_rowsByLastSignal_31 : decode cX2_rowsByLastSignal 31 = .ok (.invokestatic 32, 3) := by decide +kernel
theorem dX2_rowsByLastSignal_34 : decode cX2_rowsByLastSignal 34 = .ok (.ifCond .eq 13, 3) := by decide +kernel
theorem dX2_rowsByLastSignal_37 : decode cX2_rowsByLastSignal 37 = .ok (.iload_n 2, 1) := by decide +kernel
theorem dX2_rowsByLastSignal_38 : decode cX2_rowsByLastSignal 38 = .ok (.aload_n 0, 1) := by decide +kernel
theorem dX2_rowsByLastSignal_39 : decode cX2_rowsByLastSignal 39 = .ok (.getfield 15, 3) := by decide +kernel
theorem dX2_rowsByLastSignal_42 : decode cX2_rowsByLastSignal 42 = .ok (.iload 4, 2) := by decide +kernel
theorem dX2_rowsByLastSignal_44 : decode cX2_rowsByLastSignal 44 = .ok (.iaload, 1) := by decide +kernel
theorem dX2_rowsByLastSignal_45 : decode cX2_rowsByLastSignal 45 = .ok (.iadd, 1) := by decide +kernel
theorem dX2_rowsByLastSignal_46 : decode cX2_rowsByLastSignal 46 = .ok (.istore_n 2, 1) := by decide +kernel
theorem dX2_rowsByLastSignal_47 : decode cX2_rowsByLastSignal 47 = .ok (.iinc 3 1, 3) := by decide +kernel
theorem dX2_rowsByLastSignal_50 : decode cX2_rowsByLastSignal 50 = .ok (.goto (-46), 3) := by decide +kernel
theorem dX2_rowsByLastSignal_53 : decode cX2_rowsByLastSignal 53 = .ok (.iload_n 2, 1) := by decide +kernel
theorem dX2_rowsByLastSignal_54 : decode cX2_rowsByLastSignal 54 = .ok (.ireturn, 1) := by decide +kernel
theorem dX3_init_0 : decode cX3_init 0 = .ok (.aload_n 0, 1) := by decide +kernel
theorem dX3_init_1 : decode cX3_init 1 = .ok (.invokespecial 3, 3) := by decide +kernel
theorem dX3_init_4 : decode cX3_init 4 = .ok (.aload_n 0, 1) := by decide +kernel
theorem dX3_init_5 : decode cX3_init 5 = .ok (.new 9, 3) := by decide +kernel
theorem dX3_init_8 : decode cX3_init 8 = .ok (.dup, 1) := by decide +kernel
theorem dX3_init_9 : decode cX3_init 9 = .ok (.invokespecial 11, 3) := by decide +kernel
theorem dX3_init_12 : decode cX3_init 12 = .ok (.putfield 12, 3) := by decide +kernel
theorem dX3_init_15 : decode cX3_init 15 = .ok (.return_, 1) := by decide +kernel
theorem dX3_take_0 : decode cX3_take 0 = .ok (.aload_n 0, 1) := by decide +kernel
theorem dX3_take_1 : decode cX3_take 1 = .ok (.dup, 1) := by decide +kernel
theorem dX3_take_2 : decode cX3_take 2 = .ok (.getfield 18, 3) := by decide +kernel
theorem dX3_take_5 : decode cX3_take 5 = .ok (.iload_n 2, 1) := by decide +kernel
theorem dX3_take_6 : decode cX3_take 6 = .ok (.iadd, 1) := by decide +kernel
theorem dX3_take_7 : decode cX3_take 7 = .ok (.putfield 18, 3) := by decide +kernel
theorem dX3_take_10 : decode cX3_take 10 = .ok (.aload_n 0, 1) := by decide +kernel
theorem dX3_take_11 : decode cX3_take 11 = .ok (.dup, 1) := by decide +kernel
theorem dX3_take_12 : decode cX3_take 12 = .ok (.getfield 22, 3) := by decide +kernel
theorem dX3_take_15 : decode cX3_take 15 = .ok (.iconst 1, 1) := by decide +kernel
theorem dX3_take_16 : decode cX3_take 16 = .ok (.iadd, 1) := by decide +kernel
theorem dX3_take_17 : decode cX3_take 17 = .ok (.putfield 22, 3) := by decide +kernel
theorem dX3_take_20 : decode cX3_take 20 = .ok (.aload_n 0, 1) := by decide +kernel
theorem dX3_take_21 : decode cX3_take 21 = .ok (.dup, 1) := by decide +kernel
theorem dX3_take_22 : decode cX3_take 22 = .ok (.getfield 25, 3) := by decide +kernel
theorem dX3_take_25 : decode cX3_take 25 = .ok (.aload_n 1, 1) := by decide +kernel
theorem dX3_take_26 : decode cX3_take 26 = .ok (.getfield 28, 3) := by decide +kernel
theorem dX3_take_29 : decode cX3_take 29 = .ok (.iadd, 1) := by decide +kernel
theorem dX3_take_30 : decode cX3_take 30 = .ok (.putfield 25, 3) := by decide +kernel
theorem dX3_take_33 : decode cX3_take 33 = .ok (.aload_n 0, 1) := by decide +kernel
theorem dX3_take_34 : decode cX3_take 34 = .ok (.dup, 1) := by decide +kernel
theorem dX3_take_35 : decode cX3_take 35 = .ok (.getfield 31, 3) := by decide +kernel
theorem dX3_take_38 : decode cX3_take 38 = .ok (.iload_n 3, 1) := by decide +kernel
theorem dX3_take_39 : decode cX3_take 39 = .ok (.iload_n 2, 1) := by decide +kernel
theorem dX3_take_40 : decode cX3_take 40 = .ok (.isub, 1) := by decide +kernel
theorem dX3_take_41 : decode cX3_take 41 = .ok (.iadd, 1) := by decide +kernel
theorem dX3_take_42 : decode cX3_take 42 = .ok (.putfield 31, 3) := by decide +kernel
theorem dX3_take_45 : decode cX3_take 45 = .ok (.return_, 1) := by decide +kernel
theorem dX3_tell_0 : decode cX3_tell 0 = .ok (.iload_n 1, 1) := by decide +kernel
theorem dX3_tell_1 : decode cX3_tell 1 = .ok (.tableswitch 42 0 2 #[27, 32, 37], 27) := by decide +kernel
theorem dX3_tell_28 : decode cX3_tell 28 = .ok (.aload_n 0, 1) := by decide +kernel
theorem dX3_tell_29 : decode cX3_tell 29 = .ok (.getfield 18, 3) := by decide +kernel
theorem dX3_tell_32 : decode cX3_tell 32 = .ok (.ireturn, 1) := by decide +kernel
theorem dX3_tell_33 : decode cX3_tell 33 = .ok (.aload_n 0, 1) := by decide +kernel
theorem dX3_tell_34 : decode cX3_tell 34 = .ok (.getfield 22, 3) := by decide +kernel
theorem dX3_tell_37 : decode cX3_tell 37 = .ok (.ireturn, 1) := by decide +kernel
theorem dX3_tell_38 : decode cX3_tell 38 = .ok (.aload_n 0, 1) := by decide +kernel
theorem dX3_tell_39 : decode cX3_tell 39 = .ok (.getfield 25, 3) := by decide +kernel
theorem dX3_tell_42 : decode cX3_tell 42 = .ok (.ireturn, 1) := by decide +kernel
theorem dX3_tell_43 : decode cX3_tell 43 = .ok (.aload_n 0, 1) := by decide +kernel
theorem dX3_tell_44 : decode cX3_tell 44 = .ok (.getfield 12, 3) := by decide +kernel
theorem dX3_tell_47 : decode cX3_tell 47 = .ok (.getfield 34, 3) := by decide +kernel
theorem dX3_tell_50 : decode cX3_tell 50 = .ok (.ireturn, 1) := by decide +kernel
theorem dX3_mixedInto_0 : decode cX3_mixedInto 0 = .ok (.lload_n 1, 1) := by decide +kernel
theorem dX3_mixedInto_1 : decode cX3_mixedInto 1 = .ok (.lstore_n 3, 1) := by decide +kernel
theorem dX3_mixedInto_2 : decode cX3_mixedInto 2 = .ok (.iconst 0, 1) := by decide +kernel
theorem dX3_mixedInto_3 : decode cX3_mixedInto 3 = .ok (.istore 5, 2) := by decide +kernel
theorem dX3_mixedInto_5 : decode cX3_mixedInto 5 = .ok (.iload 5, 2) := by decide +kernel
theorem dX3_mixedInto_7 : decode cX3_mixedInto 7 = .ok (.iconst 4, 1) := by decide +kernel
theorem dX3_mixedInto_8 : decode cX3_mixedInto 8 = .ok (.if_icmp .ge 20, 3) := by decide +kernel
theorem dX3_mixedInto_11 : decode cX3_mixedInto 11 = .ok (.lload_n 3, 1) := by decide +kernel
theorem dX3_mixedInto_12 : decode cX3_mixedInto 12 = .ok (.aload_n 0, 1) := by decide +kernel
theorem dX3_mixedInto_13 : decode cX3_mixedInto 13 = .ok (.iload 5, 2) := by decide +kernel
theorem dX3_mixedInto_15 : decode cX3_mixedInto 15 = .ok (.invokevirtual 37, 3) := by decide +kernel
theorem dX3_mixedInto_18 : decode cX3_mixedInto 18 = .ok (.invokestatic 41, 3) := by decide +kernel
theorem dX3_mixedInto_21 : decode cX3_mixedInto 21 = .ok (.lstore_n 3, 1) := by decide +kernel
theorem dX3_mixedInto_22 : decode cX3_mixedInto 22 = .ok (.iinc 5 1, 3) := by decide +kernel
theorem dX3_mixedInto_25 : decode cX3_mixedInto 25 = .ok (.goto (-20), 3) := by decide +kernel
theorem dX3_mixedInto_28 : decode cX3_mixedInto 28 = .ok (.iconst 0, 1) := by decide +kernel
theorem dX3_mixedInto_29 : decode cX3_mixedInto 29 = .ok (.istore 5, 2) := by decide +kernel
theorem dX3_mixedInto_31 : decode cX3_mixedInto 31 = .ok (.iload 5, 2) := by decide +kernel
theorem dX3_mixedInto_33 : decode cX3_mixedInto 33 = .ok (.aload_n 0, 1) := by decide +kernel
theorem dX3_mixedInto_34 : decode cX3_mixedInto 34 = .ok (.getfield 12, 3) := by decide +kernel
theorem dX3_mixedInto_37 : decode cX3_mixedInto 37 = .ok (.getfield 34, 3) := by decide +kernel
theorem dX3_mixedInto_40 : decode cX3_mixedInto 40 = .ok (.if_icmp .ge 23, 3) := by decide +kernel
theorem dX3_mixedInto_43 : decode cX3_mixedInto 43 = .ok (.lload_n 3, 1) := by decide +kernel
theorem dX3_mixedInto_44 : decode cX3_mixedInto 44 = .ok (.aload_n 0, 1) := by decide +kernel
theorem dX3_mixedInto_45 : decode cX3_mixedInto 45 = .ok (.getfield 12, 3) := by decide +kernel
theorem dX3_mixedInto_48 : decode cX3_mixedInto 48 = .ok (.iload 5, 2) := by decide +kernel
theorem dX3_mixedInto_50 : decode cX3_mixedInto 50 = .ok (.invokevirtual 45, 3) := by decide +kernel
theorem dX3_mixedInto_53 : decode cX3_mixedInto 53 = .ok (.invokestatic 41, 3) := by decide +kernel
theorem dX3_mixedInto_56 : decode cX3_mixedInto 56 = .ok (.lstore_n 3, 1) := by decide +kernel
theorem dX3_mixedInto_57 : decode cX3_mixedInto 57 = .ok (.iinc 5 1, 3) := by decide +kernel
theorem dX3_mixedInto_60 : decode cX3_mixedInto 60 = .ok (.goto (-29), 3) := by decide +kernel
theorem dX3_mixedInto_63 : decode cX3_mixedInto 63 = .ok (.lload_n 3, 1) := by decide +kernel
theorem dX3_mixedInto_64 : decode cX3_mixedInto 64 = .ok (.lreturn, 1) := by decide +kernel
theorem dX3_copyFrom_0 : decode cX3_copyFrom 0 = .ok (.aload_n 0, 1) := by decide +kernel
theorem dX3_copyFrom_1 : decode cX3_copyFrom 1 = .ok (.getfield 12, 3) := by decide +kernel
theorem dX3_copyFrom_4 : decode cX3_copyFrom 4 = .ok (.aload_n 1, 1) := by decide +kernel
theorem dX3_copyFrom_5 : decode cX3_copyFrom 5 = .ok (.getfield 12, 3) := by decide +kernel
theorem dX3_copyFrom_8 : decode cX3_copyFrom 8 = .ok (.invokevirtual 48, 3) := by decide +kernel
theorem dX3_copyFrom_11 : decode cX3_copyFrom 11 = .ok (.aload_n 0, 1) := by decide +kernel
theorem dX3_copyFrom_12 : decode cX3_copyFrom 12 = .ok (.aload_n 1, 1) := by decide +kernel
theorem dX3_copyFrom_13 : decode cX3_copyFrom 13 = .ok (.getfield 18, 3) := by decide +kernel
theorem dX3_copyFrom_16 : decode cX3_copyFrom 16 = .ok (.putfield 18, 3) := by decide +kernel
theorem dX3_copyFrom_19 : decode cX3_copyFrom 19 = .ok (.aload_n 0, 1) := by decide +kernel
theorem dX3_copyFrom_20 : decode cX3_copyFrom 20 = .ok (.aload_n 1, 1) := by decide +kernel
theorem dX3_copyFrom_21 : decode cX3_copyFrom 21 = .ok (.getfield 22, 3) := by decide +kernel
theorem dX3_copyFrom_24 : decode cX3_copyFrom 24 = .ok (.putfield 22, 3) := by decide +kernel
theorem dX3_copyFrom_27 : decode cX3_copyFrom 27 = .ok (.aload_n 0, 1) := by decide +kernel
theorem dX3_copyFrom_28 : decode cX3_copyFrom 28 = .ok (.aload_n 1, 1) := by decide +kernel
theorem dX3_copyFrom_29 : decode cX3_copyFrom 29 = .ok (.getfield 25, 3) := by decide +kernel
theorem dX3_copyFrom_32 : decode cX3_copyFrom 32 = .ok (.putfield 25, 3) := by decide +kernel
theorem dX3_copyFrom_35 : decode cX3_copyFrom 35 = .ok (.aload_n 0, 1) := by decide +kernel
theorem dX3_copyFrom_36 : decode cX3_copyFrom 36 = .ok (.aload_n 1, 1) := by decide +kernel
theorem dX3_copyFrom_37 : decode cX3_copyFrom 37 = .ok (.getfield 31, 3) := by decide +kernel
theorem dX3_copyFrom_40 : decode cX3_copyFrom 40 = .ok (.putfield 31, 3) := by decide +kernel
theorem dX3_copyFrom_43 : decode cX3_copyFrom 43 = .ok (.return_, 1) := by decide +kernel
theorem dX4_lengthOf_0 : decode cX4_lengthOf 0 = .ok (.iload_n 0, 1) := by decide +kernel
theorem dX4_lengthOf_1 : decode cX4_lengthOf 1 = .ok (.istore_n 1, 1) := by decide +kernel
theorem dX4_lengthOf_2 : decode cX4_lengthOf 2 = .ok (.iconst 0, 1) := by decide +kernel
theorem dX4_lengthOf_3 : decode cX4_lengthOf 3 = .ok (.istore_n 2, 1) := by decide +kernel
theorem dX4_lengthOf_4 : decode cX4_lengthOf 4 = .ok (.iload_n 2, 1) := by decide +kernel
theorem dX4_lengthOf_5 : decode cX4_lengthOf 5 = .ok (.bipush 10, 2) := by decide +kernel
theorem dX4_lengthOf_7 : decode cX4_lengthOf 7 = .ok (.if_icmp .gt 37, 3) := by decide +kernel
theorem dX4_lengthOf_10 : decode cX4_lengthOf 10 = .ok (.iload_n 1, 1) := by decide +kernel
theorem dX4_lengthOf_11 : decode cX4_lengthOf 11 = .ok (.ifCond .ne 5, 3) := by decide +kernel
theorem dX4_lengthOf_14 : decode cX4_lengthOf 14 = .ok (.iload_n 2, 1) := by decide +kernel
theorem dX4_lengthOf_15 : decode cX4_lengthOf 15 = .ok (.ireturn, 1) := by decide +kernel
theorem dX4_lengthOf_16 : decode cX4_lengthOf 16 = .ok (.iload_n 1, 1) := by decide +kernel
theorem dX4_lengthOf_17 : decode cX4_lengthOf 17 = .ok (.bipush 10, 2) := by decide +kernel
theorem dX4_lengthOf_19 : decode cX4_lengthOf 19 = .ok (.irem, 1) := by decide +kernel
theorem dX4_lengthOf_20 : decode cX4_lengthOf 20 = .ok (.istore_n 3, 1) := by decide +kernel
theorem dX4_lengthOf_21 : decode cX4_lengthOf 21 = .ok (.iload_n 3, 1) := by decide +kernel
theorem dX4_lengthOf_22 : decode cX4_lengthOf 22 = .ok (.iconst 1, 1) := by decide +kernel
theorem dX4_lengthOf_23 : decode cX4_lengthOf 23 = .ok (.if_icmp .eq 10, 3) := by decide +kernel
theorem dX4_lengthOf_26 : decode cX4_lengthOf 26 = .ok (.iload_n 3, 1) := by decide +kernel
theorem dX4_lengthOf_27 : decode cX4_lengthOf 27 = .ok (.iconst 2, 1) := by decide +kernel
theorem dX4_lengthOf_28 : decode cX4_lengthOf 28 = .ok (.if_icmp .eq 5, 3) := by decide +kernel
theorem dX4_lengthOf_31 : decode cX4_lengthOf 31 = .ok (.iconst (-1), 1) := by decide +kernel
theorem dX4_lengthOf_32 : decode cX4_lengthOf 32 = .ok (.ireturn, 1) := by decide +kernel
theorem dX4_lengthOf_33 : decode cX4_lengthOf 33 = .ok (.iload_n 1, 1) := by decide +kernel
theorem dX4_lengthOf_34 : decode cX4_lengthOf 34 = .ok (.bipush 10, 2) := by decide +kernel
theorem dX4_lengthOf_36 : decode cX4_lengthOf 36 = .ok (.idiv, 1) := by decide +kernel
theorem dX4_lengthOf_37 : decode cX4_lengthOf 37 = .ok (.istore_n 1, 1) := by decide +kernel
theorem dX4_lengthOf_38 : decode cX4_lengthOf 38 = .ok (.iinc 2 1, 3) := by decide +kernel
theorem dX4_lengthOf_41 : decode cX4_lengthOf 41 = .ok (.goto (-37), 3) := by decide +kernel
theorem dX4_lengthOf_44 : decode cX4_lengthOf 44 = .ok (.iconst (-1), 1) := by decide +kernel
theorem dX4_lengthOf_45 : decode cX4_lengthOf 45 = .ok (.ireturn, 1) := by decide +kernel
theorem dX4_ringAt_0 : decode cX4_ringAt 0 = .ok (.iload_n 0, 1) := by decide +kernel
theorem dX4_ringAt_1 : decode cX4_ringAt 1 = .ok (.iload_n 1, 1) := by decide +kernel
theorem dX4_ringAt_2 : decode cX4_ringAt 2 = .ok (.invokestatic 9, 3) := by decide +kernel
theorem dX4_ringAt_5 : decode cX4_ringAt 5 = .ok (.bipush 10, 2) := by decide +kernel
theorem dX4_ringAt_7 : decode cX4_ringAt 7 = .ok (.irem, 1) := by decide +kernel
theorem dX4_ringAt_8 : decode cX4_ringAt 8 = .ok (.ireturn, 1) := by decide +kernel
theorem dX4_withoutLast_0 : decode cX4_withoutLast 0 = .ok (.iload_n 0, 1) := by decide +kernel
theorem dX4_withoutLast_1 : decode cX4_withoutLast 1 = .ok (.istore_n 2, 1) := by decide +kernel
theorem dX4_withoutLast_2 : decode cX4_withoutLast 2 = .ok (.iconst 0, 1) := by decide +kernel
theorem dX4_withoutLast_3 : decode cX4_withoutLast 3 = .ok (.istore_n 3, 1) := by decide +kernel
theorem dX4_withoutLast_4 : decode cX4_withoutLast 4 = .ok (.iload_n 3, 1) := by decide +kernel
theorem dX4_withoutLast_5 : decode cX4_withoutLast 5 = .ok (.iload_n 1, 1) := by decide +kernel
theorem dX4_withoutLast_6 : decode cX4_withoutLast 6 = .ok (.if_icmp .ge 20, 3) := by decide +kernel
theorem dX4_withoutLast_9 : decode cX4_withoutLast 9 = .ok (.iload_n 3, 1) := by decide +kernel
theorem dX4_withoutLast_10 : decode cX4_withoutLast 10 = .ok (.bipush 10, 2) := by decide +kernel
theorem dX4_withoutLast_12 : decode cX4_withoutLast 12 = .ok (.if_icmp .ge 14, 3) := by decide +kernel
theorem dX4_withoutLast_15 : decode cX4_withoutLast 15 = .ok (.iload_n 2, 1) := by decide +kernel
theorem dX4_withoutLast_16 : decode cX4_withoutLast 16 = .ok (.bipush 10, 2) := by decide +kernel
theorem dX4_withoutLast_18 : decode cX4_withoutLast 18 = .ok (.idiv, 1) := by decide +kernel
theorem dX4_withoutLast_19 : decode cX4_withoutLast 19 = .ok (.istore_n 2, 1) := by decide +kernel
theorem dX4_withoutLast_20 : decode cX4_withoutLast 20 = .ok (.iinc 3 1, 3) := by decide +kernel
theorem dX4_withoutLast_23 : decode cX4_withoutLast 23 = .ok (.goto (-19), 3) := by decide +kernel
theorem dX4_withoutLast_26 : decode cX4_withoutLast 26 = .ok (.iload_n 2, 1) := by decide +kernel
theorem dX4_withoutLast_27 : decode cX4_withoutLast 27 = .ok (.ireturn, 1) := by decide +kernel
theorem dX4_withoutRing_0 : decode cX4_withoutRing 0 = .ok (.iload_n 0, 1) := by decide +kernel
theorem dX4_withoutRing_1 : decode cX4_withoutRing 1 = .ok (.iload_n 0, 1) := by decide +kernel
theorem dX4_withoutRing_2 : decode cX4_withoutRing 2 = .ok (.iload_n 1, 1) := by decide +kernel
theorem dX4_withoutRing_3 : decode cX4_withoutRing 3 = .ok (.invokestatic 9, 3) := by decide +kernel
theorem dX4_withoutRing_6 : decode cX4_withoutRing 6 = .ok (.iload_n 1, 1) := by decide +kernel
theorem dX4_withoutRing_7 : decode cX4_withoutRing 7 = .ok (.invokestatic 15, 3) := by decide +kernel
theorem dX4_withoutRing_10 : decode cX4_withoutRing 10 = .ok (.isub, 1) := by decide +kernel
theorem dX4_withoutRing_11 : decode cX4_withoutRing 11 = .ok (.istore_n 2, 1) := by decide +kernel
theorem dX4_withoutRing_12 : decode cX4_withoutRing 12 = .ok (.iload_n 0, 1) := by decide +kernel
theorem dX4_withoutRing_13 : decode cX4_withoutRing 13 = .ok (.iload_n 1, 1) := by decide +kernel
theorem dX4_withoutRing_14 : decode cX4_withoutRing 14 = .ok (.iconst 1, 1) := by decide +kernel
theorem dX4_withoutRing_15 : decode cX4_withoutRing 15 = .ok (.iadd, 1) := by decide +kernel
theorem dX4_withoutRing_16 : decode cX4_withoutRing 16 = .ok (.invokestatic 9, 3) := by decide +kernel
theorem dX4_withoutRing_19 : decode cX4_withoutRing 19 = .ok (.iload_n 1, 1) := by decide +kernel
theorem dX4_withoutRing_20 : decode cX4_withoutRing 20 = .ok (.invokestatic 15, 3) := by decide +kernel
theorem dX4_withoutRing_23 : decode cX4_withoutRing 23 = .ok (.iload_n 2, 1) := by decide +kernel
theorem dX4_withoutRing_24 : decode cX4_withoutRing 24 = .ok (.iadd, 1) := by decide +kernel
theorem dX4_withoutRing_25 : decode cX4_withoutRing 25 = .ok (.ireturn, 1) := by decide +kernel
theorem dX4_isBeginning_0 : decode cX4_isBeginning 0 = .ok (.iload_n 1, 1) := by decide +kernel
theorem dX4_isBeginning_1 : decode cX4_isBeginning 1 = .ok (.invokestatic 18, 3) := by decide +kernel
theorem dX4_isBeginning_4 : decode cX4_isBeginning 4 = .ok (.iload_n 0, 1) := by decide +kernel
theorem dX4_isBeginning_5 : decode cX4_isBeginning 5 = .ok (.invokestatic 18, 3) := by decide +kernel
theorem dX4_isBeginning_8 : decode cX4_isBeginning 8 = .ok (.isub, 1) := by decide +kernel
theorem dX4_isBeginning_9 : decode cX4_isBeginning 9 = .ok (.istore_n 2, 1) := by decide +kernel
theorem dX4_isBeginning_10 : decode cX4_isBeginning 10 = .ok (.iload_n 2, 1) := by decide +kernel
theorem dX4_isBeginning_11 : decode cX4_isBeginning 11 = .ok (.ifCond .lt 16, 3) := by decide +kernel
theorem dX4_isBeginning_14 : decode cX4_isBeginning 14 = .ok (.iload_n 1, 1) := by decide +kernel
theorem dX4_isBeginning_15 : decode cX4_isBeginning 15 = .ok (.iload_n 2, 1) := by decide +kernel
theorem dX4_isBeginning_16 : decode cX4_isBeginning 16 = .ok (.invokestatic 9, 3) := by decide +kernel
theorem dX4_isBeginning_19 : decode cX4_isBeginning 19 = .ok (.iload_n 0, 1) := by decide +kernel
theorem dX4_isBeginning_20 : decode cX4_isBeginning 20 = .ok (.if_icmp .ne 7, 3) := by decide +kernel
theorem dX4_isBeginning_23 : decode cX4_isBeginning 23 = .ok (.iconst 1, 1) := by decide +kernel
theorem dX4_isBeginning_24 : decode cX4_isBeginning 24 = .ok (.goto 4, 3) := by decide +kernel
theorem dX4_isBeginning_27 : decode cX4_isBeginning 27 = .ok (.iconst 0, 1) := by decide +kernel
theorem dX4_isBeginning_28 : decode cX4_isBeginning 28 = .ok (.ireturn, 1) := by decide +kernel
theorem dX4_behindBeginning_0 : decode cX4_behindBeginning 0 = .ok (.iload_n 1, 1) := by decide +kernel
theorem dX4_behindBeginning_1 : decode cX4_behindBeginning 1 = .ok (.iload_n 0, 1) := by decide +kernel
theorem dX4_behindBeginning_2 : decode cX4_behindBeginning 2 = .ok (.iload_n 1, 1) := by decide +kernel
theorem dX4_behindBeginning_3 : decode cX4_behindBeginning 3 = .ok (.invokestatic 18, 3) := by decide +kernel
theorem dX4_behindBeginning_6 : decode cX4_behindBeginning 6 = .ok (.iload_n 0, 1) := by decide +kernel
theorem dX4_behindBeginning_7 : decode cX4_behindBeginning 7 = .ok (.invokestatic 18, 3) := by decide +kernel
theorem dX4_behindBeginning_10 : decode cX4_behindBeginning 10 = .ok (.isub, 1) := by decide +kernel
theorem dX4_behindBeginning_11 : decode cX4_behindBeginning 11 = .ok (.invokestatic 15, 3) := by decide +kernel
theorem dX4_behindBeginning_14 : decode cX4_behindBeginning 14 = .ok (.isub, 1) := by decide +kernel
theorem dX4_behindBeginning_15 : decode cX4_behindBeginning 15 = .ok (.ireturn, 1) := by decide +kernel
theorem dX4_followedBy_0 : decode cX4_followedBy 0 = .ok (.iload_n 0, 1) := by decide +kernel
theorem dX4_followedBy_1 : decode cX4_followedBy 1 = .ok (.istore_n 2, 1) := by decide +kernel
theorem dX4_followedBy_2 : decode cX4_followedBy 2 = .ok (.iconst 0, 1) := by decide +kernel
theorem dX4_followedBy_3 : decode cX4_followedBy 3 = .ok (.istore_n 3, 1) := by decide +kernel
theorem dX4_followedBy_4 : decode cX4_followedBy 4 = .ok (.iload_n 3, 1) := by decide +kernel
theorem dX4_followedBy_5 : decode cX4_followedBy 5 = .ok (.iload_n 1, 1) := by decide +kernel
theorem dX4_followedBy_6 : decode cX4_followedBy 6 = .ok (.if_icmp .ge 20, 3) := by decide +kernel
theorem dX4_followedBy_9 : decode cX4_followedBy 9 = .ok (.iload_n 3, 1) := by decide +kernel
theorem dX4_followedBy_10 : decode cX4_followedBy 10 = .ok (.bipush 10, 2) := by decide +kernel
theorem dX4_followedBy_12 : decode cX4_followedBy 12 = .ok (.if_icmp .ge 14, 3) := by decide +kernel
theorem dX4_followedBy_15 : decode cX4_followedBy 15 = .ok (.iload_n 2, 1) := by decide +kernel
theorem dX4_followedBy_16 : decode cX4_followedBy 16 = .ok (.bipush 10, 2) := by decide +kernel
theorem dX4_followedBy_18 : decode cX4_followedBy 18 = .ok (.imul, 1) := by decide +kernel
theorem dX4_followedBy_19 : decode cX4_followedBy 19 = .ok (.istore_n 2, 1) := by decide +kernel
theorem dX4_followedBy_20 : decode cX4_followedBy 20 = .ok (.iinc 3 1, 3) := by decide +kernel
theorem dX4_followedBy_23 : decode cX4_followedBy 23 = .ok (.goto (-19), 3) := by decide +kernel
theorem dX4_followedBy_26 : decode cX4_followedBy 26 = .ok (.iload_n 2, 1) := by decide +kernel
theorem dX4_followedBy_27 : decode cX4_followedBy 27 = .ok (.ireturn, 1) := by decide +kernel
theorem dX5_init_0 : decode cX5_init 0 = .ok (.aload_n 0, 1) := by decide +kernel
theorem dX5_init_1 : decode cX5_init 1 = .ok (.invokespecial 3, 3) := by decide +kernel
theorem dX5_init_4 : decode cX5_init 4 = .ok (.aload_n 0, 1) := by decide +kernel
theorem dX5_init_5 : decode cX5_init 5 = .ok (.bipush 16, 2) := by decide +kernel
theorem dX5_init_7 : decode cX5_init 7 = .ok (.newarray .int, 2) := by decide +kernel
theorem dX5_init_9 : decode cX5_init 9 = .ok (.putfield 9, 3) := by decide +kernel
theorem dX5_init_12 : decode cX5_init 12 = .ok (.return_, 1) := by decide +kernel
theorem dX5_at_0 : decode cX5_at 0 = .ok (.iload_n 1, 1) := by decide +kernel
theorem dX5_at_1 : decode cX5_at 1 = .ok (.aload_n 0, 1) := by decide +kernel
theorem dX5_at_2 : decode cX5_at 2 = .ok (.getfield 15, 3) := by decide +kernel
theorem dX5_at_5 : decode cX5_at 5 = .ok (.if_icmp .ge 24, 3) := by decide +kernel
theorem dX5_at_8 : decode cX5_at 8 = .ok (.iload_n 1, 1) := by decide +kernel
theorem dX5_at_9 : decode cX5_at 9 = .ok (.aload_n 0, 1) := by decide +kernel
theorem dX5_at_10 : decode cX5_at 10 = .ok (.getfield 9, 3) := by decide +kernel
theorem dX5_at_13 : decode cX5_at 13 = .ok (.arraylength, 1) := by decide +kernel
theorem dX5_at_14 : decode cX5_at 14 = .ok (.invokestatic 19, 3) := by decide +kernel
theorem dX5_at_17 : decode cX5_at 17 = .ok (.ifCond .eq 12, 3) := by decide +kernel
theorem dX5_at_20 : decode cX5_at 20 = .ok (.aload_n 0, 1) := by decide +kernel
theorem dX5_at_21 : decode cX5_at 21 = .ok (.getfield 9, 3) := by decide +kernel
theorem dX5_at_24 : decode cX5_at 24 = .ok (.iload_n 1, 1) := by decide +kernel
theorem dX5_at_25 : decode cX5_at 25 = .ok (.iaload, 1) := by decide +kernel
theorem dX5_at_26 : decode cX5_at 26 = .ok (.goto 4, 3) := by decide +kernel
theorem dX5_at_29 : decode cX5_at 29 = .ok (.iconst (-1), 1) := by decide +kernel
theorem dX5_at_30 : decode cX5_at 30 = .ok (.ireturn, 1) := by decide +kernel
theorem dX5_last_0 : decode cX5_last 0 = .ok (.aload_n 0, 1) := by decide +kernel
theorem dX5_last_1 : decode cX5_last 1 = .ok (.aload_n 0, 1) := by decide +kernel
theorem dX5_last_2 : decode cX5_last 2 = .ok (.getfield 15, 3) := by decide +kernel
theorem dX5_last_5 : decode cX5_last 5 = .ok (.iconst 1, 1) := by decide +kernel
theorem dX5_last_6 : decode cX5_last 6 = .ok (.isub, 1) := by decide +kernel
theorem dX5_last_7 : decode cX5_last 7 = .ok (.invokevirtual 23, 3) := by decide +kernel
theorem dX5_last_10 : decode cX5_last 10 = .ok (.ireturn, 1) := by decide +kernel
theorem dX5_addLast_0 : decode cX5_addLast 0 = .ok (.aload_n 0, 1) := by decide +kernel
theorem dX5_addLast_1 : decode cX5_addLast 1 = .ok (.getfield 15, 3) := by decide +kernel
theorem dX5_addLast_4 : decode cX5_addLast 4 = .ok (.aload_n 0, 1) := by decide +kernel
theorem dX5_addLast_5 : decode cX5_addLast 5 = .ok (.getfield 9, 3) := by decide +kernel
theorem dX5_addLast_8 : decode cX5_addLast 8 = .ok (.arraylength, 1) := by decide +kernel
theorem dX5_addLast_9 : decode cX5_addLast 9 = .ok (.invokestatic 19, 3) := by decide +kernel
theorem dX5_addLast_12 : decode cX5_addLast 12 = .ok (.ifCond .eq 23, 3) := by decide +kernel
theorem dX5_addLast_15 : decode cX5_addLast 15 = .ok (.aload_n 0, 1) := by decide +kernel
theorem dX5_addLast_16 : decode cX5_addLast 16 = .ok (.getfield 9, 3) := by decide +kernel
theorem dX5_addLast_19 : decode cX5_addLast 19 = .ok (.aload_n 0, 1) := by decide +kernel
theorem dX5_addLast_20 : decode cX5_addLast 20 = .ok (.getfield 15, 3) := by decide +kernel
theorem dX5_addLast_23 : decode cX5_addLast 23 = .ok (.iload_n 1, 1) := by decide +kernel
theorem dX5_addLast_24 : decode cX5_addLast 24 = .ok (.iastore, 1) := by decide +kernel
theorem dX5_addLast_25 : decode cX5_addLast 25 = .ok (.aload_n 0, 1) := by decide +kernel
theorem dX5_addLast_26 : decode cX5_addLast 26 = .ok (.dup, 1) := by decide +kernel
theorem dX5_addLast_27 : decode cX5_addLast 27 = .ok (.getfield 15, 3) := by decide +kernel
theorem dX5_addLast_30 : decode cX5_addLast 30 = .ok (.iconst 1, 1) := by decide +kernel
theorem dX5_addLast_31 : decode cX5_addLast 31 = .ok (.iadd, 1) := by decide +kernel
theorem dX5_addLast_32 : decode cX5_addLast 32 = .ok (.putfield 15, 3) := by decide +kernel
theorem dX5_addLast_35 : decode cX5_addLast 35 = .ok (.return_, 1) := by decide +kernel
theorem dX5_addFirst_0 : decode cX5_addFirst 0 = .ok (.aload_n 0, 1) := by decide +kernel
theorem dX5_addFirst_1 : decode cX5_addFirst 1 = .ok (.getfield 15, 3) := by decide +kernel
theorem dX5_addFirst_4 : decode cX5_addFirst 4 = .ok (.aload_n 0, 1) := by decide +kernel
theorem dX5_addFirst_5 : decode cX5_addFirst 5 = .ok (.getfield 9, 3) := by decide +kernel
theorem dX5_addFirst_8 : decode cX5_addFirst 8 = .ok (.arraylength, 1) := by decide +kernel
theorem dX5_addFirst_9 : decode cX5_addFirst 9 = .ok (.invokestatic 19, 3) := by decide +kernel
theorem dX5_addFirst_12 : decode cX5_addFirst 12 = .ok (.ifCond .eq 49, 3) := by decide +kernel
theorem dX5_addFirst_15 : decode cX5_addFirst 15 = .ok (.aload_n 0, 1) := by decide +kernel
theorem dX5_addFirst_16 : decode cX5_addFirst 16 = .ok (.getfield 15, 3) := by decide +kernel
theorem dX5_addFirst_19 : decode cX5_addFirst 19 = .ok (.istore_n 2, 1) := by decide +kernel
theorem dX5_addFirst_20 : decode cX5_addFirst 20 = .ok (.iload_n 2, 1) := by decide +kernel
theorem dX5_addFirst_21 : decode cX5_addFirst 21 = .ok (.ifCond .le 23, 3) := by decide +kernel
theorem dX5_addFirst_24 : decode cX5_addFirst 24 = .ok (.aload_n 0, 1) := by decide +kernel
theorem dX5_addFirst_25 : decode cX5_addFirst 25 = .ok (.getfield 9, 3) := by decide +kernel
theorem dX5_addFirst_28 : decode cX5_addFirst 28 = .ok (.iload_n 2, 1) := by decide +kernel
theorem dX5_addFirst_29 : decode cX5_addFirst 29 = .ok (.aload_n 0, 1) := by decide +kernel
theorem dX5_addFirst_30 : decode cX5_addFirst 30 = .ok (.getfield 9, 3) := by decide +kernel
theorem dX5_addFirst_33 : decode cX5_addFirst 33 = .ok (.iload_n 2, 1) := by decide +kernel
theorem dX5_addFirst_34 : decode cX5_addFirst 34 = .ok (.iconst 1, 1) := by decide +kernel
theorem dX5_addFirst_35 : decode cX5_addFirst 35 = .ok (.isub, 1) := by decide +kernel
theorem dX5_addFirst_36 : decode cX5_addFirst 36 = .ok (.iaload, 1) := by decide +kernel
theorem dX5_addFirst_37 : decode cX5_addFirst 37 = .ok (.iastore, 1) := by decide +kernel
theorem dX5_addFirst_38 : decode cX5_addFirst 38 = .ok (.iinc 2 (-1), 3) := by decide +kernel
theorem dX5_addFirst_41 : decode cX5_addFirst 41 = .ok (.goto (-21), 3) := by decide +kernel
theorem dX5_addFirst_44 : decode cX5_addFirst 44 = .ok (.aload_n 0, 1) := by decide +kernel
theorem dX5_addFirst_45 : decode cX5_addFirst 45 = .ok (.getfield 9, 3) := by decide +kernel
theorem dX5_addFirst_48 : decode cX5_addFirst 48 = .ok (.iconst 0, 1) := by decide +kernel
theorem dX5_addFirst_49 : decode cX5_addFirst 49 = .ok (.iload_n 1, 1) := by decide +kernel
theorem dX5_addFirst_50 : decode cX5_addFirst 50 = .ok (.iastore, 1) := by decide +kernel
theorem dX5_addFirst_51 : decode cX5_addFirst 51 = .ok (.aload_n 0, 1) := by decide +kernel
theorem dX5_addFirst_52 : decode cX5_addFirst 52 = .ok (.dup, 1) := by decide +kernel
theorem dX5_addFirst_53 : decode cX5_addFirst 53 = .ok (.getfield 15, 3) := by decide +kernel
theorem dX5_addFirst_56 : decode cX5_addFirst 56 = .ok (.iconst 1, 1) := by decide +kernel
theorem dX5_addFirst_57 : decode cX5_addFirst 57 = .ok (.iadd, 1) := by decide +kernel
theorem dX5_addFirst_58 : decode cX5_addFirst 58 = .ok (.putfield 15, 3) := by decide +kernel
theorem dX5_addFirst_61 : decode cX5_addFirst 61 = .ok (.return_, 1) := by decide +kernel
theorem dX5_removeFirst_0 : decode cX5_removeFirst 0 = .ok (.aload_n 0, 1) := by decide +kernel
theorem dX5_removeFirst_1 : decode cX5_removeFirst 1 = .ok (.getfield 15, 3) := by decide +kernel
theorem dX5_removeFirst_4 : decode cX5_removeFirst 4 = .ok (.ifCond .le 54, 3) := by decide +kernel
theorem dX5_removeFirst_7 : decode cX5_removeFirst 7 = .ok (.aload_n 0, 1) := by decide +kernel
theorem dX5_removeFirst_8 : decode cX5_removeFirst 8 = .ok (.dup, 1) := by decide +kernel
theorem dX5_removeFirst_9 : decode cX5_removeFirst 9 = .ok (.getfield 15, 3) := by decide +kernel
theorem dX5_removeFirst_12 : decode cX5_removeFirst 12 = .ok (.iconst 1, 1) := by decide +kernel
theorem dX5_removeFirst_13 : decode cX5_removeFirst 13 = .ok (.isub, 1) := by decide +kernel
theorem dX5_removeFirst_14 : decode cX5_removeFirst 14 = .ok (.putfield 15, 3) := by decide +kernel
theorem dX5_removeFirst_17 : decode cX5_removeFirst 17 = .ok (.iconst 0, 1) := by decide +kernel
theorem dX5_removeFirst_18 : decode cX5_removeFirst 18 = .ok (.istore_n 1, 1) := by decide +kernel
theorem dX5_removeFirst_19 : decode cX5_removeFirst 19 = .ok (.iload_n 1, 1) := by decide +kernel
theorem dX5_removeFirst_20 : decode cX5_removeFirst 20 = .ok (.aload_n 0, 1) := by decide +kernel
theorem dX5_removeFirst_21 : decode cX5_removeFirst 21 = .ok (.getfield 15, 3) := by decide +kernel
theorem dX5_removeFirst_24 : decode cX5_removeFirst 24 = .ok (.if_icmp .ge 34, 3) := by decide +kernel
theorem dX5_removeFirst_27 : decode cX5_removeFirst 27 = .ok (.iload_n 1, 1) := by decide +kernel
theorem dX5_removeFirst_28 : decode cX5_removeFirst 28 = .ok (.iconst 1, 1) := by decide +kernel
theorem dX5_removeFirst_29 : decode cX5_removeFirst 29 = .ok (.iadd, 1) := by decide +kernel
theorem dX5_removeFirst_30 : decode cX5_removeFirst 30 = .ok (.aload_n 0, 1) := by decide +kernel
theorem dX5_removeFirst_31 : decode cX5_removeFirst 31 = .ok (.getfield 9, 3) := by decide +kernel
theorem dX5_removeFirst_34 : decode cX5_removeFirst 34 = .ok (.arraylength, 1) := by decide +kernel
theorem dX5_removeFirst_35 : decode cX5_removeFirst 35 = .ok (.if_icmp .ge 23, 3) := by decide +kernel
theorem dX5_removeFirst_38 : decode cX5_removeFirst 38 = .ok (.aload_n 0, 1) := by decide +kernel
theorem dX5_removeFirst_39 : decode cX5_removeFirst 39 = .ok (.getfield 9, 3) := by decide +kernel
theorem dX5_removeFirst_42 : decode cX5_removeFirst 42 = .ok (.iload_n 1, 1) := by decide +kernel
theorem dX5_removeFirst_43 : decode cX5_removeFirst 43 = .ok (.aload_n 0, 1) := by decide +kernel
theorem dX5_removeFirst_44 : decode cX5_removeFirst 44 = .ok (.getfield 9, 3) := by decide +kernel
theorem dX5_removeFirst_47 : decode cX5_removeFirst 47 = .ok (.iload_n 1, 1) := by decide +kernel
theorem dX5_removeFirst_48 : decode cX5_removeFirst 48 = .ok (.iconst 1, 1) := by decide +kernel
theorem dX5_removeFirst_49 : decode cX5_removeFirst 49 = .ok (.iadd, 1) := by decide +kernel
theorem dX5_removeFirst_50 : decode cX5_removeFirst 50 = .ok (.iaload, 1) := by decide +kernel
theorem dX5_removeFirst_51 : decode cX5_removeFirst 51 = .ok (.iastore, 1) := by decide +kernel
theorem dX5_removeFirst_52 : decode cX5_removeFirst 52 = .ok (.iinc 1 1, 3) := by decide +kernel
theorem dX5_removeFirst_55 : decode cX5_removeFirst 55 = .ok (.goto (-36), 3) := by decide +kernel
theorem dX5_removeFirst_58 : decode cX5_removeFirst 58 = .ok (.return_, 1) := by decide +kernel
theorem dX5_removeLast_0 : decode cX5_removeLast 0 = .ok (.aload_n 0, 1) := by decide +kernel
theorem dX5_removeLast_1 : decode cX5_removeLast 1 = .ok (.getfield 15, 3) := by decide +kernel
theorem dX5_removeLast_4 : decode cX5_removeLast 4 = .ok (.ifCond .le 13, 3) := by decide +kernel
theorem dX5_removeLast_7 : decode cX5_removeLast 7 = .ok (.aload_n 0, 1) := by decide +kernel
theorem dX5_removeLast_8 : decode cX5_removeLast 8 = .ok (.dup, 1) := by decide +kernel
theorem dX5_removeLast_9 : decode cX5_removeLast 9 = .ok (.getfield 15, 3) := by decide +kernel
theorem dX5_removeLast_12 : decode cX5_removeLast 12 = .ok (.iconst 1, 1) := by decide +kernel
theorem dX5_removeLast_13 : decode cX5_removeLast 13 = .ok (.isub, 1) := by decide +kernel
theorem dX5_removeLast_14 : decode cX5_removeLast 14 = .ok (.putfield 15, 3) := by decide +kernel
theorem dX5_removeLast_17 : decode cX5_removeLast 17 = .ok (.return_, 1) := by decide +kernel
theorem dX5_copyFrom_0 : decode cX5_copyFrom 0 = .ok (.aload_n 0, 1) := by decide +kernel
theorem dX5_copyFrom_1 : decode cX5_copyFrom 1 = .ok (.aload_n 1, 1) := by decide +kernel
theorem dX5_copyFrom_2 : decode cX5_copyFrom 2 = .ok (.getfield 15, 3) := by decide +kernel
theorem dX5_copyFrom_5 : decode cX5_copyFrom 5 = .ok (.putfield 15, 3) := by decide +kernel
theorem dX5_copyFrom_8 : decode cX5_copyFrom 8 = .ok (.iconst 0, 1) := by decide +kernel
theorem dX5_copyFrom_9 : decode cX5_copyFrom 9 = .ok (.istore_n 2, 1) := by decide +kernel
theorem dX5_copyFrom_10 : decode cX5_copyFrom 10 = .ok (.iload_n 2, 1) := by decide +kernel
theorem dX5_copyFrom_11 : decode cX5_copyFrom 11 = .ok (.aload_n 0, 1) := by decide +kernel
theorem dX5_copyFrom_12 : decode cX5_copyFrom 12 = .ok (.getfield 15, 3) := by decide +kernel
theorem dX5_copyFrom_15 : decode cX5_copyFrom 15 = .ok (.if_icmp .ge 29, 3) := by decide +kernel
theorem dX5_copyFrom_18 : decode cX5_copyFrom 18 = .ok (.iload_n 2, 1) := by decide +kernel
theorem dX5_copyFrom_19 : decode cX5_copyFrom 19 = .ok (.aload_n 0, 1) := by decide +kernel
theorem dX5_copyFrom_20 : decode cX5_copyFrom 20 = .ok (.getfield 9, 3) := by decide +kernel
theorem dX5_copyFrom_23 : decode cX5_copyFrom 23 = .ok (.arraylength, 1) := by decide +kernel
theorem dX5_copyFrom_24 : decode cX5_copyFrom 24 = .ok (.if_icmp .ge 20, 3) := by decide +kernel
theorem dX5_copyFrom_27 : decode cX5_copyFrom 27 = .ok (.aload_n 0, 1) := by decide +kernel
theorem dX5_copyFrom_28 : decode cX5_copyFrom 28 = .ok (.getfield 9, 3) := by decide +kernel
theorem dX5_copyFrom_31 : decode cX5_copyFrom 31 = .ok (.iload_n 2, 1) := by decide +kernel
theorem dX5_copyFrom_32 : decode cX5_copyFrom 32 = .ok (.aload_n 1, 1) := by decide +kernel
theorem dX5_copyFrom_33 : decode cX5_copyFrom 33 = .ok (.iload_n 2, 1) := by decide +kernel
theorem dX5_copyFrom_34 : decode cX5_copyFrom 34 = .ok (.invokevirtual 23, 3) := by decide +kernel
theorem dX5_copyFrom_37 : decode cX5_copyFrom 37 = .ok (.iastore, 1) := by decide +kernel
theorem dX5_copyFrom_38 : decode cX5_copyFrom 38 = .ok (.iinc 2 1, 3) := by decide +kernel
theorem dX5_copyFrom_41 : decode cX5_copyFrom 41 = .ok (.goto (-31), 3) := by decide +kernel
theorem dX5_copyFrom_44 : decode cX5_copyFrom 44 = .ok (.return_, 1) := by decide +kernel
theorem dX6_init_0 : decode cX6_init 0 = .ok (.aload_n 0, 1) := by decide +kernel
theorem dX6_init_1 : decode cX6_init 1 = .ok (.invokespecial 1, 3) := by decide +kernel
theorem dX6_init_4 : decode cX6_init 4 = .ok (.aload_n 0, 1) := by decide +kernel
theorem dX6_init_5 : decode cX6_init 5 = .ok (.new 7, 3) := by decide +kernel
theorem dX6_init_8 : decode cX6_init 8 = .ok (.dup, 1) := by decide +kernel
theorem dX6_init_9 : decode cX6_init 9 = .ok (.invokespecial 9, 3) := by decide +kernel
theorem dX6_init_12 : decode cX6_init 12 = .ok (.putfield 10, 3) := by decide +kernel
theorem dX6_init_15 : decode cX6_init 15 = .ok (.aload_n 0, 1) := by decide +kernel
theorem dX6_init_16 : decode cX6_init 16 = .ok (.bipush 20, 2) := by decide +kernel
theorem dX6_init_18 : decode cX6_init 18 = .ok (.newarray .int, 2) := by decide +kernel
theorem dX6_init_20 : decode cX6_init 20 = .ok (.putfield 16, 3) := by decide +kernel
theorem dX6_init_23 : decode cX6_init 23 = .ok (.aload_n 0, 1) := by decide +kernel
theorem dX6_init_24 : decode cX6_init 24 = .ok (.new 20, 3) := by decide +kernel
theorem dX6_init_27 : decode cX6_init 27 = .ok (.dup, 1) := by decide +kernel
theorem dX6_init_28 : decode cX6_init 28 = .ok (.invokespecial 22, 3) := by decide +kernel
theorem dX6_init_31 : decode cX6_init 31 = .ok (.putfield 23, 3) := by decide +kernel
theorem dX6_init_34 : decode cX6_init 34 = .ok (.aload_n 0, 1) := by decide +kernel
theorem dX6_init_35 : decode cX6_init 35 = .ok (.new 20, 3) := by decide +kernel
theorem dX6_init_38 : decode cX6_init 38 = .ok (.dup, 1) := by decide +kernel
theorem dX6_init_39 : decode cX6_init 39 = .ok (.invokespecial 22, 3) := by decide +kernel
theorem dX6_init_42 : decode cX6_init 42 = .ok (.putfield 27, 3) := by decide +kernel
theorem dX6_init_45 : decode cX6_init 45 = .ok (.aload_n 0, 1) := by decide +kernel
theorem dX6_init_46 : decode cX6_init 46 = .ok (.new 20, 3) := by decide +kernel
theorem dX6_init_49 : decode cX6_init 49 = .ok (.dup, 1) := by decide +kernel
theorem dX6_init_50 : decode cX6_init 50 = .ok (.invokespecial 22, 3) := by decide +kernel
theorem dX6_init_53 : decode cX6_init 53 = .ok (.putfield 30, 3) := by decide +kernel
theorem dX6_init_56 : decode cX6_init 56 = .ok (.return_, 1) := by decide +kernel
theorem dX6_addSignal_0 : decode cX6_addSignal 0 = .ok (.iload_n 1, 1) := by decide +kernel
theorem dX6_addSignal_1 : decode cX6_addSignal 1 = .ok (.invokestatic 33, 3) := by decide +kernel
theorem dX6_addSignal_4 : decode cX6_addSignal 4 = .ok (.iconst 1, 1) := by decide +kernel
theorem dX6_addSignal_5 : decode cX6_addSignal 5 = .ok (.bipush 6, 2) := by decide +kernel
theorem dX6_addSignal_7 : decode cX6_addSignal 7 = .ok (.invokestatic 39, 3) := by decide +kernel
theorem dX6_addSignal_10 : decode cX6_addSignal 10 = .ok (.ifCond .ne 13, 3) := by decide +kernel
theorem dX6_addSignal_13 : decode cX6_addSignal 13 = .ok (.new 43, 3) := by decide +kernel
theorem dX6_addSignal_16 : decode cX6_addSignal 16 = .ok (.dup, 1) := by decide +kernel
theorem dX6_addSignal_17 : decode cX6_addSignal 17 = .ok (.ldc 45, 2) := by decide +kernel
theorem dX6_addSignal_19 : decode cX6_addSignal 19 = .ok (.invokespecial 47, 3) := by decide +kernel
theorem dX6_addSignal_22 : decode cX6_addSignal 22 = .ok (.athrow, 1) := by decide +kernel
theorem dX6_addSignal_23 : decode cX6_addSignal 23 = .ok (.aload_n 0, 1) := by decide +kernel
theorem dX6_addSignal_24 : decode cX6_addSignal 24 = .ok (.getfield 10, 3) := by decide +kernel
theorem dX6_addSignal_27 : decode cX6_addSignal 27 = .ok (.invokevirtual 50, 3) := by decide +kernel
theorem dX6_addSignal_30 : decode cX6_addSignal 30 = .ok (.ifCond .ne 14, 3) := by decide +kernel
theorem dX6_addSignal_33 : decode cX6_addSignal 33 = .ok (.aload_n 0, 1) := by decide +kernel
theorem dX6_addSignal_34 : decode cX6_addSignal 34 = .ok (.getfield 10, 3) := by decide +kernel
theorem dX6_addSignal_37 : decode cX6_addSignal 37 = .ok (.iload_n 1, 1) := by decide +kernel
theorem dX6_addSignal_38 : decode cX6_addSignal 38 = .ok (.invokevirtual 54, 3) := by decide +kernel
theorem dX6_addSignal_41 : decode cX6_addSignal 41 = .ok (.ifCond .eq 13, 3) := by decide +kernel
theorem dX6_addSignal_44 : decode cX6_addSignal 44 = .ok (.new 58, 3) := by decide +kernel
theorem dX6_addSignal_47 : decode cX6_addSignal 47 = .ok (.dup, 1) := by decide +kernel
theorem dX6_addSignal_48 : decode cX6_addSignal 48 = .ok (.ldc 60, 2) := by decide +kernel
theorem dX6_addSignal_50 : decode cX6_addSignal 50 = .ok (.invokespecial 62, 3) := by decide +kernel
theorem dX6_addSignal_53 : decode cX6_addSignal 53 = .ok (.athrow, 1) := by decide +kernel
theorem dX6_addSignal_54 : decode cX6_addSignal 54 = .ok (.aload_n 0, 1) := by decide +kernel
theorem dX6_addSignal_55 : decode cX6_addSignal 55 = .ok (.getfield 10, 3) := by decide +kernel
theorem dX6_addSignal_58 : decode cX6_addSignal 58 = .ok (.iload_n 1, 1) := by decide +kernel
theorem dX6_addSignal_59 : decode cX6_addSignal 59 = .ok (.invokevirtual 63, 3) := by decide +kernel
theorem dX6_addSignal_62 : decode cX6_addSignal 62 = .ok (.ireturn, 1) := by decide +kernel
theorem dX6_read_0 : decode cX6_read 0 = .ok (.iload_n 1, 1) := by decide +kernel
theorem dX6_read_1 : decode cX6_read 1 = .ok (.invokestatic 33, 3) := by decide +kernel
theorem dX6_read_4 : decode cX6_read 4 = .ok (.iconst 0, 1) := by decide +kernel
theorem dX6_read_5 : decode cX6_read 5 = .ok (.bipush 9, 2) := by decide +kernel
theorem dX6_read_7 : decode cX6_read 7 = .ok (.invokestatic 39, 3) := by decide +kernel
theorem dX6_read_10 : decode cX6_read 10 = .ok (.ifCond .ne 13, 3) := by decide +kernel
theorem dX6_read_13 : decode cX6_read 13 = .ok (.new 43, 3) := by decide +kernel
theorem dX6_read_16 : decode cX6_read 16 = .ok (.dup, 1) := by decide +kernel
theorem dX6_read_17 : decode cX6_read 17 = .ok (.ldc 66, 2) := by decide +kernel
theorem dX6_read_19 : decode cX6_read 19 = .ok (.invokespecial 47, 3) := by decide +kernel
theorem dX6_read_22 : decode cX6_read 22 = .ok (.athrow, 1) := by decide +kernel
theorem dX6_read_23 : decode cX6_read 23 = .ok (.iload_n 2, 1) := by decide +kernel
theorem dX6_read_24 : decode cX6_read 24 = .ok (.iconst 3, 1) := by decide +kernel
theorem dX6_read_25 : decode cX6_read 25 = .ok (.invokestatic 68, 3) := by decide +kernel
theorem dX6_read_28 : decode cX6_read 28 = .ok (.ifCond .ne 13, 3) := by decide +kernel
theorem dX6_read_31 : decode cX6_read 31 = .ok (.new 72, 3) := by decide +kernel
theorem dX6_read_34 : decode cX6_read 34 = .ok (.dup, 1) := by decide +kernel
theorem dX6_read_35 : decode cX6_read 35 = .ok (.ldc 74, 2) := by decide +kernel
theorem dX6_read_37 : decode cX6_read 37 = .ok (.invokespecial 76, 3) := by decide +kernel
theorem dX6_read_40 : decode cX6_read 40 = .ok (.athrow, 1) := by decide +kernel
theorem dX6_read_41 : decode cX6_read 41 = .ok (.aload_n 0, 1) := by decide +kernel
theorem dX6_read_42 : decode cX6_read 42 = .ok (.getfield 10, 3) := by decide +kernel
theorem dX6_read_45 : decode cX6_read 45 = .ok (.iload_n 1, 1) := by decide +kernel
theorem dX6_read_46 : decode cX6_read 46 = .ok (.iload_n 2, 1) := by decide +kernel
theorem dX6_read_47 : decode cX6_read 47 = .ok (.invokevirtual 77, 3) := by decide +kernel
theorem dX6_read_50 : decode cX6_read 50 = .ok (.ireturn, 1) := by decide +kernel
theorem dX6_heard_0 : decode cX6_heard 0 = .ok (.iload_n 1, 1) := by decide +kernel
theorem dX6_heard_1 : decode cX6_heard 1 = .ok (.aload_n 0, 1) := by decide +kernel
theorem dX6_heard_2 : decode cX6_heard 2 = .ok (.getfield 10, 3) := by decide +kernel
theorem dX6_heard_5 : decode cX6_heard 5 = .ok (.getfield 81, 3) := by decide +kernel
theorem dX6_heard_8 : decode cX6_heard 8 = .ok (.invokestatic 68, 3) := by decide +kernel
theorem dX6_heard_11 : decode cX6_heard 11 = .ok (.ifCond .ne 13, 3) := by decide +kernel
theorem dX6_heard_14 : decode cX6_heard 14 = .ok (.new 72, 3) := by decide +kernel
theorem dX6_heard_17 : decode cX6_heard 17 = .ok (.dup, 1) := by decide +kernel
theorem dX6_heard_18 : decode cX6_heard 18 = .ok (.ldc 85, 2) := by decide +kernel
theorem dX6_heard_20 : decode cX6_heard 20 = .ok (.invokespecial 76, 3) := by decide +kernel
theorem dX6_heard_23 : decode cX6_heard 23 = .ok (.athrow, 1) := by decide +kernel
theorem dX6_heard_24 : decode cX6_heard 24 = .ok (.aload_n 0, 1) := by decide +kernel
theorem dX6_heard_25 : decode cX6_heard 25 = .ok (.aload_n 0, 1) := by decide +kernel
theorem dX6_heard_26 : decode cX6_heard 26 = .ok (.getfield 10, 3) := by decide +kernel
theorem dX6_heard_29 : decode cX6_heard 29 = .ok (.iload_n 1, 1) := by decide +kernel
theorem dX6_heard_30 : decode cX6_heard 30 = .ok (.invokevirtual 87, 3) := by decide +kernel
theorem dX6_heard_33 : decode cX6_heard 33 = .ok (.aload_n 0, 1) := by decide +kernel
theorem dX6_heard_34 : decode cX6_heard 34 = .ok (.getfield 23, 3) := by decide +kernel
theorem dX6_heard_37 : decode cX6_heard 37 = .ok (.getfield 90, 3) := by decide +kernel
theorem dX6_heard_40 : decode cX6_heard 40 = .ok (.invokevirtual 93, 3) := by decide +kernel
theorem dX6_heard_43 : decode cX6_heard 43 = .ok (.ireturn, 1) := by decide +kernel
theorem dX6_safe_0 : decode cX6_safe 0 = .ok (.iload_n 1, 1) := by decide +kernel
theorem dX6_safe_1 : decode cX6_safe 1 = .ok (.aload_n 0, 1) := by decide +kernel
theorem dX6_safe_2 : decode cX6_safe 2 = .ok (.getfield 10, 3) := by decide +kernel
theorem dX6_safe_5 : decode cX6_safe 5 = .ok (.getfield 81, 3) := by decide +kernel
theorem dX6_safe_8 : decode cX6_safe 8 = .ok (.invokestatic 68, 3) := by decide +kernel
theorem dX6_safe_11 : decode cX6_safe 11 = .ok (.ifCond .ne 13, 3) := by decide +kernel
theorem dX6_safe_14 : decode cX6_safe 14 = .ok (.new 72, 3) := by decide +kernel
theorem dX6_safe_17 : decode cX6_safe 17 = .ok (.dup, 1) := by decide +kernel
theorem dX6_safe_18 : decode cX6_safe 18 = .ok (.ldc 85, 2) := by decide +kernel
theorem dX6_safe_20 : decode cX6_safe 20 = .ok (.invokespecial 76, 3) := by decide +kernel
theorem dX6_safe_23 : decode cX6_safe 23 = .ok (.athrow, 1) := by decide +kernel
theorem dX6_safe_24 : decode cX6_safe 24 = .ok (.aload_n 0, 1) := by decide +kernel
theorem dX6_safe_25 : decode cX6_safe 25 = .ok (.getfield 10, 3) := by decide +kernel
theorem dX6_safe_28 : decode cX6_safe 28 = .ok (.aload_n 0, 1) := by decide +kernel
theorem dX6_safe_29 : decode cX6_safe 29 = .ok (.getfield 10, 3) := by decide +kernel
theorem dX6_safe_32 : decode cX6_safe 32 = .ok (.iload_n 1, 1) := by decide +kernel
theorem dX6_safe_33 : decode cX6_safe 33 = .ok (.invokevirtual 87, 3) := by decide +kernel
theorem dX6_safe_36 : decode cX6_safe 36 = .ok (.invokevirtual 96, 3) := by decide +kernel
theorem dX6_safe_39 : decode cX6_safe 39 = .ok (.ireturn, 1) := by decide +kernel
theorem dX6_rows_0 : decode cX6_rows 0 = .ok (.iload_n 1, 1) := by decide +kernel
theorem dX6_rows_1 : decode cX6_rows 1 = .ok (.iconst 0, 1) := by decide +kernel
theorem dX6_rows_2 : decode cX6_rows 2 = .ok (.bipush 20, 2) := by decide +kernel
theorem dX6_rows_4 : decode cX6_rows 4 = .ok (.invokestatic 39, 3) := by decide +kernel
theorem dX6_rows_7 : decode cX6_rows 7 = .ok (.ifCond .ne 13, 3) := by decide +kernel
theorem dX6_rows_10 : decode cX6_rows 10 = .ok (.new 43, 3) := by decide +kernel
theorem dX6_rows_13 : decode cX6_rows 13 = .ok (.dup, 1) := by decide +kernel
theorem dX6_rows_14 : decode cX6_rows 14 = .ok (.ldc 99, 2) := by decide +kernel
theorem dX6_rows_16 : decode cX6_rows 16 = .ok (.invokespecial 47, 3) := by decide +kernel
theorem dX6_rows_19 : decode cX6_rows 19 = .ok (.athrow, 1) := by decide +kernel
theorem dX6_rows_20 : decode cX6_rows 20 = .ok (.aload_n 0, 1) := by decide +kernel
theorem dX6_rows_21 : decode cX6_rows 21 = .ok (.getfield 10, 3) := by decide +kernel
theorem dX6_rows_24 : decode cX6_rows 24 = .ok (.iload_n 1, 1) := by decide +kernel
theorem dX6_rows_25 : decode cX6_rows 25 = .ok (.invokevirtual 101, 3) := by decide +kernel
theorem dX6_rows_28 : decode cX6_rows 28 = .ok (.ireturn, 1) := by decide +kernel
theorem dX6_setFog_0 : decode cX6_setFog 0 = .ok (.iload_n 1, 1) := by decide +kernel
theorem dX6_setFog_1 : decode cX6_setFog 1 = .ok (.aload_n 0, 1) := by decide +kernel
theorem dX6_setFog_2 : decode cX6_setFog 2 = .ok (.getfield 16, 3) := by decide +kernel
theorem dX6_setFog_5 : decode cX6_setFog 5 = .ok (.arraylength, 1) := by decide +kernel
theorem dX6_setFog_6 : decode cX6_setFog 6 = .ok (.invokestatic 68, 3) := by decide +kernel
theorem dX6_setFog_9 : decode cX6_setFog 9 = .ok (.ifCond .ne 13, 3) := by decide +kernel
theorem dX6_setFog_12 : decode cX6_setFog 12 = .ok (.new 72, 3) := by decide +kernel
theorem dX6_setFog_15 : decode cX6_setFog 15 = .ok (.dup, 1) := by decide +kernel
theorem dX6_setFog_16 : decode cX6_setFog 16 = .ok (.ldc 104, 2) := by decide +kernel
theorem dX6_setFog_18 : decode cX6_setFog 18 = .ok (.invokespecial 76, 3) := by decide +kernel
theorem dX6_setFog_21 : decode cX6_setFog 21 = .ok (.athrow, 1) := by decide +kernel
theorem dX6_setFog_22 : decode cX6_setFog 22 = .ok (.iload_n 2, 1) := by decide +kernel
theorem dX6_setFog_23 : decode cX6_setFog 23 = .ok (.iconst 0, 1) := by decide +kernel
theorem dX6_setFog_24 : decode cX6_setFog 24 = .ok (.bipush 9, 2) := by decide +kernel
theorem dX6_setFog_26 : decode cX6_setFog 26 = .ok (.invokestatic 39, 3) := by decide +kernel
theorem dX6_setFog_29 : decode cX6_setFog 29 = .ok (.ifCond .ne 13, 3) := by decide +kernel
theorem dX6_setFog_32 : decode cX6_setFog 32 = .ok (.new 43, 3) := by decide +kernel
theorem dX6_setFog_35 : decode cX6_setFog 35 = .ok (.dup, 1) := by decide +kernel
theorem dX6_setFog_36 : decode cX6_setFog 36 = .ok (.ldc 106, 2) := by decide +kernel
theorem dX6_setFog_38 : decode cX6_setFog 38 = .ok (.invokespecial 47, 3) := by decide +kernel
theorem dX6_setFog_41 : decode cX6_setFog 41 = .ok (.athrow, 1) := by decide +kernel
theorem dX6_setFog_42 : decode cX6_setFog 42 = .ok (.aload_n 0, 1) := by decide +kernel
theorem dX6_setFog_43 : decode cX6_setFog 43 = .ok (.getfield 16, 3) := by decide +kernel
theorem dX6_setFog_46 : decode cX6_setFog 46 = .ok (.iload_n 1, 1) := by decide +kernel
theorem dX6_setFog_47 : decode cX6_setFog 47 = .ok (.iaload, 1) := by decide +kernel
theorem dX6_setFog_48 : decode cX6_setFog 48 = .ok (.istore_n 3, 1) := by decide +kernel
theorem dX6_setFog_49 : decode cX6_setFog 49 = .ok (.aload_n 0, 1) := by decide +kernel
theorem dX6_setFog_50 : decode cX6_setFog 50 = .ok (.getfield 16, 3) := by decide +kernel
theorem dX6_setFog_53 : decode cX6_setFog 53 = .ok (.iload_n 1, 1) := by decide +kernel
theorem dX6_setFog_54 : decode cX6_setFog 54 = .ok (.iload_n 2, 1) := by decide +kernel
theorem dX6_setFog_55 : decode cX6_setFog 55 = .ok (.iastore, 1) := by decide +kernel
theorem dX6_setFog_56 : decode cX6_setFog 56 = .ok (.iload_n 3, 1) := by decide +kernel
theorem dX6_setFog_57 : decode cX6_setFog 57 = .ok (.ireturn, 1) := by decide +kernel
theorem dX6_rebuild_0 : decode cX6_rebuild 0 = .ok (.iload_n 1, 1) := by decide +kernel
theorem dX6_rebuild_1 : decode cX6_rebuild 1 = .ok (.iconst 4, 1) := by decide +kernel
theorem dX6_rebuild_2 : decode cX6_rebuild 2 = .ok (.bipush 30, 2) := by decide +kernel
theorem dX6_rebuild_4 : decode cX6_rebuild 4 = .ok (.invokestatic 39, 3) := by decide +kernel
theorem dX6_rebuild_7 : decode cX6_rebuild 7 = .ok (.ifCond .eq 15, 3) := by decide +kernel
theorem dX6_rebuild_10 : decode cX6_rebuild 10 = .ok (.iload_n 2, 1) := by decide +kernel
theorem dX6_rebuild_11 : decode cX6_rebuild 11 = .ok (.bipush 10, 2) := by decide +kernel
theorem dX6_rebuild_13 : decode cX6_rebuild 13 = .ok (.sipush 500, 3) := by decide +kernel
theorem dX6_rebuild_16 : decode cX6_rebuild 16 = .ok (.invokestatic 39, 3) := by decide +kernel
theorem dX6_rebuild_19 : decode cX6_rebuild 19 = .ok (.ifCond .ne 13, 3) := by decide +kernel
theorem dX6_rebuild_22 : decode cX6_rebuild 22 = .ok (.new 43, 3) := by decide +kernel
theorem dX6_rebuild_25 : decode cX6_rebuild 25 = .ok (.dup, 1) := by decide +kernel
theorem dX6_rebuild_26 : decode cX6_rebuild 26 = .ok (.ldc 108, 2) := by decide +kernel
theorem dX6_rebuild_28 : decode cX6_rebuild 28 = .ok (.invokespecial 47, 3) := by decide +kernel
theorem dX6_rebuild_31 : decode cX6_rebuild 31 = .ok (.athrow, 1) := by decide +kernel
theorem dX6_rebuild_32 : decode cX6_rebuild 32 = .ok (.aload_n 0, 1) := by decide +kernel
theorem dX6_rebuild_33 : decode cX6_rebuild 33 = .ok (.getfield 23, 3) := by decide +kernel
theorem dX6_rebuild_36 : decode cX6_rebuild 36 = .ok (.getfield 110, 3) := by decide +kernel
theorem dX6_rebuild_39 : decode cX6_rebuild 39 = .ok (.getfield 114, 3) := by decide +kernel
theorem dX6_rebuild_42 : decode cX6_rebuild 42 = .ok (.ifCond .le 13, 3) := by decide +kernel
theorem dX6_rebuild_45 : decode cX6_rebuild 45 = .ok (.new 58, 3) := by decide +kernel
theorem dX6_rebuild_48 : decode cX6_rebuild 48 = .ok (.dup, 1) := by decide +kernel
theorem dX6_rebuild_49 : decode cX6_rebuild 49 = .ok (.ldc 117, 2) := by decide +kernel
theorem dX6_rebuild_51 : decode cX6_rebuild 51 = .ok (.invokespecial 62, 3) := by decide +kernel
theorem dX6_rebuild_54 : decode cX6_rebuild 54 = .ok (.athrow, 1) := by decide +kernel
theorem dX6_rebuild_55 : decode cX6_rebuild 55 = .ok (.aload_n 0, 1) := by decide +kernel
theorem dX6_rebuild_56 : decode cX6_rebuild 56 = .ok (.getfield 23, 3) := by decide +kernel
theorem dX6_rebuild_59 : decode cX6_rebuild 59 = .ok (.getfield 119, 3) := by decide +kernel
theorem dX6_rebuild_62 : decode cX6_rebuild 62 = .ok (.istore_n 3, 1) := by decide +kernel
theorem dX6_rebuild_63 : decode cX6_rebuild 63 = .ok (.aload_n 0, 1) := by decide +kernel
theorem dX6_rebuild_64 : decode cX6_rebuild 64 = .ok (.getfield 23, 3) := by decide +kernel
theorem dX6_rebuild_67 : decode cX6_rebuild 67 = .ok (.iload_n 1, 1) := by decide +kernel
theorem dX6_rebuild_68 : decode cX6_rebuild 68 = .ok (.putfield 122, 3) := by decide +kernel
theorem dX6_rebuild_71 : decode cX6_rebuild 71 = .ok (.aload_n 0, 1) := by decide +kernel
theorem dX6_rebuild_72 : decode cX6_rebuild 72 = .ok (.getfield 23, 3) := by decide +kernel
theorem dX6_rebuild_75 : decode cX6_rebuild 75 = .ok (.iload_n 2, 1) := by decide +kernel
theorem dX6_rebuild_76 : decode cX6_rebuild 76 = .ok (.putfield 119, 3) := by decide +kernel
theorem dX6_rebuild_79 : decode cX6_rebuild 79 = .ok (.iload_n 3, 1) := by decide +kernel
theorem dX6_rebuild_80 : decode cX6_rebuild 80 = .ok (.ireturn, 1) := by decide +kernel
theorem dX6_setToll_0 : decode cX6_setToll 0 = .ok (.iload_n 1, 1) := by decide +kernel
theorem dX6_setToll_1 : decode cX6_setToll 1 = .ok (.iconst 0, 1) := by decide +kernel
theorem dX6_setToll_2 : decode cX6_setToll 2 = .ok (.bipush 9, 2) := by decide +kernel
theorem dX6_setToll_4 : decode cX6_setToll 4 = .ok (.invokestatic 39, 3) := by decide +kernel
theorem dX6_setToll_7 : decode cX6_setToll 7 = .ok (.ifCond .eq 13, 3) := by decide +kernel
theorem dX6_setToll_10 : decode cX6_setToll 10 = .ok (.iload_n 2, 1) := by decide +kernel
theorem dX6_setToll_11 : decode cX6_setToll 11 = .ok (.iconst 0, 1) := by decide +kernel
theorem dX6_setToll_12 : decode cX6_setToll 12 = .ok (.bipush 9, 2) := by decide +kernel
theorem dX6_setToll_14 : decode cX6_setToll 14 = .ok (.invokestatic 39, 3) := by decide +kernel
theorem dX6_setToll_17 : decode cX6_setToll 17 = .ok (.ifCond .ne 13, 3) := by decide +kernel
theorem dX6_setToll_20 : decode cX6_setToll 20 = .ok (.new 43, 3) := by decide +kernel
theorem dX6_setToll_23 : decode cX6_setToll 23 = .ok (.dup, 1) := by decide +kernel
theorem dX6_setToll_24 : decode cX6_setToll 24 = .ok (.ldc 125, 2) := by decide +kernel
theorem dX6_setToll_26 : decode cX6_setToll 26 = .ok (.invokespecial 47, 3) := by decide +kernel
theorem dX6_setToll_29 : decode cX6_setToll 29 = .ok (.athrow, 1) := by decide +kernel
theorem dX6_setToll_30 : decode cX6_setToll 30 = .ok (.bipush 10, 2) := by decide +kernel
theorem dX6_setToll_32 : decode cX6_setToll 32 = .ok (.aload_n 0, 1) := by decide +kernel
theorem dX6_setToll_33 : decode cX6_setToll 33 = .ok (.getfield 23, 3) := by decide +kernel
theorem dX6_setToll_36 : decode cX6_setToll 36 = .ok (.getfield 127, 3) := by decide +kernel
theorem dX6_setToll_39 : decode cX6_setToll 39 = .ok (.imul, 1) := by decide +kernel
theorem dX6_setToll_40 : decode cX6_setToll 40 = .ok (.aload_n 0, 1) := by decide +kernel
theorem dX6_setToll_41 : decode cX6_setToll 41 = .ok (.getfield 23, 3) := by decide +kernel
theorem dX6_setToll_44 : decode cX6_setToll 44 = .ok (.getfield 130, 3) := by decide +kernel
theorem dX6_setToll_47 : decode cX6_setToll 47 = .ok (.iadd, 1) := by decide +kernel
theorem dX6_setToll_48 : decode cX6_setToll 48 = .ok (.istore_n 3, 1) := by decide +kernel
theorem dX6_setToll_49 : decode cX6_setToll 49 = .ok (.aload_n 0, 1) := by decide +kernel
theorem dX6_setToll_50 : decode cX6_setToll 50 = .ok (.getfield 23, 3) := by decide +kernel
theorem dX6_setToll_53 : decode cX6_setToll 53 = .ok (.iload_n 1, 1) := by decide +kernel
theorem dX6_setToll_54 : decode cX6_setToll 54 = .ok (.putfield 127, 3) := by decide +kernel
theorem dX6_setToll_57 : decode cX6_setToll 57 = .ok (.aload_n 0, 1) := by decide +kernel
theorem dX6_setToll_58 : decode cX6_setToll 58 = .ok (.getfield 23, 3) := by decide +kernel
theorem dX6_setToll_61 : decode cX6_setToll 61 = .ok (.iload_n 2, 1) := by decide +kernel
theorem dX6_setToll_62 : decode cX6_setToll 62 = .ok (.putfield 130, 3) := by decide +kernel
theorem dX6_setToll_65 : decode cX6_setToll 65 = .ok (.iload_n 3, 1) := by decide +kernel
theorem dX6_setToll_66 : decode cX6_setToll 66 = .ok (.ireturn, 1) := by decide +kernel
theorem dX6_change_0 : decode cX6_change 0 = .ok (.aload_n 0, 1) := by decide +kernel
theorem dX6_change_1 : decode cX6_change 1 = .ok (.getfield 23, 3) := by decide +kernel
theorem dX6_change_4 : decode cX6_change 4 = .ok (.invokevirtual 133, 3) := by decide +kernel
theorem dX6_change_7 : decode cX6_change 7 = .ok (.aload_n 0, 1) := by decide +kernel
theorem dX6_change_8 : decode cX6_change 8 = .ok (.getfield 23, 3) := by decide +kernel
theorem dX6_change_11 : decode cX6_change 11 = .ok (.getfield 136, 3) := by decide +kernel
theorem dX6_change_14 : decode cX6_change 14 = .ok (.ireturn, 1) := by decide +kernel
theorem dX6_come_0 : decode cX6_come 0 = .ok (.iload_n 1, 1) := by decide +kernel
theorem dX6_come_1 : decode cX6_come 1 = .ok (.iconst 2, 1) := by decide +kernel
theorem dX6_come_2 : decode cX6_come 2 = .ok (.invokestatic 68, 3) := by decide +kernel
theorem dX6_come_5 : decode cX6_come 5 = .ok (.ifCond .eq 44, 3) := by decide +kernel
theorem dX6_come_8 : decode cX6_come 8 = .ok (.iload_n 2, 1) := by decide +kernel
theorem dX6_come_9 : decode cX6_come 9 = .ok (.iconst 1, 1) := by decide +kernel
theorem dX6_come_10 : decode cX6_come 10 = .ok (.iconst 4, 1) := by decide +kernel
theorem dX6_come_11 : decode cX6_come 11 = .ok (.invokestatic 39, 3) := by decide +kernel
theorem dX6_come_14 : decode cX6_come 14 = .ok (.ifCond .eq 35, 3) := by decide +kernel
theorem dX6_come_17 : decode cX6_come 17 = .ok (.iload_n 3, 1) := by decide +kernel
theorem dX6_come_18 : decode cX6_come 18 = .ok (.iconst 1, 1) := by decide +kernel
theorem dX6_come_19 : decode cX6_come 19 = .ok (.sipush 200, 3) := by decide +kernel
theorem dX6_come_22 : decode cX6_come 22 = .ok (.invokestatic 39, 3) := by decide +kernel
theorem dX6_come_25 : decode cX6_come 25 = .ok (.ifCond .eq 24, 3) := by decide +kernel
theorem dX6_come_28 : decode cX6_come 28 = .ok (.iload 4, 2) := by decide +kernel
theorem dX6_come_30 : decode cX6_come 30 = .ok (.iconst 1, 1) := by decide +kernel
theorem dX6_come_31 : decode cX6_come 31 = .ok (.iconst 3, 1) := by decide +kernel
theorem dX6_come_32 : decode cX6_come 32 = .ok (.invokestatic 39, 3) := by decide +kernel
theorem dX6_come_35 : decode cX6_come 35 = .ok (.ifCond .eq 14, 3) := by decide +kernel
theorem dX6_come_38 : decode cX6_come 38 = .ok (.iload 5, 2) := by decide +kernel
theorem dX6_come_40 : decode cX6_come 40 = .ok (.iconst 0, 1) := by decide +kernel
theorem dX6_come_41 : decode cX6_come 41 = .ok (.bipush 100, 2) := by decide +kernel
theorem dX6_come_43 : decode cX6_come 43 = .ok (.invokestatic 39, 3) := by decide +kernel
theorem dX6_come_46 : decode cX6_come 46 = .ok (.ifCond .ne 13, 3) := by decide +kernel
theorem dX6_come_49 : decode cX6_come 49 = .ok (.new 43, 3) := by decide +kernel
theorem dX6_come_52 : decode cX6_come 52 = .ok (.dup, 1) := by decide +kernel
theorem dX6_come_53 : decode cX6_come 53 = .ok (.ldc 139, 2) := by decide +kernel
theorem dX6_come_55 : decode cX6_come 55 = .ok (.invokespecial 47, 3) := by decide +kernel
theorem dX6_come_58 : decode cX6_come 58 = .ok (.athrow, 1) := by decide +kernel
theorem dX6_come_59 : decode cX6_come 59 = .ok (.aload_n 0, 1) := by decide +kernel
theorem dX6_come_60 : decode cX6_come 60 = .ok (.getfield 23, 3) := by decide +kernel
theorem dX6_come_63 : decode cX6_come 63 = .ok (.invokevirtual 141, 3) := by decide +kernel
theorem dX6_come_66 : decode cX6_come 66 = .ok (.astore 7, 2) := by decide +kernel
theorem dX6_come_68 : decode cX6_come 68 = .ok (.aload 7, 2) := by decide +kernel
theorem dX6_come_70 : decode cX6_come 70 = .ok (.ifnonnull 13, 3) := by decide +kernel
theorem dX6_come_73 : decode cX6_come 73 = .ok (.new 58, 3) := by decide +kernel
theorem dX6_come_76 : decode cX6_come 76 = .ok (.dup, 1) := by decide +kernel
theorem dX6_come_77 : decode cX6_come 77 = .ok (.ldc 145, 2) := by decide +kernel
theorem dX6_come_79 : decode cX6_come 79 = .ok (.invokespecial 62, 3) := by decide +kernel
theorem dX6_come_82 : decode cX6_come 82 = .ok (.athrow, 1) := by decide +kernel
theorem dX6_come_83 : decode cX6_come 83 = .ok (.aload 7, 2) := by decide +kernel
theorem dX6_come_85 : decode cX6_come 85 = .ok (.iload_n 1, 1) := by decide +kernel
theorem dX6_come_86 : decode cX6_come 86 = .ok (.putfield 147, 3) := by decide +kernel
theorem dX6_come_89 : decode cX6_come 89 = .ok (.aload 7, 2) := by decide +kernel
theorem dX6_come_91 : decode cX6_come 91 = .ok (.iload_n 2, 1) := by decide +kernel
theorem dX6_come_92 : decode cX6_come 92 = .ok (.putfield 152, 3) := by decide +kernel
theorem dX6_come_95 : decode cX6_come 95 = .ok (.aload 7, 2) := by decide +kernel
theorem dX6_come_97 : decode cX6_come 97 = .ok (.iload_n 3, 1) := by decide +kernel
theorem dX6_come_98 : decode cX6_come 98 = .ok (.putfield 155, 3) := by decide +kernel
theorem dX6_come_101 : decode cX6_come 101 = .ok (.aload 7, 2) := by decide +kernel
theorem dX6_come_103 : decode cX6_come 103 = .ok (.iload 4, 2) := by decide +kernel
theorem dX6_come_105 : decode cX6_come 105 = .ok (.putfield 158, 3) := by decide +kernel
theorem dX6_come_108 : decode cX6_come 108 = .ok (.aload 7, 2) := by decide +kernel
theorem dX6_come_110 : decode cX6_come 110 = .ok (.iload 5, 2) := by decide +kernel
theorem dX6_come_112 : decode cX6_come 112 = .ok (.putfield 161, 3) := by decide +kernel
theorem dX6_come_115 : decode cX6_come 115 = .ok (.aload 7, 2) := by decide +kernel
theorem dX6_come_117 : decode cX6_come 117 = .ok (.iload 6, 2) := by decide +kernel
theorem dX6_come_119 : decode cX6_come 119 = .ok (.putfield 164, 3) := by decide +kernel
theorem dX6_come_122 : decode cX6_come 122 = .ok (.aload_n 0, 1) := by decide +kernel
theorem dX6_come_123 : decode cX6_come 123 = .ok (.getfield 23, 3) := by decide +kernel
theorem dX6_come_126 : decode cX6_come 126 = .ok (.iload_n 1, 1) := by decide +kernel
theorem dX6_come_127 : decode cX6_come 127 = .ok (.invokevirtual 168, 3) := by decide +kernel
theorem dX6_come_130 : decode cX6_come 130 = .ok (.getfield 172, 3) := by decide +kernel
theorem dX6_come_133 : decode cX6_come 133 = .ok (.aload 7, 2) := by decide +kernel
theorem dX6_come_135 : decode cX6_come 135 = .ok (.getfield 177, 3) := by decide +kernel
theorem dX6_come_138 : decode cX6_come 138 = .ok (.invokevirtual 180, 3) := by decide +kernel
theorem dX6_come_141 : decode cX6_come 141 = .ok (.aload 7, 2) := by decide +kernel
theorem dX6_come_143 : decode cX6_come 143 = .ok (.getfield 177, 3) := by decide +kernel
theorem dX6_come_146 : decode cX6_come 146 = .ok (.ireturn, 1) := by decide +kernel
theorem dX6_cart_0 : decode cX6_cart 0 = .ok (.aload_n 0, 1) := by decide +kernel
theorem dX6_cart_1 : decode cX6_cart 1 = .ok (.getfield 23, 3) := by decide +kernel
theorem dX6_cart_4 : decode cX6_cart 4 = .ok (.iload_n 1, 1) := by decide +kernel
theorem dX6_cart_5 : decode cX6_cart 5 = .ok (.invokevirtual 184, 3) := by decide +kernel
theorem dX6_cart_8 : decode cX6_cart 8 = .ok (.astore_n 3, 1) := by decide +kernel
theorem dX6_cart_9 : decode cX6_cart 9 = .ok (.aload_n 3, 1) := by decide +kernel
theorem dX6_cart_10 : decode cX6_cart 10 = .ok (.ifnull 12, 3) := by decide +kernel
theorem dX6_cart_13 : decode cX6_cart 13 = .ok (.iload_n 2, 1) := by decide +kernel
theorem dX6_cart_14 : decode cX6_cart 14 = .ok (.bipush 9, 2) := by decide +kernel
theorem dX6_cart_16 : decode cX6_cart 16 = .ok (.invokestatic 68, 3) := by decide +kernel
theorem dX6_cart_19 : decode cX6_cart 19 = .ok (.ifCond .ne 13, 3) := by decide +kernel
theorem dX6_cart_22 : decode cX6_cart 22 = .ok (.new 72, 3) := by decide +kernel
theorem dX6_cart_25 : decode cX6_cart 25 = .ok (.dup, 1) := by decide +kernel
theorem dX6_cart_26 : decode cX6_cart 26 = .ok (.ldc 188, 2) := by decide +kernel
theorem dX6_cart_28 : decode cX6_cart 28 = .ok (.invokespecial 76, 3) := by decide +kernel
theorem dX6_cart_31 : decode cX6_cart 31 = .ok (.athrow, 1) := by decide +kernel
theorem dX6_cart_32 : decode cX6_cart 32 = .ok (.aload_n 0, 1) := by decide +kernel
theorem dX6_cart_33 : decode cX6_cart 33 = .ok (.getfield 23, 3) := by decide +kernel
theorem dX6_cart_36 : decode cX6_cart 36 = .ok (.aload_n 3, 1) := by decide +kernel
theorem dX6_cart_37 : decode cX6_cart 37 = .ok (.iload_n 2, 1) := by decide +kernel
theorem dX6_cart_38 : decode cX6_cart 38 = .ok (.invokevirtual 190, 3) := by decide +kernel
theorem dX6_cart_41 : decode cX6_cart 41 = .ok (.ireturn, 1) := by decide +kernel
theorem dX6_queue_0 : decode cX6_queue 0 = .ok (.iload_n 1, 1) := by decide +kernel
theorem dX6_queue_1 : decode cX6_queue 1 = .ok (.iconst 2, 1) := by decide +kernel
theorem dX6_queue_2 : decode cX6_queue 2 = .ok (.invokestatic 68, 3) := by decide +kernel
theorem dX6_queue_5 : decode cX6_queue 5 = .ok (.ifCond .eq 24, 3) := by decide +kernel
theorem dX6_queue_8 : decode cX6_queue 8 = .ok (.iload_n 2, 1) := by decide +kernel
theorem dX6_queue_9 : decode cX6_queue 9 = .ok (.aload_n 0, 1) := by decide +kernel
theorem dX6_queue_10 : decode cX6_queue 10 = .ok (.getfield 23, 3) := by decide +kernel
theorem dX6_queue_13 : decode cX6_queue 13 = .ok (.iload_n 1, 1) := by decide +kernel
theorem dX6_queue_14 : decode cX6_queue 14 = .ok (.invokevirtual 168, 3) := by decide +kernel
theorem dX6_queue_17 : decode cX6_queue 17 = .ok (.getfield 172, 3) := by decide +kernel
theorem dX6_queue_20 : decode cX6_queue 20 = .ok (.getfield 114, 3) := by decide +kernel
theorem dX6_queue_23 : decode cX6_queue 23 = .ok (.invokestatic 68, 3) := by decide +kernel
theorem dX6_queue_26 : decode cX6_queue 26 = .ok (.ifCond .ne 13, 3) := by decide +kernel
theorem dX6_queue_29 : decode cX6_queue 29 = .ok (.new 72, 3) := by decide +kernel
theorem dX6_queue_32 : decode cX6_queue 32 = .ok (.dup, 1) := by decide +kernel
theorem dX6_queue_33 : decode cX6_queue 33 = .ok (.ldc 194, 2) := by decide +kernel
theorem dX6_queue_35 : decode cX6_queue 35 = .ok (.invokespecial 76, 3) := by decide +kernel
theorem dX6_queue_38 : decode cX6_queue 38 = .ok (.athrow, 1) := by decide +kernel
theorem dX6_queue_39 : decode cX6_queue 39 = .ok (.aload_n 0, 1) := by decide +kernel
theorem dX6_queue_40 : decode cX6_queue 40 = .ok (.getfield 23, 3) := by decide +kernel
theorem dX6_queue_43 : decode cX6_queue 43 = .ok (.iload_n 1, 1) := by decide +kernel
theorem dX6_queue_44 : decode cX6_queue 44 = .ok (.invokevirtual 168, 3) := by decide +kernel
theorem dX6_queue_47 : decode cX6_queue 47 = .ok (.getfield 172, 3) := by decide +kernel
theorem dX6_queue_50 : decode cX6_queue 50 = .ok (.iload_n 2, 1) := by decide +kernel
theorem dX6_queue_51 : decode cX6_queue 51 = .ok (.invokevirtual 196, 3) := by decide +kernel
theorem dX6_queue_54 : decode cX6_queue 54 = .ok (.ireturn, 1) := by decide +kernel
theorem dX6_box_0 : decode cX6_box 0 = .ok (.iload_n 1, 1) := by decide +kernel
theorem dX6_box_1 : decode cX6_box 1 = .ok (.iconst 2, 1) := by decide +kernel
theorem dX6_box_2 : decode cX6_box 2 = .ok (.invokestatic 68, 3) := by decide +kernel
theorem dX6_box_5 : decode cX6_box 5 = .ok (.ifCond .eq 11, 3) := by decide +kernel
theorem dX6_box_8 : decode cX6_box 8 = .ok (.iload_n 2, 1) := by decide +kernel
theorem dX6_box_9 : decode cX6_box 9 = .ok (.iconst 4, 1) := by decide +kernel
theorem dX6_box_10 : decode cX6_box 10 = .ok (.invokestatic 68, 3) := by decide +kernel
theorem dX6_box_13 : decode cX6_box 13 = .ok (.ifCond .ne 13, 3) := by decide +kernel
theorem dX6_box_16 : decode cX6_box 16 = .ok (.new 72, 3) := by decide +kernel
theorem dX6_box_19 : decode cX6_box 19 = .ok (.dup, 1) := by decide +kernel
theorem dX6_box_20 : decode cX6_box 20 = .ok (.ldc 199, 2) := by decide +kernel
theorem dX6_box_22 : decode cX6_box 22 = .ok (.invokespecial 76, 3) := by decide +kernel
theorem dX6_box_25 : decode cX6_box 25 = .ok (.athrow, 1) := by decide +kernel
theorem dX6_box_26 : decode cX6_box 26 = .ok (.aload_n 0, 1) := by decide +kernel
theorem dX6_box_27 : decode cX6_box 27 = .ok (.getfield 23, 3) := by decide +kernel
theorem dX6_box_30 : decode cX6_box 30 = .ok (.iload_n 1, 1) := by decide +kernel
theorem dX6_box_31 : decode cX6_box 31 = .ok (.invokevirtual 168, 3) := by decide +kernel
theorem dX6_box_34 : decode cX6_box 34 = .ok (.iload_n 2, 1) := by decide +kernel
theorem dX6_box_35 : decode cX6_box 35 = .ok (.invokevirtual 201, 3) := by decide +kernel
theorem dX6_box_38 : decode cX6_box 38 = .ok (.ireturn, 1) := by decide +kernel
theorem dX6_empty_0 : decode cX6_empty 0 = .ok (.iload_n 1, 1) := by decide +kernel
theorem dX6_empty_1 : decode cX6_empty 1 = .ok (.iconst 2, 1) := by decide +kernel
theorem dX6_empty_2 : decode cX6_empty 2 = .ok (.invokestatic 68, 3) := by decide +kernel
theorem dX6_empty_5 : decode cX6_empty 5 = .ok (.ifCond .ne 13, 3) := by decide +kernel
theorem dX6_empty_8 : decode cX6_empty 8 = .ok (.new 72, 3) := by decide +kernel
theorem dX6_empty_11 : decode cX6_empty 11 = .ok (.dup, 1) := by decide +kernel
theorem dX6_empty_12 : decode cX6_empty 12 = .ok (.ldc 204, 2) := by decide +kernel
theorem dX6_empty_14 : decode cX6_empty 14 = .ok (.invokespecial 76, 3) := by decide +kernel
theorem dX6_empty_17 : decode cX6_empty 17 = .ok (.athrow, 1) := by decide +kernel
theorem dX6_empty_18 : decode cX6_empty 18 = .ok (.aload_n 0, 1) := by decide +kernel
theorem dX6_empty_19 : decode cX6_empty 19 = .ok (.getfield 23, 3) := by decide +kernel
theorem dX6_empty_22 : decode cX6_empty 22 = .ok (.iload_n 1, 1) := by decide +kernel
theorem dX6_empty_23 : decode cX6_empty 23 = .ok (.invokevirtual 168, 3) := by decide +kernel
theorem dX6_empty_26 : decode cX6_empty 26 = .ok (.astore_n 2, 1) := by decide +kernel
theorem dX6_empty_27 : decode cX6_empty 27 = .ok (.aload_n 2, 1) := by decide +kernel
theorem dX6_empty_28 : decode cX6_empty 28 = .ok (.getfield 206, 3) := by decide +kernel
theorem dX6_empty_31 : decode cX6_empty 31 = .ok (.istore_n 3, 1) := by decide +kernel
theorem dX6_empty_32 : decode cX6_empty 32 = .ok (.aload_n 2, 1) := by decide +kernel
theorem dX6_empty_33 : decode cX6_empty 33 = .ok (.iconst 0, 1) := by decide +kernel
theorem dX6_empty_34 : decode cX6_empty 34 = .ok (.putfield 209, 3) := by decide +kernel
theorem dX6_empty_37 : decode cX6_empty 37 = .ok (.aload_n 2, 1) := by decide +kernel
theorem dX6_empty_38 : decode cX6_empty 38 = .ok (.iconst 0, 1) := by decide +kernel
theorem dX6_empty_39 : decode cX6_empty 39 = .ok (.putfield 206, 3) := by decide +kernel
theorem dX6_empty_42 : decode cX6_empty 42 = .ok (.iload_n 3, 1) := by decide +kernel
theorem dX6_empty_43 : decode cX6_empty 43 = .ok (.ireturn, 1) := by decide +kernel
theorem dX6_pass_0 : decode cX6_pass 0 = .ok (.iload_n 1, 1) := by decide +kernel
theorem dX6_pass_1 : decode cX6_pass 1 = .ok (.iconst 1, 1) := by decide +kernel
theorem dX6_pass_2 : decode cX6_pass 2 = .ok (.sipush 200, 3) := by decide +kernel
theorem dX6_pass_5 : decode cX6_pass 5 = .ok (.invokestatic 39, 3) := by decide +kernel
theorem dX6_pass_8 : decode cX6_pass 8 = .ok (.ifCond .ne 13, 3) := by decide +kernel
theorem dX6_pass_11 : decode cX6_pass 11 = .ok (.new 43, 3) := by decide +kernel
theorem dX6_pass_14 : decode cX6_pass 14 = .ok (.dup, 1) := by decide +kernel
theorem dX6_pass_15 : decode cX6_pass 15 = .ok (.ldc 210, 2) := by decide +kernel
theorem dX6_pass_17 : decode cX6_pass 17 = .ok (.invokespecial 47, 3) := by decide +kernel
theorem dX6_pass_20 : decode cX6_pass 20 = .ok (.athrow, 1) := by decide +kernel
theorem dX6_pass_21 : decode cX6_pass 21 = .ok (.aload_n 0, 1) := by decide +kernel
theorem dX6_pass_22 : decode cX6_pass 22 = .ok (.getfield 23, 3) := by decide +kernel
theorem dX6_pass_25 : decode cX6_pass 25 = .ok (.iload_n 1, 1) := by decide +kernel
theorem dX6_pass_26 : decode cX6_pass 26 = .ok (.invokevirtual 212, 3) := by decide +kernel
theorem dX6_pass_29 : decode cX6_pass 29 = .ok (.ireturn, 1) := by decide +kernel
theorem dX6_count_0 : decode cX6_count 0 = .ok (.iload_n 1, 1) := by decide +kernel
theorem dX6_count_1 : decode cX6_count 1 = .ok (.bipush 11, 2) := by decide +kernel
theorem dX6_count_3 : decode cX6_count 3 = .ok (.invokestatic 68, 3) := by decide +kernel
theorem dX6_count_6 : decode cX6_count 6 = .ok (.ifCond .ne 13, 3) := by decide +kernel
theorem dX6_count_9 : decode cX6_count 9 = .ok (.new 72, 3) := by decide +kernel
theorem dX6_count_12 : decode cX6_count 12 = .ok (.dup, 1) := by decide +kernel
theorem dX6_count_13 : decode cX6_count 13 = .ok (.ldc 215, 2) := by decide +kernel
theorem dX6_count_15 : decode cX6_count 15 = .ok (.invokespecial 76, 3) := by decide +kernel
theorem dX6_count_18 : decode cX6_count 18 = .ok (.athrow, 1) := by decide +kernel
theorem dX6_count_19 : decode cX6_count 19 = .ok (.aload_n 0, 1) := by decide +kernel
theorem dX6_count_20 : decode cX6_count 20 = .ok (.iload_n 1, 1) := by decide +kernel
theorem dX6_count_21 : decode cX6_count 21 = .ok (.invokevirtual 217, 3) := by decide +kernel
theorem dX6_count_24 : decode cX6_count 24 = .ok (.ireturn, 1) := by decide +kernel
theorem dX6_over_0 : decode cX6_over 0 = .ok (.aload_n 0, 1) := by decide +kernel
theorem dX6_over_1 : decode cX6_over 1 = .ok (.getfield 23, 3) := by decide +kernel
theorem dX6_over_4 : decode cX6_over 4 = .ok (.iload_n 1, 1) := by decide +kernel
theorem dX6_over_5 : decode cX6_over 5 = .ok (.invokevirtual 184, 3) := by decide +kernel
theorem dX6_over_8 : decode cX6_over 8 = .ok (.ifnonnull 13, 3) := by decide +kernel
theorem dX6_over_11 : decode cX6_over 11 = .ok (.new 72, 3) := by decide +kernel
theorem dX6_over_14 : decode cX6_over 14 = .ok (.dup, 1) := by decide +kernel
theorem dX6_over_15 : decode cX6_over 15 = .ok (.ldc 220, 2) := by decide +kernel
theorem dX6_over_17 : decode cX6_over 17 = .ok (.invokespecial 76, 3) := by decide +kernel
theorem dX6_over_20 : decode cX6_over 20 = .ok (.athrow, 1) := by decide +kernel
theorem dX6_over_21 : decode cX6_over 21 = .ok (.aload_n 0, 1) := by decide +kernel
theorem dX6_over_22 : decode cX6_over 22 = .ok (.getfield 27, 3) := by decide +kernel
theorem dX6_over_25 : decode cX6_over 25 = .ok (.aload_n 0, 1) := by decide +kernel
theorem dX6_over_26 : decode cX6_over 26 = .ok (.getfield 23, 3) := by decide +kernel
theorem dX6_over_29 : decode cX6_over 29 = .ok (.invokevirtual 222, 3) := by decide +kernel
theorem dX6_over_32 : decode cX6_over 32 = .ok (.iconst 0, 1) := by decide +kernel
theorem dX6_over_33 : decode cX6_over 33 = .ok (.istore_n 2, 1) := by decide +kernel
theorem dX6_over_34 : decode cX6_over 34 = .ok (.iload_n 2, 1) := by decide +kernel
theorem dX6_over_35 : decode cX6_over 35 = .ok (.sipush 200, 3) := by decide +kernel
theorem dX6_over_38 : decode cX6_over 38 = .ok (.if_icmp .gt 31, 3) := by decide +kernel
theorem dX6_over_41 : decode cX6_over 41 = .ok (.aload_n 0, 1) := by decide +kernel
theorem dX6_over_42 : decode cX6_over 42 = .ok (.getfield 27, 3) := by decide +kernel
theorem dX6_over_45 : decode cX6_over 45 = .ok (.iload_n 1, 1) := by decide +kernel
theorem dX6_over_46 : decode cX6_over 46 = .ok (.invokevirtual 226, 3) := by decide +kernel
theorem dX6_over_49 : decode cX6_over 49 = .ok (.ifCond .eq 5, 3) := by decide +kernel
theorem dX6_over_52 : decode cX6_over 52 = .ok (.iload_n 2, 1) := by decide +kernel
theorem dX6_over_53 : decode cX6_over 53 = .ok (.ireturn, 1) := by decide +kernel
theorem dX6_over_54 : decode cX6_over 54 = .ok (.aload_n 0, 1) := by decide +kernel
theorem dX6_over_55 : decode cX6_over 55 = .ok (.getfield 27, 3) := by decide +kernel
theorem dX6_over_58 : decode cX6_over 58 = .ok (.iconst 1, 1) := by decide +kernel
theorem dX6_over_59 : decode cX6_over 59 = .ok (.invokevirtual 212, 3) := by decide +kernel
theorem dX6_over_62 : decode cX6_over 62 = .ok (.pop, 1) := by decide +kernel
theorem dX6_over_63 : decode cX6_over 63 = .ok (.iinc 2 1, 3) := by decide +kernel
theorem dX6_over_66 : decode cX6_over 66 = .ok (.goto (-32), 3) := by decide +kernel
theorem dX6_over_69 : decode cX6_over 69 = .ok (.iconst (-1), 1) := by decide +kernel
theorem dX6_over_70 : decode cX6_over 70 = .ok (.ireturn, 1) := by decide +kernel
theorem dX6_keep_0 : decode cX6_keep 0 = .ok (.aload_n 0, 1) := by decide +kernel
theorem dX6_keep_1 : decode cX6_keep 1 = .ok (.getfield 30, 3) := by decide +kernel
theorem dX6_keep_4 : decode cX6_keep 4 = .ok (.aload_n 0, 1) := by decide +kernel
theorem dX6_keep_5 : decode cX6_keep 5 = .ok (.getfield 23, 3) := by decide +kernel
theorem dX6_keep_8 : decode cX6_keep 8 = .ok (.invokevirtual 222, 3) := by decide +kernel
theorem dX6_keep_11 : decode cX6_keep 11 = .ok (.aload_n 0, 1) := by decide +kernel
theorem dX6_keep_12 : decode cX6_keep 12 = .ok (.getfield 30, 3) := by decide +kernel
theorem dX6_keep_15 : decode cX6_keep 15 = .ok (.bipush 60, 2) := by decide +kernel
theorem dX6_keep_17 : decode cX6_keep 17 = .ok (.invokevirtual 212, 3) := by decide +kernel
theorem dX6_keep_20 : decode cX6_keep 20 = .ok (.istore_n 1, 1) := by decide +kernel
theorem dX6_keep_21 : decode cX6_keep 21 = .ok (.iconst (-1), 1) := by decide +kernel
theorem dX6_keep_22 : decode cX6_keep 22 = .ok (.istore_n 2, 1) := by decide +kernel
theorem dX6_keep_23 : decode cX6_keep 23 = .ok (.iconst 0, 1) := by decide +kernel
theorem dX6_keep_24 : decode cX6_keep 24 = .ok (.istore_n 3, 1) := by decide +kernel
theorem dX6_keep_25 : decode cX6_keep 25 = .ok (.aload_n 0, 1) := by decide +kernel
theorem dX6_keep_26 : decode cX6_keep 26 = .ok (.getfield 27, 3) := by decide +kernel
theorem dX6_keep_29 : decode cX6_keep 29 = .ok (.aload_n 0, 1) := by decide +kernel
theorem dX6_keep_30 : decode cX6_keep 30 = .ok (.getfield 23, 3) := by decide +kernel
theorem dX6_keep_33 : decode cX6_keep 33 = .ok (.invokevirtual 222, 3) := by decide +kernel
theorem dX6_keep_36 : decode cX6_keep 36 = .ok (.iconst 0, 1) := by decide +kernel
theorem dX6_keep_37 : decode cX6_keep 37 = .ok (.istore 4, 2) := by decide +kernel
theorem dX6_keep_39 : decode cX6_keep 39 = .ok (.iload 4, 2) := by decide +kernel
theorem dX6_keep_41 : decode cX6_keep 41 = .ok (.bipush 60, 2) := by decide +kernel
theorem dX6_keep_43 : decode cX6_keep 43 = .ok (.if_icmp .ge 66, 3) := by decide +kernel
theorem dX6_keep_46 : decode cX6_keep 46 = .ok (.aload_n 0, 1) := by decide +kernel
theorem dX6_keep_47 : decode cX6_keep 47 = .ok (.getfield 30, 3) := by decide +kernel
theorem dX6_keep_50 : decode cX6_keep 50 = .ok (.aload_n 0, 1) := by decide +kernel
theorem dX6_keep_51 : decode cX6_keep 51 = .ok (.getfield 27, 3) := by decide +kernel
theorem dX6_keep_54 : decode cX6_keep 54 = .ok (.invokevirtual 222, 3) := by decide +kernel
theorem dX6_keep_57 : decode cX6_keep 57 = .ok (.aload_n 0, 1) := by decide +kernel
theorem dX6_keep_58 : decode cX6_keep 58 = .ok (.getfield 30, 3) := by decide +kernel
theorem dX6_keep_61 : decode cX6_keep 61 = .ok (.invokevirtual 133, 3) := by decide +kernel
theorem dX6_keep_64 : decode cX6_keep 64 = .ok (.iload_n 3, 1) := by decide +kernel
theorem dX6_keep_65 : decode cX6_keep 65 = .ok (.aload_n 0, 1) := by decide +kernel
theorem dX6_keep_66 : decode cX6_keep 66 = .ok (.getfield 30, 3) := by decide +kernel
theorem dX6_keep_69 : decode cX6_keep 69 = .ok (.bipush 60, 2) := by decide +kernel
theorem dX6_keep_71 : decode cX6_keep 71 = .ok (.iload 4, 2) := by decide +kernel
theorem dX6_keep_73 : decode cX6_keep 73 = .ok (.isub, 1) := by decide +kernel
theorem dX6_keep_74 : decode cX6_keep 74 = .ok (.invokevirtual 212, 3) := by decide +kernel
theorem dX6_keep_77 : decode cX6_keep 77 = .ok (.iadd, 1) := by decide +kernel
theorem dX6_keep_78 : decode cX6_keep 78 = .ok (.istore 5, 2) := by decide +kernel
theorem dX6_keep_80 : decode cX6_keep 80 = .ok (.iload 5, 2) := by decide +kernel
theorem dX6_keep_82 : decode cX6_keep 82 = .ok (.iload_n 1, 1) := by decide +kernel
theorem dX6_keep_83 : decode cX6_keep 83 = .ok (.if_icmp .le 9, 3) := by decide +kernel
theorem dX6_keep_86 : decode cX6_keep 86 = .ok (.iload 5, 2) := by decide +kernel
theorem dX6_keep_88 : decode cX6_keep 88 = .ok (.istore_n 1, 1) := by decide +kernel
theorem dX6_keep_89 : decode cX6_keep 89 = .ok (.iload 4, 2) := by decide +kernel
theorem dX6_keep_91 : decode cX6_keep 91 = .ok (.istore_n 2, 1) := by decide +kernel
theorem dX6_keep_92 : decode cX6_keep 92 = .ok (.iload_n 3, 1) := by decide +kernel
theorem dX6_keep_93 : decode cX6_keep 93 = .ok (.aload_n 0, 1) := by decide +kernel
theorem dX6_keep_94 : decode cX6_keep 94 = .ok (.getfield 27, 3) := by decide +kernel
theorem dX6_keep_97 : decode cX6_keep 97 = .ok (.iconst 1, 1) := by decide +kernel
theorem dX6_keep_98 : decode cX6_keep 98 = .ok (.invokevirtual 212, 3) := by decide +kernel
theorem dX6_keep_101 : decode cX6_keep 101 = .ok (.iadd, 1) := by decide +kernel
theorem dX6_keep_102 : decode cX6_keep 102 = .ok (.istore_n 3, 1) := by decide +kernel
theorem dX6_keep_103 : decode cX6_keep 103 = .ok (.iinc 4 1, 3) := by decide +kernel
theorem dX6_keep_106 : decode cX6_keep 106 = .ok (.goto (-67), 3) := by decide +kernel
theorem dX6_keep_109 : decode cX6_keep 109 = .ok (.iload_n 2, 1) := by decide +kernel
theorem dX6_keep_110 : decode cX6_keep 110 = .ok (.ireturn, 1) := by decide +kernel
theorem dX6_foresee_0 : decode cX6_foresee 0 = .ok (.iload_n 1, 1) := by decide +kernel
theorem dX6_foresee_1 : decode cX6_foresee 1 = .ok (.iconst 1, 1) := by decide +kernel
theorem dX6_foresee_2 : decode cX6_foresee 2 = .ok (.bipush 100, 2) := by decide +kernel
theorem dX6_foresee_4 : decode cX6_foresee 4 = .ok (.invokestatic 39, 3) := by decide +kernel
theorem dX6_foresee_7 : decode cX6_foresee 7 = .ok (.ifCond .ne 13, 3) := by decide +kernel
theorem dX6_foresee_10 : decode cX6_foresee 10 = .ok (.new 43, 3) := by decide +kernel
theorem dX6_foresee_13 : decode cX6_foresee 13 = .ok (.dup, 1) := by decide +kernel
theorem dX6_foresee_14 : decode cX6_foresee 14 = .ok (.ldc 229, 2) := by decide +kernel
theorem dX6_foresee_16 : decode cX6_foresee 16 = .ok (.invokespecial 47, 3) := by decide +kernel
theorem dX6_foresee_19 : decode cX6_foresee 19 = .ok (.athrow, 1) := by decide +kernel
theorem dX6_foresee_20 : decode cX6_foresee 20 = .ok (.iload_n 2, 1) := by decide +kernel
theorem dX6_foresee_21 : decode cX6_foresee 21 = .ok (.iconst 3, 1) := by decide +kernel
theorem dX6_foresee_22 : decode cX6_foresee 22 = .ok (.invokestatic 68, 3) := by decide +kernel
theorem dX6_foresee_25 : decode cX6_foresee 25 = .ok (.ifCond .ne 13, 3) := by decide +kernel
theorem dX6_foresee_28 : decode cX6_foresee 28 = .ok (.new 72, 3) := by decide +kernel
theorem dX6_foresee_31 : decode cX6_foresee 31 = .ok (.dup, 1) := by decide +kernel
theorem dX6_foresee_32 : decode cX6_foresee 32 = .ok (.ldc 74, 2) := by decide +kernel
theorem dX6_foresee_34 : decode cX6_foresee 34 = .ok (.invokespecial 76, 3) := by decide +kernel
theorem dX6_foresee_37 : decode cX6_foresee 37 = .ok (.athrow, 1) := by decide +kernel
theorem dX6_foresee_38 : decode cX6_foresee 38 = .ok (.aload_n 0, 1) := by decide +kernel
theorem dX6_foresee_39 : decode cX6_foresee 39 = .ok (.getfield 27, 3) := by decide +kernel
theorem dX6_foresee_42 : decode cX6_foresee 42 = .ok (.aload_n 0, 1) := by decide +kernel
theorem dX6_foresee_43 : decode cX6_foresee 43 = .ok (.getfield 23, 3) := by decide +kernel
theorem dX6_foresee_46 : decode cX6_foresee 46 = .ok (.invokevirtual 222, 3) := by decide +kernel
theorem dX6_foresee_49 : decode cX6_foresee 49 = .ok (.aload_n 0, 1) := by decide +kernel
theorem dX6_foresee_50 : decode cX6_foresee 50 = .ok (.getfield 27, 3) := by decide +kernel
theorem dX6_foresee_53 : decode cX6_foresee 53 = .ok (.iload_n 1, 1) := by decide +kernel
theorem dX6_foresee_54 : decode cX6_foresee 54 = .ok (.invokevirtual 212, 3) := by decide +kernel
theorem dX6_foresee_57 : decode cX6_foresee 57 = .ok (.istore_n 3, 1) := by decide +kernel
theorem dX6_foresee_58 : decode cX6_foresee 58 = .ok (.iload_n 2, 1) := by decide +kernel
theorem dX6_foresee_59 : decode cX6_foresee 59 = .ok (.lookupswitch 43 #[(0, 25), (1, 27)], 25) := by decide +kernel
theorem dX6_foresee_84 : decode cX6_foresee 84 = .ok (.iload_n 3, 1) := by decide +kernel
theorem dX6_foresee_85 : decode cX6_foresee 85 = .ok (.ireturn, 1) := by decide +kernel
theorem dX6_foresee_86 : decode cX6_foresee 86 = .ok (.aload_n 0, 1) := by decide +kernel
theorem dX6_foresee_87 : decode cX6_foresee 87 = .ok (.getfield 27, 3) := by decide +kernel
theorem dX6_foresee_90 : decode cX6_foresee 90 = .ok (.invokevirtual 231, 3) := by decide +kernel
theorem dX6_foresee_93 : decode cX6_foresee 93 = .ok (.aload_n 0, 1) := by decide +kernel
theorem dX6_foresee_94 : decode cX6_foresee 94 = .ok (.getfield 23, 3) := by decide +kernel
theorem dX6_foresee_97 : decode cX6_foresee 97 = .ok (.invokevirtual 231, 3) := by decide +kernel
theorem dX6_foresee_100 : decode cX6_foresee 100 = .ok (.isub, 1) := by decide +kernel
theorem dX6_foresee_101 : decode cX6_foresee 101 = .ok (.ireturn, 1) := by decide +kernel
theorem dX6_foresee_102 : decode cX6_foresee 102 = .ok (.aload_n 0, 1) := by decide +kernel
theorem dX6_foresee_103 : decode cX6_foresee 103 = .ok (.getfield 27, 3) := by decide +kernel
theorem dX6_foresee_106 : decode cX6_foresee 106 = .ok (.getfield 110, 3) := by decide +kernel
theorem dX6_foresee_109 : decode cX6_foresee 109 = .ok (.getfield 114, 3) := by decide +kernel
theorem dX6_foresee_112 : decode cX6_foresee 112 = .ok (.ireturn, 1) := by decide +kernel
theorem dX6_mean_0 : decode cX6_mean 0 = .ok (.aload_n 0, 1) := by decide +kernel
theorem dX6_mean_1 : decode cX6_mean 1 = .ok (.getfield 23, 3) := by decide +kernel
theorem dX6_mean_4 : decode cX6_mean 4 = .ok (.invokevirtual 235, 3) := by decide +kernel
theorem dX6_mean_7 : decode cX6_mean 7 = .ok (.dreturn, 1) := by decide +kernel
theorem dX6_digest_0 : decode cX6_digest 0 = .ok (.ldc2_w 239, 3) := by decide +kernel
theorem dX6_digest_3 : decode cX6_digest 3 = .ok (.lstore_n 1, 1) := by decide +kernel
theorem dX6_digest_4 : decode cX6_digest 4 = .ok (.iconst 0, 1) := by decide +kernel
theorem dX6_digest_5 : decode cX6_digest 5 = .ok (.istore_n 3, 1) := by decide +kernel
theorem dX6_digest_6 : decode cX6_digest 6 = .ok (.iload_n 3, 1) := by decide +kernel
theorem dX6_digest_7 : decode cX6_digest 7 = .ok (.bipush 11, 2) := by decide +kernel
theorem dX6_digest_9 : decode cX6_digest 9 = .ok (.if_icmp .ge 19, 3) := by decide +kernel
theorem dX6_digest_12 : decode cX6_digest 12 = .ok (.lload_n 1, 1) := by decide +kernel
theorem dX6_digest_13 : decode cX6_digest 13 = .ok (.aload_n 0, 1) := by decide +kernel
theorem dX6_digest_14 : decode cX6_digest 14 = .ok (.iload_n 3, 1) := by decide +kernel
theorem dX6_digest_15 : decode cX6_digest 15 = .ok (.invokevirtual 217, 3) := by decide +kernel
theorem dX6_digest_18 : decode cX6_digest 18 = .ok (.invokestatic 241, 3) := by decide +kernel
theorem dX6_digest_21 : decode cX6_digest 21 = .ok (.lstore_n 1, 1) := by decide +kernel
theorem dX6_digest_22 : decode cX6_digest 22 = .ok (.iinc 3 1, 3) := by decide +kernel
theorem dX6_digest_25 : decode cX6_digest 25 = .ok (.goto (-19), 3) := by decide +kernel
theorem dX6_digest_28 : decode cX6_digest 28 = .ok (.aload_n 0, 1) := by decide +kernel
theorem dX6_digest_29 : decode cX6_digest 29 = .ok (.getfield 10, 3) := by decide +kernel
theorem dX6_digest_32 : decode cX6_digest 32 = .ok (.lload_n 1, 1) := by decide +kernel
theorem dX6_digest_33 : decode cX6_digest 33 = .ok (.invokevirtual 245, 3) := by decide +kernel
theorem dX6_digest_36 : decode cX6_digest 36 = .ok (.lstore_n 1, 1) := by decide +kernel
theorem dX6_digest_37 : decode cX6_digest 37 = .ok (.iconst 0, 1) := by decide +kernel
theorem dX6_digest_38 : decode cX6_digest 38 = .ok (.istore_n 3, 1) := by decide +kernel
theorem dX6_digest_39 : decode cX6_digest 39 = .ok (.iload_n 3, 1) := by decide +kernel
theorem dX6_digest_40 : decode cX6_digest 40 = .ok (.aload_n 0, 1) := by decide +kernel
theorem dX6_digest_41 : decode cX6_digest 41 = .ok (.getfield 16, 3) := by decide +kernel
theorem dX6_digest_44 : decode cX6_digest 44 = .ok (.arraylength, 1) := by decide +kernel
theorem dX6_digest_45 : decode cX6_digest 45 = .ok (.if_icmp .ge 20, 3) := by decide +kernel
theorem dX6_digest_48 : decode cX6_digest 48 = .ok (.lload_n 1, 1) := by decide +kernel
theorem dX6_digest_49 : decode cX6_digest 49 = .ok (.aload_n 0, 1) := by decide +kernel
theorem dX6_digest_50 : decode cX6_digest 50 = .ok (.getfield 16, 3) := by decide +kernel
theorem dX6_digest_53 : decode cX6_digest 53 = .ok (.iload_n 3, 1) := by decide +kernel
theorem dX6_digest_54 : decode cX6_digest 54 = .ok (.iaload, 1) := by decide +kernel
theorem dX6_digest_55 : decode cX6_digest 55 = .ok (.invokestatic 241, 3) := by decide +kernel
theorem dX6_digest_58 : decode cX6_digest 58 = .ok (.lstore_n 1, 1) := by decide +kernel
theorem dX6_digest_59 : decode cX6_digest 59 = .ok (.iinc 3 1, 3) := by decide +kernel
theorem dX6_digest_62 : decode cX6_digest 62 = .ok (.goto (-23), 3) := by decide +kernel
theorem dX6_digest_65 : decode cX6_digest 65 = .ok (.aload_n 0, 1) := by decide +kernel
theorem dX6_digest_66 : decode cX6_digest 66 = .ok (.getfield 23, 3) := by decide +kernel
theorem dX6_digest_69 : decode cX6_digest 69 = .ok (.lload_n 1, 1) := by decide +kernel
theorem dX6_digest_70 : decode cX6_digest 70 = .ok (.invokevirtual 249, 3) := by decide +kernel
theorem dX6_digest_73 : decode cX6_digest 73 = .ok (.lreturn, 1) := by decide +kernel
theorem dX6_isBetween_0 : decode cX6_isBetween 0 = .ok (.iload_n 0, 1) := by decide +kernel
theorem dX6_isBetween_1 : decode cX6_isBetween 1 = .ok (.iload_n 1, 1) := by decide +kernel
theorem dX6_isBetween_2 : decode cX6_isBetween 2 = .ok (.if_icmp .lt 12, 3) := by decide +kernel
theorem dX6_isBetween_5 : decode cX6_isBetween 5 = .ok (.iload_n 0, 1) := by decide +kernel
theorem dX6_isBetween_6 : decode cX6_isBetween 6 = .ok (.iload_n 2, 1) := by decide +kernel
theorem dX6_isBetween_7 : decode cX6_isBetween 7 = .ok (.if_icmp .gt 7, 3) := by decide +kernel
theorem dX6_isBetween_10 : decode cX6_isBetween 10 = .ok (.iconst 1, 1) := by decide +kernel
theorem dX6_isBetween_11 : decode cX6_isBetween 11 = .ok (.goto 4, 3) := by decide +kernel
theorem dX6_isBetween_14 : decode cX6_isBetween 14 = .ok (.iconst 0, 1) := by decide +kernel
theorem dX6_isBetween_15 : decode cX6_isBetween 15 = .ok (.ireturn, 1) := by decide +kernel
theorem dX6_isIndex_0 : decode cX6_isIndex 0 = .ok (.iload_n 0, 1) := by decide +kernel
theorem dX6_isIndex_1 : decode cX6_isIndex 1 = .ok (.ifCond .lt 12, 3) := by decide +kernel
theorem dX6_isIndex_4 : decode cX6_isIndex 4 = .ok (.iload_n 0, 1) := by decide +kernel
theorem dX6_isIndex_5 : decode cX6_isIndex 5 = .ok (.iload_n 1, 1) := by decide +kernel
theorem dX6_isIndex_6 : decode cX6_isIndex 6 = .ok (.if_icmp .ge 7, 3) := by decide +kernel
theorem dX6_isIndex_9 : decode cX6_isIndex 9 = .ok (.iconst 1, 1) := by decide +kernel
theorem dX6_isIndex_10 : decode cX6_isIndex 10 = .ok (.goto 4, 3) := by decide +kernel
theorem dX6_isIndex_13 : decode cX6_isIndex 13 = .ok (.iconst 0, 1) := by decide +kernel
theorem dX6_isIndex_14 : decode cX6_isIndex 14 = .ok (.ireturn, 1) := by decide +kernel
theorem dX6_mixed_0 : decode cX6_mixed 0 = .ok (.lload_n 0, 1) := by decide +kernel
theorem dX6_mixed_1 : decode cX6_mixed 1 = .ok (.ldc2_w 250, 3) := by decide +kernel
theorem dX6_mixed_4 : decode cX6_mixed 4 = .ok (.lmul, 1) := by decide +kernel
theorem dX6_mixed_5 : decode cX6_mixed 5 = .ok (.iload_n 2, 1) := by decide +kernel
theorem dX6_mixed_6 : decode cX6_mixed 6 = .ok (.i2l, 1) := by decide +kernel
theorem dX6_mixed_7 : decode cX6_mixed 7 = .ok (.ladd, 1) := by decide +kernel
theorem dX6_mixed_8 : decode cX6_mixed 8 = .ok (.lreturn, 1) := by decide +kernel
theorem dX6_ringsHeard_0 : decode cX6_ringsHeard 0 = .ok (.iload_n 1, 1) := by decide +kernel
theorem dX6_ringsHeard_1 : decode cX6_ringsHeard 1 = .ok (.invokestatic 33, 3) := by decide +kernel
theorem dX6_ringsHeard_4 : decode cX6_ringsHeard 4 = .ok (.istore_n 3, 1) := by decide +kernel
theorem dX6_ringsHeard_5 : decode cX6_ringsHeard 5 = .ok (.iconst 0, 1) := by decide +kernel
theorem dX6_ringsHeard_6 : decode cX6_ringsHeard 6 = .ok (.istore 4, 2) := by decide +kernel
theorem dX6_ringsHeard_8 : decode cX6_ringsHeard 8 = .ok (.iconst 0, 1) := by decide +kernel
theorem dX6_ringsHeard_9 : decode cX6_ringsHeard 9 = .ok (.istore 5, 2) := by decide +kernel
theorem dX6_ringsHeard_11 : decode cX6_ringsHeard 11 = .ok (.iload 5, 2) := by decide +kernel
theorem dX6_ringsHeard_13 : decode cX6_ringsHeard 13 = .ok (.iload_n 3, 1) := by decide +kernel
theorem dX6_ringsHeard_14 : decode cX6_ringsHeard 14 = .ok (.if_icmp .ge 58, 3) := by decide +kernel
theorem dX6_ringsHeard_17 : decode cX6_ringsHeard 17 = .ok (.iload_n 1, 1) := by decide +kernel
theorem dX6_ringsHeard_18 : decode cX6_ringsHeard 18 = .ok (.iload_n 3, 1) := by decide +kernel
theorem dX6_ringsHeard_19 : decode cX6_ringsHeard 19 = .ok (.iconst 1, 1) := by decide +kernel
theorem dX6_ringsHeard_20 : decode cX6_ringsHeard 20 = .ok (.isub, 1) := by decide +kernel
theorem dX6_ringsHeard_21 : decode cX6_ringsHeard 21 = .ok (.iload 5, 2) := by decide +kernel
theorem dX6_ringsHeard_23 : decode cX6_ringsHeard 23 = .ok (.isub, 1) := by decide +kernel
theorem dX6_ringsHeard_24 : decode cX6_ringsHeard 24 = .ok (.invokestatic 252, 3) := by decide +kernel
theorem dX6_ringsHeard_27 : decode cX6_ringsHeard 27 = .ok (.istore 6, 2) := by decide +kernel
theorem dX6_ringsHeard_29 : decode cX6_ringsHeard 29 = .ok (.iload 6, 2) := by decide +kernel
theorem dX6_ringsHeard_31 : decode cX6_ringsHeard 31 = .ok (.iconst 1, 1) := by decide +kernel
theorem dX6_ringsHeard_32 : decode cX6_ringsHeard 32 = .ok (.if_icmp .ne 7, 3) := by decide +kernel
theorem dX6_ringsHeard_35 : decode cX6_ringsHeard 35 = .ok (.iconst 4, 1) := by decide +kernel
theorem dX6_ringsHeard_36 : decode cX6_ringsHeard 36 = .ok (.goto 5, 3) := by decide +kernel
theorem dX6_ringsHeard_39 : decode cX6_ringsHeard 39 = .ok (.bipush 7, 2) := by decide +kernel
theorem dX6_ringsHeard_41 : decode cX6_ringsHeard 41 = .ok (.istore 7, 2) := by decide +kernel
theorem dX6_ringsHeard_43 : decode cX6_ringsHeard 43 = .ok (.aload_n 0, 1) := by decide +kernel
theorem dX6_ringsHeard_44 : decode cX6_ringsHeard 44 = .ok (.iload_n 2, 1) := by decide +kernel
theorem dX6_ringsHeard_45 : decode cX6_ringsHeard 45 = .ok (.iload 5, 2) := by decide +kernel
theorem dX6_ringsHeard_47 : decode cX6_ringsHeard 47 = .ok (.iadd, 1) := by decide +kernel
theorem dX6_ringsHeard_48 : decode cX6_ringsHeard 48 = .ok (.invokevirtual 255, 3) := by decide +kernel
theorem dX6_ringsHeard_51 : decode cX6_ringsHeard 51 = .ok (.iload 7, 2) := by decide +kernel
theorem dX6_ringsHeard_53 : decode cX6_ringsHeard 53 = .ok (.if_icmp .ge 13, 3) := by decide +kernel
theorem dX6_ringsHeard_56 : decode cX6_ringsHeard 56 = .ok (.iload 4, 2) := by decide +kernel
theorem dX6_ringsHeard_58 : decode cX6_ringsHeard 58 = .ok (.bipush 10, 2) := by decide +kernel
theorem dX6_ringsHeard_60 : decode cX6_ringsHeard 60 = .ok (.imul, 1) := by decide +kernel
theorem dX6_ringsHeard_61 : decode cX6_ringsHeard 61 = .ok (.iload 6, 2) := by decide +kernel
theorem dX6_ringsHeard_63 : decode cX6_ringsHeard 63 = .ok (.iadd, 1) := by decide +kernel
theorem dX6_ringsHeard_64 : decode cX6_ringsHeard 64 = .ok (.istore 4, 2) := by decide +kernel
theorem dX6_ringsHeard_66 : decode cX6_ringsHeard 66 = .ok (.iinc 5 1, 3) := by decide +kernel
theorem dX6_ringsHeard_69 : decode cX6_ringsHeard 69 = .ok (.goto (-58), 3) := by decide +kernel
theorem dX6_ringsHeard_72 : decode cX6_ringsHeard 72 = .ok (.iload 4, 2) := by decide +kernel
theorem dX6_ringsHeard_74 : decode cX6_ringsHeard 74 = .ok (.ireturn, 1) := by decide +kernel
theorem dX6_fogIn_0 : decode cX6_fogIn 0 = .ok (.iload_n 1, 1) := by decide +kernel
theorem dX6_fogIn_1 : decode cX6_fogIn 1 = .ok (.bipush 20, 2) := by decide +kernel
theorem dX6_fogIn_3 : decode cX6_fogIn 3 = .ok (.irem, 1) := by decide +kernel
theorem dX6_fogIn_4 : decode cX6_fogIn 4 = .ok (.istore_n 2, 1) := by decide +kernel
theorem dX6_fogIn_5 : decode cX6_fogIn 5 = .ok (.iload_n 2, 1) := by decide +kernel
theorem dX6_fogIn_6 : decode cX6_fogIn 6 = .ok (.aload_n 0, 1) := by decide +kernel
theorem dX6_fogIn_7 : decode cX6_fogIn 7 = .ok (.getfield 16, 3) := by decide +kernel
theorem dX6_fogIn_10 : decode cX6_fogIn 10 = .ok (.arraylength, 1) := by decide +kernel
theorem dX6_fogIn_11 : decode cX6_fogIn 11 = .ok (.invokestatic 68, 3) := by decide +kernel
theorem dX6_fogIn_14 : decode cX6_fogIn 14 = .ok (.ifCond .eq 12, 3) := by decide +kernel
theorem dX6_fogIn_17 : decode cX6_fogIn 17 = .ok (.aload_n 0, 1) := by decide +kernel
theorem dX6_fogIn_18 : decode cX6_fogIn 18 = .ok (.getfield 16, 3) := by decide +kernel
theorem dX6_fogIn_21 : decode cX6_fogIn 21 = .ok (.iload_n 2, 1) := by decide +kernel
theorem dX6_fogIn_22 : decode cX6_fogIn 22 = .ok (.iaload, 1) := by decide +kernel
theorem dX6_fogIn_23 : decode cX6_fogIn 23 = .ok (.goto 4, 3) := by decide +kernel
theorem dX6_fogIn_26 : decode cX6_fogIn 26 = .ok (.iconst 0, 1) := by decide +kernel
theorem dX6_fogIn_27 : decode cX6_fogIn 27 = .ok (.ireturn, 1) := by decide +kernel
theorem dX6_countOf_0 : decode cX6_countOf 0 = .ok (.iload_n 1, 1) := by decide +kernel
theorem dX6_countOf_1 : decode cX6_countOf 1 = .ok (.tableswitch 139 0 9 #[55, 63, 71, 79, 88, 97, 106, 115, 123, 131], 55) := by decide +kernel
theorem dX6_countOf_56 : decode cX6_countOf 56 = .ok (.aload_n 0, 1) := by decide +kernel
theorem dX6_countOf_57 : decode cX6_countOf 57 = .ok (.getfield 23, 3) := by decide +kernel
theorem dX6_countOf_60 : decode cX6_countOf 60 = .ok (.getfield 90, 3) := by decide +kernel
theorem dX6_countOf_63 : decode cX6_countOf 63 = .ok (.ireturn, 1) := by decide +kernel
theorem dX6_countOf_64 : decode cX6_countOf 64 = .ok (.aload_n 0, 1) := by decide +kernel
theorem dX6_countOf_65 : decode cX6_countOf 65 = .ok (.getfield 10, 3) := by decide +kernel
theorem dX6_countOf_68 : decode cX6_countOf 68 = .ok (.getfield 81, 3) := by decide +kernel
theorem dX6_countOf_71 : decode cX6_countOf 71 = .ok (.ireturn, 1) := by decide +kernel
theorem dX6_countOf_72 : decode cX6_countOf 72 = .ok (.aload_n 0, 1) := by decide +kernel
theorem dX6_countOf_73 : decode cX6_countOf 73 = .ok (.getfield 23, 3) := by decide +kernel
theorem dX6_countOf_76 : decode cX6_countOf 76 = .ok (.getfield 258, 3) := by decide +kernel
theorem dX6_countOf_79 : decode cX6_countOf 79 = .ok (.ireturn, 1) := by decide +kernel
theorem dX6_countOf_80 : decode cX6_countOf 80 = .ok (.aload_n 0, 1) := by decide +kernel
theorem dX6_countOf_81 : decode cX6_countOf 81 = .ok (.getfield 23, 3) := by decide +kernel
theorem dX6_countOf_84 : decode cX6_countOf 84 = .ok (.iconst 0, 1) := by decide +kernel
theorem dX6_countOf_85 : decode cX6_countOf 85 = .ok (.invokevirtual 261, 3) := by decide +kernel
theorem dX6_countOf_88 : decode cX6_countOf 88 = .ok (.ireturn, 1) := by decide +kernel
theorem dX6_countOf_89 : decode cX6_countOf 89 = .ok (.aload_n 0, 1) := by decide +kernel
theorem dX6_countOf_90 : decode cX6_countOf 90 = .ok (.getfield 23, 3) := by decide +kernel
theorem dX6_countOf_93 : decode cX6_countOf 93 = .ok (.iconst 1, 1) := by decide +kernel
theorem dX6_countOf_94 : decode cX6_countOf 94 = .ok (.invokevirtual 261, 3) := by decide +kernel
theorem dX6_countOf_97 : decode cX6_countOf 97 = .ok (.ireturn, 1) := by decide +kernel
theorem dX6_countOf_98 : decode cX6_countOf 98 = .ok (.aload_n 0, 1) := by decide +kernel
theorem dX6_countOf_99 : decode cX6_countOf 99 = .ok (.getfield 23, 3) := by decide +kernel
theorem dX6_countOf_102 : decode cX6_countOf 102 = .ok (.iconst 2, 1) := by decide +kernel
theorem dX6_countOf_103 : decode cX6_countOf 103 = .ok (.invokevirtual 261, 3) := by decide +kernel
theorem dX6_countOf_106 : decode cX6_countOf 106 = .ok (.ireturn, 1) := by decide +kernel
theorem dX6_countOf_107 : decode cX6_countOf 107 = .ok (.aload_n 0, 1) := by decide +kernel
theorem dX6_countOf_108 : decode cX6_countOf 108 = .ok (.getfield 23, 3) := by decide +kernel
theorem dX6_countOf_111 : decode cX6_countOf 111 = .ok (.iconst 3, 1) := by decide +kernel
theorem dX6_countOf_112 : decode cX6_countOf 112 = .ok (.invokevirtual 261, 3) := by decide +kernel
theorem dX6_countOf_115 : decode cX6_countOf 115 = .ok (.ireturn, 1) := by decide +kernel
theorem dX6_countOf_116 : decode cX6_countOf 116 = .ok (.aload_n 0, 1) := by decide +kernel
theorem dX6_countOf_117 : decode cX6_countOf 117 = .ok (.getfield 23, 3) := by decide +kernel
theorem dX6_countOf_120 : decode cX6_countOf 120 = .ok (.getfield 136, 3) := by decide +kernel
theorem dX6_countOf_123 : decode cX6_countOf 123 = .ok (.ireturn, 1) := by decide +kernel
theorem dX6_countOf_124 : decode cX6_countOf 124 = .ok (.aload_n 0, 1) := by decide +kernel
theorem dX6_countOf_125 : decode cX6_countOf 125 = .ok (.getfield 23, 3) := by decide +kernel
theorem dX6_countOf_128 : decode cX6_countOf 128 = .ok (.invokevirtual 264, 3) := by decide +kernel
theorem dX6_countOf_131 : decode cX6_countOf 131 = .ok (.ireturn, 1) := by decide +kernel
theorem dX6_countOf_132 : decode cX6_countOf 132 = .ok (.aload_n 0, 1) := by decide +kernel
theorem dX6_countOf_133 : decode cX6_countOf 133 = .ok (.getfield 23, 3) := by decide +kernel
theorem dX6_countOf_136 : decode cX6_countOf 136 = .ok (.getfield 122, 3) := by decide +kernel
theorem dX6_countOf_139 : decode cX6_countOf 139 = .ok (.ireturn, 1) := by decide +kernel
theorem dX6_countOf_140 : decode cX6_countOf 140 = .ok (.aload_n 0, 1) := by decide +kernel
theorem dX6_countOf_141 : decode cX6_countOf 141 = .ok (.getfield 23, 3) := by decide +kernel
theorem dX6_countOf_144 : decode cX6_countOf 144 = .ok (.getfield 119, 3) := by decide +kernel
theorem dX6_countOf_147 : decode cX6_countOf 147 = .ok (.ireturn, 1) := by decide +kernel
theorem dJ9_max_7cf53_0 : decode cJ9_max_7cf53 0 = .ok (.iload_n 0, 1) := by decide +kernel
theorem dJ9_max_7cf53_1 : decode cJ9_max_7cf53 1 = .ok (.iload_n 1, 1) := by decide +kernel
theorem dJ9_max_7cf53_2 : decode cJ9_max_7cf53 2 = .ok (.if_icmp .lt 7, 3) := by decide +kernel
theorem dJ9_max_7cf53_5 : decode cJ9_max_7cf53 5 = .ok (.iload_n 0, 1) := by decide +kernel
theorem dJ9_max_7cf53_6 : decode cJ9_max_7cf53 6 = .ok (.goto 4, 3) := by decide +kernel
theorem dJ9_max_7cf53_9 : decode cJ9_max_7cf53 9 = .ok (.iload_n 1, 1) := by decide +kernel
theorem dJ9_max_7cf53_10 : decode cJ9_max_7cf53 10 = .ok (.ireturn, 1) := by decide +kernel
theorem dJ9_min_7cf53_0 : decode cJ9_min_7cf53 0 = .ok (.iload_n 0, 1) := by decide +kernel
theorem dJ9_min_7cf53_1 : decode cJ9_min_7cf53 1 = .ok (.iload_n 1, 1) := by decide +kernel
theorem dJ9_min_7cf53_2 : decode cJ9_min_7cf53 2 = .ok (.if_icmp .gt 7, 3) := by decide +kernel
theorem dJ9_min_7cf53_5 : decode cJ9_min_7cf53 5 = .ok (.iload_n 0, 1) := by decide +kernel
theorem dJ9_min_7cf53_6 : decode cJ9_min_7cf53 6 = .ok (.goto 4, 3) := by decide +kernel
theorem dJ9_min_7cf53_9 : decode cJ9_min_7cf53 9 = .ok (.iload_n 1, 1) := by decide +kernel
theorem dJ9_min_7cf53_10 : decode cJ9_min_7cf53 10 = .ok (.ireturn, 1) := by decide +kernel
end
section
theorem dX7_init_0 : decode cX7_init 0 = .ok (.aload_n 0, 1) := by decide +kernel
theorem dX7_init_1 : decode cX7_init 1 = .ok (.aload_n 1, 1) := by decide +kernel
theorem dX7_init_2 : decode cX7_init 2 = .ok (.putfield 3, 3) := by decide +kernel
theorem dX7_init_5 : decode cX7_init 5 = .ok (.aload_n 0, 1) := by decide +kernel
theorem dX7_init_6 : decode cX7_init 6 = .ok (.invokespecial 9, 3) := by decide +kernel
theorem dX7_init_9 : decode cX7_init 9 = .ok (.aload_n 0, 1) := by decide +kernel
theorem dX7_init_10 : decode cX7_init 10 = .ok (.sipush 160, 3) := by decide +kernel
theorem dX7_init_13 : decode cX7_init 13 = .ok (.newarray .int, 2) := by decide +kernel
theorem dX7_init_15 : decode cX7_init 15 = .ok (.putfield 15, 3) := by decide +kernel
theorem dX7_init_18 : decode cX7_init 18 = .ok (.aload_n 0, 1) := by decide +kernel
theorem dX7_init_19 : decode cX7_init 19 = .ok (.bipush 30, 2) := by decide +kernel
theorem dX7_init_21 : decode cX7_init 21 = .ok (.newarray .int, 2) := by decide +kernel
theorem dX7_init_23 : decode cX7_init 23 = .ok (.putfield 19, 3) := by decide +kernel
theorem dX7_init_26 : decode cX7_init 26 = .ok (.aload_n 0, 1) := by decide +kernel
theorem dX7_init_27 : decode cX7_init 27 = .ok (.bipush 32, 2) := by decide +kernel
theorem dX7_init_29 : decode cX7_init 29 = .ok (.newarray .int, 2) := by decide +kernel
theorem dX7_init_31 : decode cX7_init 31 = .ok (.putfield 22, 3) := by decide +kernel
theorem dX7_init_34 : decode cX7_init 34 = .ok (.aload_n 0, 1) := by decide +kernel
theorem dX7_init_35 : decode cX7_init 35 = .ok (.bipush 10, 2) := by decide +kernel
theorem dX7_init_37 : decode cX7_init 37 = .ok (.newarray .int, 2) := by decide +kernel
theorem dX7_init_39 : decode cX7_init 39 = .ok (.putfield 25, 3) := by decide +kernel
theorem dX7_init_42 : decode cX7_init 42 = .ok (.iconst 0, 1) := by decide +kernel
theorem dX7_init_43 : decode cX7_init 43 = .ok (.istore_n 2, 1) := by decide +kernel
theorem dX7_init_44 : decode cX7_init 44 = .ok (.iload_n 2, 1) := by decide +kernel
theorem dX7_init_45 : decode cX7_init 45 = .ok (.bipush 30, 2) := by decide +kernel
theorem dX7_init_47 : decode cX7_init 47 = .ok (.if_icmp .ge 16, 3) := by decide +kernel
theorem dX7_init_50 : decode cX7_init 50 = .ok (.aload_n 0, 1) := by decide +kernel
theorem dX7_init_51 : decode cX7_init 51 = .ok (.getfield 19, 3) := by decide +kernel
theorem dX7_init_54 : decode cX7_init 54 = .ok (.iload_n 2, 1) := by decide +kernel
theorem dX7_init_55 : decode cX7_init 55 = .ok (.iconst (-1), 1) := by decide +kernel
theorem dX7_init_56 : decode cX7_init 56 = .ok (.iastore, 1) := by decide +kernel
theorem dX7_init_57 : decode cX7_init 57 = .ok (.iinc 2 1, 3) := by decide +kernel
theorem dX7_init_60 : decode cX7_init 60 = .ok (.goto (-16), 3) := by decide +kernel
theorem dX7_init_63 : decode cX7_init 63 = .ok (.return_, 1) := by decide +kernel
theorem dX7_copy_0 : decode cX7_copy 0 = .ok (.aload_n 1, 1) := by decide +kernel
theorem dX7_copy_1 : decode cX7_copy 1 = .ok (.iconst 0, 1) := by decide +kernel
theorem dX7_copy_2 : decode cX7_copy 2 = .ok (.aload_n 2, 1) := by decide +kernel
theorem dX7_copy_3 : decode cX7_copy 3 = .ok (.iconst 0, 1) := by decide +kernel
theorem dX7_copy_4 : decode cX7_copy 4 = .ok (.aload_n 1, 1) := by decide +kernel
theorem dX7_copy_5 : decode cX7_copy 5 = .ok (.arraylength, 1) := by decide +kernel
theorem dX7_copy_6 : decode cX7_copy 6 = .ok (.invokestatic 28, 3) := by decide +kernel
theorem dX7_copy_9 : decode cX7_copy 9 = .ok (.return_, 1) := by decide +kernel
theorem dX7_become_0 : decode cX7_become 0 = .ok (.aload_n 0, 1) := by decide +kernel
theorem dX7_become_1 : decode cX7_become 1 = .ok (.aload_n 1, 1) := by decide +kernel
theorem dX7_become_2 : decode cX7_become 2 = .ok (.getfield 34, 3) := by decide +kernel
theorem dX7_become_5 : decode cX7_become 5 = .ok (.putfield 34, 3) := by decide +kernel
theorem dX7_become_8 : decode cX7_become 8 = .ok (.aload_n 0, 1) := by decide +kernel
theorem dX7_become_9 : decode cX7_become 9 = .ok (.aload_n 1, 1) := by decide +kernel
theorem dX7_become_10 : decode cX7_become 10 = .ok (.getfield 38, 3) := by decide +kernel
theorem dX7_become_13 : decode cX7_become 13 = .ok (.putfield 38, 3) := by decide +kernel
theorem dX7_become_16 : decode cX7_become 16 = .ok (.aload_n 0, 1) := by decide +kernel
theorem dX7_become_17 : decode cX7_become 17 = .ok (.aload_n 1, 1) := by decide +kernel
theorem dX7_become_18 : decode cX7_become 18 = .ok (.getfield 41, 3) := by decide +kernel
theorem dX7_become_21 : decode cX7_become 21 = .ok (.putfield 41, 3) := by decide +kernel
theorem dX7_become_24 : decode cX7_become 24 = .ok (.aload_n 0, 1) := by decide +kernel
theorem dX7_become_25 : decode cX7_become 25 = .ok (.aload_n 1, 1) := by decide +kernel
theorem dX7_become_26 : decode cX7_become 26 = .ok (.getfield 15, 3) := by decide +kernel
theorem dX7_become_29 : decode cX7_become 29 = .ok (.aload_n 0, 1) := by decide +kernel
theorem dX7_become_30 : decode cX7_become 30 = .ok (.getfield 15, 3) := by decide +kernel
theorem dX7_become_33 : decode cX7_become 33 = .ok (.invokevirtual 44, 3) := by decide +kernel
theorem dX7_become_36 : decode cX7_become 36 = .ok (.aload_n 0, 1) := by decide +kernel
theorem dX7_become_37 : decode cX7_become 37 = .ok (.aload_n 1, 1) := by decide +kernel
theorem dX7_become_38 : decode cX7_become 38 = .ok (.getfield 19, 3) := by decide +kernel
theorem dX7_become_41 : decode cX7_become 41 = .ok (.aload_n 0, 1) := by decide +kernel
theorem dX7_become_42 : decode cX7_become 42 = .ok (.getfield 19, 3) := by decide +kernel
theorem dX7_become_45 : decode cX7_become 45 = .ok (.invokevirtual 44, 3) := by decide +kernel
theorem dX7_become_48 : decode cX7_become 48 = .ok (.aload_n 0, 1) := by decide +kernel
theorem dX7_become_49 : decode cX7_become 49 = .ok (.aload_n 1, 1) := by decide +kernel
theorem dX7_become_50 : decode cX7_become 50 = .ok (.getfield 22, 3) := by decide +kernel
theorem dX7_become_53 : decode cX7_become 53 = .ok (.aload_n 0, 1) := by decide +kernel
theorem dX7_become_54 : decode cX7_become 54 = .ok (.getfield 22, 3) := by decide +kernel
theorem dX7_become_57 : decode cX7_become 57 = .ok (.invokevirtual 44, 3) := by decide +kernel
theorem dX7_become_60 : decode cX7_become 60 = .ok (.aload_n 0, 1) := by decide +kernel
theorem dX7_become_61 : decode cX7_become 61 = .ok (.aload_n 1, 1) := by decide +kernel
theorem dX7_become_62 : decode cX7_become 62 = .ok (.getfield 25, 3) := by decide +kernel
theorem dX7_become_65 : decode cX7_become 65 = .ok (.aload_n 0, 1) := by decide +kernel
theorem dX7_become_66 : decode cX7_become 66 = .ok (.getfield 25, 3) := by decide +kernel
theorem dX7_become_69 : decode cX7_become 69 = .ok (.invokevirtual 44, 3) := by decide +kernel
theorem dX7_become_72 : decode cX7_become 72 = .ok (.return_, 1) := by decide +kernel
theorem dX7_own_0 : decode cX7_own 0 = .ok (.aload_n 0, 1) := by decide +kernel
theorem dX7_own_1 : decode cX7_own 1 = .ok (.getfield 15, 3) := by decide +kernel
theorem dX7_own_4 : decode cX7_own 4 = .ok (.bipush 10, 2) := by decide +kernel
theorem dX7_own_6 : decode cX7_own 6 = .ok (.iload_n 1, 1) := by decide +kernel
theorem dX7_own_7 : decode cX7_own 7 = .ok (.imul, 1) := by decide +kernel
theorem dX7_own_8 : decode cX7_own 8 = .ok (.iload_n 2, 1) := by decide +kernel
theorem dX7_own_9 : decode cX7_own 9 = .ok (.iadd, 1) := by decide +kernel
theorem dX7_own_10 : decode cX7_own 10 = .ok (.iaload, 1) := by decide +kernel
theorem dX7_own_11 : decode cX7_own 11 = .ok (.ireturn, 1) := by decide +kernel
theorem dX7_set_0 : decode cX7_set 0 = .ok (.aload_n 0, 1) := by decide +kernel
theorem dX7_set_1 : decode cX7_set 1 = .ok (.getfield 15, 3) := by decide +kernel
theorem dX7_set_4 : decode cX7_set 4 = .ok (.bipush 10, 2) := by decide +kernel
theorem dX7_set_6 : decode cX7_set 6 = .ok (.iload_n 1, 1) := by decide +kernel
theorem dX7_set_7 : decode cX7_set 7 = .ok (.imul, 1) := by decide +kernel
theorem dX7_set_8 : decode cX7_set 8 = .ok (.iload_n 2, 1) := by decide +kernel
theorem dX7_set_9 : decode cX7_set 9 = .ok (.iadd, 1) := by decide +kernel
theorem dX7_set_10 : decode cX7_set 10 = .ok (.iload_n 3, 1) := by decide +kernel
theorem dX7_set_11 : decode cX7_set 11 = .ok (.iastore, 1) := by decide +kernel
theorem dX7_set_12 : decode cX7_set 12 = .ok (.return_, 1) := by decide +kernel
theorem dX7_line_0 : decode cX7_line 0 = .ok (.bipush 16, 2) := by decide +kernel
theorem dX7_line_2 : decode cX7_line 2 = .ok (.iload_n 2, 1) := by decide +kernel
theorem dX7_line_3 : decode cX7_line 3 = .ok (.imul, 1) := by decide +kernel
theorem dX7_line_4 : decode cX7_line 4 = .ok (.iload_n 3, 1) := by decide +kernel
theorem dX7_line_5 : decode cX7_line 5 = .ok (.iadd, 1) := by decide +kernel
theorem dX7_line_6 : decode cX7_line 6 = .ok (.istore 4, 2) := by decide +kernel
theorem dX7_line_8 : decode cX7_line 8 = .ok (.aload_n 0, 1) := by decide +kernel
theorem dX7_line_9 : decode cX7_line 9 = .ok (.getfield 22, 3) := by decide +kernel
theorem dX7_line_12 : decode cX7_line 12 = .ok (.iload 4, 2) := by decide +kernel
theorem dX7_line_14 : decode cX7_line 14 = .ok (.aload_n 0, 1) := by decide +kernel
theorem dX7_line_15 : decode cX7_line 15 = .ok (.getfield 22, 3) := by decide +kernel
theorem dX7_line_18 : decode cX7_line 18 = .ok (.iload 4, 2) := by decide +kernel
theorem dX7_line_20 : decode cX7_line 20 = .ok (.iconst 1, 1) := by decide +kernel
theorem dX7_line_21 : decode cX7_line 21 = .ok (.iadd, 1) := by decide +kernel
theorem dX7_line_22 : decode cX7_line 22 = .ok (.aload_n 0, 1) := by decide +kernel
theorem dX7_line_23 : decode cX7_line 23 = .ok (.getfield 25, 3) := by decide +kernel
theorem dX7_line_26 : decode cX7_line 26 = .ok (.iconst 5, 1) := by decide +kernel
theorem dX7_line_27 : decode cX7_line 27 = .ok (.iload_n 2, 1) := by decide +kernel
theorem dX7_line_28 : decode cX7_line 28 = .ok (.imul, 1) := by decide +kernel
theorem dX7_line_29 : decode cX7_line 29 = .ok (.iconst 3, 1) := by decide +kernel
theorem dX7_line_30 : decode cX7_line 30 = .ok (.iadd, 1) := by decide +kernel
theorem dX7_line_31 : decode cX7_line 31 = .ok (.iaload, 1) := by decide +kernel
theorem dX7_line_32 : decode cX7_line 32 = .ok (.iload_n 3, 1) := by decide +kernel
theorem dX7_line_33 : decode cX7_line 33 = .ok (.isub, 1) := by decide +kernel
theorem dX7_line_34 : decode cX7_line 34 = .ok (.invokestatic 28, 3) := by decide +kernel
theorem dX7_line_37 : decode cX7_line 37 = .ok (.aload_n 0, 1) := by decide +kernel
theorem dX7_line_38 : decode cX7_line 38 = .ok (.getfield 22, 3) := by decide +kernel
theorem dX7_line_41 : decode cX7_line 41 = .ok (.iload 4, 2) := by decide +kernel
theorem dX7_line_43 : decode cX7_line 43 = .ok (.iload_n 1, 1) := by decide +kernel
theorem dX7_line_44 : decode cX7_line 44 = .ok (.iastore, 1) := by decide +kernel
theorem dX7_line_45 : decode cX7_line 45 = .ok (.aload_n 0, 1) := by decide +kernel
theorem dX7_line_46 : decode cX7_line 46 = .ok (.getfield 25, 3) := by decide +kernel
theorem dX7_line_49 : decode cX7_line 49 = .ok (.iconst 5, 1) := by decide +kernel
theorem dX7_line_50 : decode cX7_line 50 = .ok (.iload_n 2, 1) := by decide +kernel
theorem dX7_line_51 : decode cX7_line 51 = .ok (.imul, 1) := by decide +kernel
theorem dX7_line_52 : decode cX7_line 52 = .ok (.iconst 3, 1) := by decide +kernel
theorem dX7_line_53 : decode cX7_line 53 = .ok (.iadd, 1) := by decide +kernel
theorem dX7_line_54 : decode cX7_line 54 = .ok (.dup2, 1) := by decide +kernel
theorem dX7_line_55 : decode cX7_line 55 = .ok (.iaload, 1) := by decide +kernel
theorem dX7_line_56 : decode cX7_line 56 = .ok (.iconst 1, 1) := by decide +kernel
theorem dX7_line_57 : decode cX7_line 57 = .ok (.iadd, 1) := by decide +kernel
theorem dX7_line_58 : decode cX7_line 58 = .ok (.iastore, 1) := by decide +kernel
theorem dX7_line_59 : decode cX7_line 59 = .ok (.aload_n 0, 1) := by decide +kernel
theorem dX7_line_60 : decode cX7_line 60 = .ok (.iload_n 1, 1) := by decide +kernel
theorem dX7_line_61 : decode cX7_line 61 = .ok (.iconst 5, 1) := by decide +kernel
theorem dX7_line_62 : decode cX7_line 62 = .ok (.iconst 0, 1) := by decide +kernel
theorem dX7_line_63 : decode cX7_line 63 = .ok (.invokevirtual 48, 3) := by decide +kernel
theorem dX7_line_66 : decode cX7_line 66 = .ok (.aload_n 0, 1) := by decide +kernel
theorem dX7_line_67 : decode cX7_line 67 = .ok (.iload_n 1, 1) := by decide +kernel
theorem dX7_line_68 : decode cX7_line 68 = .ok (.bipush 6, 2) := by decide +kernel
theorem dX7_line_70 : decode cX7_line 70 = .ok (.iconst (-1), 1) := by decide +kernel
theorem dX7_line_71 : decode cX7_line 71 = .ok (.invokevirtual 48, 3) := by decide +kernel
theorem dX7_line_74 : decode cX7_line 74 = .ok (.return_, 1) := by decide +kernel
theorem dX7_first_0 : decode cX7_first 0 = .ok (.aload_n 0, 1) := by decide +kernel
theorem dX7_first_1 : decode cX7_first 1 = .ok (.getfield 22, 3) := by decide +kernel
theorem dX7_first_4 : decode cX7_first 4 = .ok (.bipush 16, 2) := by decide +kernel
theorem dX7_first_6 : decode cX7_first 6 = .ok (.iload_n 1, 1) := by decide +kernel
theorem dX7_first_7 : decode cX7_first 7 = .ok (.imul, 1) := by decide +kernel
theorem dX7_first_8 : decode cX7_first 8 = .ok (.iaload, 1) := by decide +kernel
theorem dX7_first_9 : decode cX7_first 9 = .ok (.istore_n 2, 1) := by decide +kernel
theorem dX7_first_10 : decode cX7_first 10 = .ok (.aload_n 0, 1) := by decide +kernel
theorem dX7_first_11 : decode cX7_first 11 = .ok (.getfield 25, 3) := by decide +kernel
theorem dX7_first_14 : decode cX7_first 14 = .ok (.iconst 5, 1) := by decide +kernel
theorem dX7_first_15 : decode cX7_first 15 = .ok (.iload_n 1, 1) := by decide +kernel
theorem dX7_first_16 : decode cX7_first 16 = .ok (.imul, 1) := by decide +kernel
theorem dX7_first_17 : decode cX7_first 17 = .ok (.iconst 3, 1) := by decide +kernel
theorem dX7_first_18 : decode cX7_first 18 = .ok (.iadd, 1) := by decide +kernel
theorem dX7_first_19 : decode cX7_first 19 = .ok (.dup2, 1) := by decide +kernel
theorem dX7_first_20 : decode cX7_first 20 = .ok (.iaload, 1) := by decide +kernel
theorem dX7_first_21 : decode cX7_first 21 = .ok (.iconst 1, 1) := by decide +kernel
theorem dX7_first_22 : decode cX7_first 22 = .ok (.isub, 1) := by decide +kernel
theorem dX7_first_23 : decode cX7_first 23 = .ok (.iastore, 1) := by decide +kernel
theorem dX7_first_24 : decode cX7_first 24 = .ok (.aload_n 0, 1) := by decide +kernel
theorem dX7_first_25 : decode cX7_first 25 = .ok (.getfield 22, 3) := by decide +kernel
theorem dX7_first_28 : decode cX7_first 28 = .ok (.bipush 16, 2) := by decide +kernel
theorem dX7_first_30 : decode cX7_first 30 = .ok (.iload_n 1, 1) := by decide +kernel
theorem dX7_first_31 : decode cX7_first 31 = .ok (.imul, 1) := by decide +kernel
theorem dX7_first_32 : decode cX7_first 32 = .ok (.iconst 1, 1) := by decide +kernel
theorem dX7_first_33 : decode cX7_first 33 = .ok (.iadd, 1) := by decide +kernel
theorem dX7_first_34 : decode cX7_first 34 = .ok (.aload_n 0, 1) := by decide +kernel
theorem dX7_first_35 : decode cX7_first 35 = .ok (.getfield 22, 3) := by decide +kernel
theorem dX7_first_38 : decode cX7_first 38 = .ok (.bipush 16, 2) := by decide +kernel
theorem dX7_first_40 : decode cX7_first 40 = .ok (.iload_n 1, 1) := by decide +kernel
theorem dX7_first_41 : decode cX7_first 41 = .ok (.imul, 1) := by decide +kernel
theorem dX7_first_42 : decode cX7_first 42 = .ok (.aload_n 0, 1) := by decide +kernel
theorem dX7_first_43 : decode cX7_first 43 = .ok (.getfield 25, 3) := by decide +kernel
theorem dX7_first_46 : decode cX7_first 46 = .ok (.iconst 5, 1) := by decide +kernel
theorem dX7_first_47 : decode cX7_first 47 = .ok (.iload_n 1, 1) := by decide +kernel
theorem dX7_first_48 : decode cX7_first 48 = .ok (.imul, 1) := by decide +kernel
theorem dX7_first_49 : decode cX7_first 49 = .ok (.iconst 3, 1) := by decide +kernel
theorem dX7_first_50 : decode cX7_first 50 = .ok (.iadd, 1) := by decide +kernel
theorem dX7_first_51 : decode cX7_first 51 = .ok (.iaload, 1) := by decide +kernel
theorem dX7_first_52 : decode cX7_first 52 = .ok (.invokestatic 28, 3) := by decide +kernel
theorem dX7_first_55 : decode cX7_first 55 = .ok (.iload_n 2, 1) := by decide +kernel
theorem dX7_first_56 : decode cX7_first 56 = .ok (.ireturn, 1) := by decide +kernel
theorem dX7_leave_0 : decode cX7_leave 0 = .ok (.aload_n 0, 1) := by decide +kernel
theorem dX7_leave_1 : decode cX7_leave 1 = .ok (.iload_n 1, 1) := by decide +kernel
theorem dX7_leave_2 : decode cX7_leave 2 = .ok (.iconst 4, 1) := by decide +kernel
theorem dX7_leave_3 : decode cX7_leave 3 = .ok (.invokevirtual 52, 3) := by decide +kernel
theorem dX7_leave_6 : decode cX7_leave 6 = .ok (.aload_n 0, 1) := by decide +kernel
theorem dX7_leave_7 : decode cX7_leave 7 = .ok (.getfield 38, 3) := by decide +kernel
theorem dX7_leave_10 : decode cX7_leave 10 = .ok (.if_icmp .eq 16, 3) := by decide +kernel
theorem dX7_leave_13 : decode cX7_leave 13 = .ok (.aload_n 0, 1) := by decide +kernel
theorem dX7_leave_14 : decode cX7_leave 14 = .ok (.iload_n 1, 1) := by decide +kernel
theorem dX7_leave_15 : decode cX7_leave 15 = .ok (.aload_n 0, 1) := by decide +kernel
theorem dX7_leave_16 : decode cX7_leave 16 = .ok (.iload_n 1, 1) := by decide +kernel
theorem dX7_leave_17 : decode cX7_leave 17 = .ok (.iconst 4, 1) := by decide +kernel
theorem dX7_leave_18 : decode cX7_leave 18 = .ok (.invokevirtual 52, 3) := by decide +kernel
theorem dX7_leave_21 : decode cX7_leave 21 = .ok (.iconst 0, 1) := by decide +kernel
theorem dX7_leave_22 : decode cX7_leave 22 = .ok (.invokevirtual 56, 3) := by decide +kernel
theorem dX7_leave_25 : decode cX7_leave 25 = .ok (.return_, 1) := by decide +kernel
theorem dX7_leave_26 : decode cX7_leave 26 = .ok (.aload_n 0, 1) := by decide +kernel
theorem dX7_leave_27 : decode cX7_leave 27 = .ok (.iload_n 1, 1) := by decide +kernel
theorem dX7_leave_28 : decode cX7_leave 28 = .ok (.iconst 5, 1) := by decide +kernel
theorem dX7_leave_29 : decode cX7_leave 29 = .ok (.iconst 2, 1) := by decide +kernel
theorem dX7_leave_30 : decode cX7_leave 30 = .ok (.invokevirtual 48, 3) := by decide +kernel
theorem dX7_leave_33 : decode cX7_leave 33 = .ok (.aload_n 0, 1) := by decide +kernel
theorem dX7_leave_34 : decode cX7_leave 34 = .ok (.iload_n 1, 1) := by decide +kernel
theorem dX7_leave_35 : decode cX7_leave 35 = .ok (.bipush 6, 2) := by decide +kernel
theorem dX7_leave_37 : decode cX7_leave 37 = .ok (.iconst (-1), 1) := by decide +kernel
theorem dX7_leave_38 : decode cX7_leave 38 = .ok (.invokevirtual 48, 3) := by decide +kernel
theorem dX7_leave_41 : decode cX7_leave 41 = .ok (.aload_n 0, 1) := by decide +kernel
theorem dX7_leave_42 : decode cX7_leave 42 = .ok (.iload_n 1, 1) := by decide +kernel
theorem dX7_leave_43 : decode cX7_leave 43 = .ok (.bipush 8, 2) := by decide +kernel
theorem dX7_leave_45 : decode cX7_leave 45 = .ok (.aload_n 0, 1) := by decide +kernel
theorem dX7_leave_46 : decode cX7_leave 46 = .ok (.getfield 34, 3) := by decide +kernel
theorem dX7_leave_49 : decode cX7_leave 49 = .ok (.invokevirtual 48, 3) := by decide +kernel
theorem dX7_leave_52 : decode cX7_leave 52 = .ok (.return_, 1) := by decide +kernel
theorem dX7_move_0 : decode cX7_move 0 = .ok (.aload_n 0, 1) := by decide +kernel
theorem dX7_move_1 : decode cX7_move 1 = .ok (.getfield 38, 3) := by decide +kernel
theorem dX7_move_4 : decode cX7_move 4 = .ok (.ifCond .ne 7, 3) := by decide +kernel
theorem dX7_move_7 : decode cX7_move 7 = .ok (.iconst 1, 1) := by decide +kernel
theorem dX7_move_8 : decode cX7_move 8 = .ok (.goto 4, 3) := by decide +kernel
theorem dX7_move_11 : decode cX7_move 11 = .ok (.iconst (-1), 1) := by decide +kernel
theorem dX7_move_12 : decode cX7_move 12 = .ok (.istore_n 2, 1) := by decide +kernel
theorem dX7_move_13 : decode cX7_move 13 = .ok (.aload_n 0, 1) := by decide +kernel
theorem dX7_move_14 : decode cX7_move 14 = .ok (.iload_n 1, 1) := by decide +kernel
theorem dX7_move_15 : decode cX7_move 15 = .ok (.iconst 4, 1) := by decide +kernel
theorem dX7_move_16 : decode cX7_move 16 = .ok (.invokevirtual 52, 3) := by decide +kernel
theorem dX7_move_19 : decode cX7_move 19 = .ok (.aload_n 0, 1) := by decide +kernel
theorem dX7_move_20 : decode cX7_move 20 = .ok (.getfield 38, 3) := by decide +kernel
theorem dX7_move_23 : decode cX7_move 23 = .ok (.if_icmp .ne 12, 3) := by decide +kernel
theorem dX7_move_26 : decode cX7_move 26 = .ok (.aload_n 0, 1) := by decide +kernel
theorem dX7_move_27 : decode cX7_move 27 = .ok (.iload_n 1, 1) := by decide +kernel
theorem dX7_move_28 : decode cX7_move 28 = .ok (.iconst 2, 1) := by decide +kernel
theorem dX7_move_29 : decode cX7_move 29 = .ok (.invokevirtual 52, 3) := by decide +kernel
theorem dX7_move_32 : decode cX7_move 32 = .ok (.goto 4, 3) := by decide +kernel
theorem dX7_move_35 : decode cX7_move 35 = .ok (.iconst 1, 1) := by decide +kernel
theorem dX7_move_36 : decode cX7_move 36 = .ok (.istore_n 3, 1) := by decide +kernel
theorem dX7_move_37 : decode cX7_move 37 = .ok (.aload_n 0, 1) := by decide +kernel
theorem dX7_move_38 : decode cX7_move 38 = .ok (.iload_n 1, 1) := by decide +kernel
theorem dX7_move_39 : decode cX7_move 39 = .ok (.bipush 6, 2) := by decide +kernel
theorem dX7_move_41 : decode cX7_move 41 = .ok (.invokevirtual 52, 3) := by decide +kernel
theorem dX7_move_44 : decode cX7_move 44 = .ok (.istore 4, 2) := by decide +kernel
theorem dX7_move_46 : decode cX7_move 46 = .ok (.aload_n 0, 1) := by decide +kernel
theorem dX7_move_47 : decode cX7_move 47 = .ok (.getfield 19, 3) := by decide +kernel
theorem dX7_move_50 : decode cX7_move 50 = .ok (.iload 4, 2) := by decide +kernel
theorem dX7_move_52 : decode cX7_move 52 = .ok (.iconst (-1), 1) := by decide +kernel
theorem dX7_move_53 : decode cX7_move 53 = .ok (.iastore, 1) := by decide +kernel
theorem dX7_move_54 : decode cX7_move 54 = .ok (.iload_n 3, 1) := by decide +kernel
theorem dX7_move_55 : decode cX7_move 55 = .ok (.ifCond .le 56, 3) := by decide +kernel
theorem dX7_move_58 : decode cX7_move 58 = .ok (.iload 4, 2) := by decide +kernel
theorem dX7_move_60 : decode cX7_move 60 = .ok (.iload_n 2, 1) := by decide +kernel
theorem dX7_move_61 : decode cX7_move 61 = .ok (.iadd, 1) := by decide +kernel
theorem dX7_move_62 : decode cX7_move 62 = .ok (.istore 5, 2) := by decide +kernel
theorem dX7_move_64 : decode cX7_move 64 = .ok (.iload 5, 2) := by decide +kernel
theorem dX7_move_66 : decode cX7_move 66 = .ok (.ifCond .lt 15, 3) := by decide +kernel
theorem dX7_move_69 : decode cX7_move 69 = .ok (.iload 5, 2) := by decide +kernel
theorem dX7_move_71 : decode cX7_move 71 = .ok (.aload_n 0, 1) := by decide +kernel
theorem dX7_move_72 : decode cX7_move 72 = .ok (.getfield 3, 3) := by decide +kernel
theorem dX7_move_75 : decode cX7_move 75 = .ok (.getfield 59, 3) := by decide +kernel
theorem dX7_move_78 : decode cX7_move 78 = .ok (.if_icmp .ne 9, 3) := by decide +kernel
theorem dX7_move_81 : decode cX7_move 81 = .ok (.aload_n 0, 1) := by decide +kernel
theorem dX7_move_82 : decode cX7_move 82 = .ok (.iload_n 1, 1) := by decide +kernel
theorem dX7_move_83 : decode cX7_move 83 = .ok (.invokevirtual 62, 3) := by decide +kernel
theorem dX7_move_86 : decode cX7_move 86 = .ok (.return_, 1) := by decide +kernel
theorem dX7_move_87 : decode cX7_move 87 = .ok (.aload_n 0, 1) := by decide +kernel
theorem dX7_move_88 : decode cX7_move 88 = .ok (.getfield 19, 3) := by decide +kernel
theorem dX7_move_91 : decode cX7_move 91 = .ok (.iload 5, 2) := by decide +kernel
theorem dX7_move_93 : decode cX7_move 93 = .ok (.iaload, 1) := by decide +kernel
theorem dX7_move_94 : decode cX7_move 94 = .ok (.iconst (-1), 1) := by decide +kernel
theorem dX7_move_95 : decode cX7_move 95 = .ok (.if_icmp .eq 6, 3) := by decide +kernel
theorem dX7_move_98 : decode cX7_move 98 = .ok (.goto 13, 3) := by decide +kernel
theorem dX7_move_101 : decode cX7_move 101 = .ok (.iload 5, 2) := by decide +kernel
theorem dX7_move_103 : decode cX7_move 103 = .ok (.istore 4, 2) := by decide +kernel
theorem dX7_move_105 : decode cX7_move 105 = .ok (.iinc 3 (-1), 3) := by decide +kernel
theorem dX7_move_108 : decode cX7_move 108 = .ok (.goto (-54), 3) := by decide +kernel
theorem dX7_move_111 : decode cX7_move 111 = .ok (.aload_n 0, 1) := by decide +kernel
theorem dX7_move_112 : decode cX7_move 112 = .ok (.getfield 19, 3) := by decide +kernel
theorem dX7_move_115 : decode cX7_move 115 = .ok (.iload 4, 2) := by decide +kernel
theorem dX7_move_117 : decode cX7_move 117 = .ok (.iload_n 1, 1) := by decide +kernel
theorem dX7_move_118 : decode cX7_move 118 = .ok (.iastore, 1) := by decide +kernel
theorem dX7_move_119 : decode cX7_move 119 = .ok (.aload_n 0, 1) := by decide +kernel
theorem dX7_move_120 : decode cX7_move 120 = .ok (.iload_n 1, 1) := by decide +kernel
theorem dX7_move_121 : decode cX7_move 121 = .ok (.bipush 6, 2) := by decide +kernel
theorem dX7_move_123 : decode cX7_move 123 = .ok (.iload 4, 2) := by decide +kernel
theorem dX7_move_125 : decode cX7_move 125 = .ok (.invokevirtual 48, 3) := by decide +kernel
theorem dX7_move_128 : decode cX7_move 128 = .ok (.return_, 1) := by decide +kernel
theorem dX7_weight_0 : decode cX7_weight 0 = .ok (.iconst 0, 1) := by decide +kernel
theorem dX7_weight_1 : decode cX7_weight 1 = .ok (.istore_n 1, 1) := by decide +kernel
theorem dX7_weight_2 : decode cX7_weight 2 = .ok (.iconst 0, 1) := by decide +kernel
theorem dX7_weight_3 : decode cX7_weight 3 = .ok (.istore_n 2, 1) := by decide +kernel
theorem dX7_weight_4 : decode cX7_weight 4 = .ok (.iload_n 2, 1) := by decide +kernel
theorem dX7_weight_5 : decode cX7_weight 5 = .ok (.aload_n 0, 1) := by decide +kernel
theorem dX7_weight_6 : decode cX7_weight 6 = .ok (.getfield 3, 3) := by decide +kernel
theorem dX7_weight_9 : decode cX7_weight 9 = .ok (.getfield 59, 3) := by decide +kernel
theorem dX7_weight_12 : decode cX7_weight 12 = .ok (.if_icmp .ge 33, 3) := by decide +kernel
theorem dX7_weight_15 : decode cX7_weight 15 = .ok (.aload_n 0, 1) := by decide +kernel
theorem dX7_weight_16 : decode cX7_weight 16 = .ok (.getfield 19, 3) := by decide +kernel
theorem dX7_weight_19 : decode cX7_weight 19 = .ok (.iload_n 2, 1) := by decide +kernel
theorem dX7_weight_20 : decode cX7_weight 20 = .ok (.iaload, 1) := by decide +kernel
theorem dX7_weight_21 : decode cX7_weight 21 = .ok (.iconst (-1), 1) := by decide +kernel
theorem dX7_weight_22 : decode cX7_weight 22 = .ok (.if_icmp .eq 17, 3) := by decide +kernel
theorem dX7_weight_25 : decode cX7_weight 25 = .ok (.iload_n 1, 1) := by decide +kernel
theorem dX7_weight_26 : decode cX7_weight 26 = .ok (.aload_n 0, 1) := by decide +kernel
theorem dX7_weight_27 : decode cX7_weight 27 = .ok (.aload_n 0, 1) := by decide +kernel
theorem dX7_weight_28 : decode cX7_weight 28 = .ok (.getfield 19, 3) := by decide +kernel
theorem dX7_weight_31 : decode cX7_weight 31 = .ok (.iload_n 2, 1) := by decide +kernel
theorem dX7_weight_32 : decode cX7_weight 32 = .ok (.iaload, 1) := by decide +kernel
theorem dX7_weight_33 : decode cX7_weight 33 = .ok (.iconst 1, 1) := by decide +kernel
theorem dX7_weight_34 : decode cX7_weight 34 = .ok (.invokevirtual 52, 3) := by decide +kernel
theorem dX7_weight_37 : decode cX7_weight 37 = .ok (.iadd, 1) := by decide +kernel
theorem dX7_weight_38 : decode cX7_weight 38 = .ok (.istore_n 1, 1) := by decide +kernel
theorem dX7_weight_39 : decode cX7_weight 39 = .ok (.iinc 2 1, 3) := by decide +kernel
theorem dX7_weight_42 : decode cX7_weight 42 = .ok (.goto (-38), 3) := by decide +kernel
theorem dX7_weight_45 : decode cX7_weight 45 = .ok (.iload_n 1, 1) := by decide +kernel
theorem dX7_weight_46 : decode cX7_weight 46 = .ok (.ireturn, 1) := by decide +kernel
theorem dX7_isBack_0 : decode cX7_isBack 0 = .ok (.iconst 0, 1) := by decide +kernel
theorem dX7_isBack_1 : decode cX7_isBack 1 = .ok (.istore_n 1, 1) := by decide +kernel
theorem dX7_isBack_2 : decode cX7_isBack 2 = .ok (.iconst 0, 1) := by decide +kernel
theorem dX7_isBack_3 : decode cX7_isBack 3 = .ok (.istore_n 2, 1) := by decide +kernel
theorem dX7_isBack_4 : decode cX7_isBack 4 = .ok (.iload_n 2, 1) := by decide +kernel
theorem dX7_isBack_5 : decode cX7_isBack 5 = .ok (.aload_n 0, 1) := by decide +kernel
theorem dX7_isBack_6 : decode cX7_isBack 6 = .ok (.getfield 3, 3) := by decide +kernel
theorem dX7_isBack_9 : decode cX7_isBack 9 = .ok (.getfield 59, 3) := by decide +kernel
theorem dX7_isBack_12 : decode cX7_isBack 12 = .ok (.if_icmp .ge 45, 3) := by decide +kernel
theorem dX7_isBack_15 : decode cX7_isBack 15 = .ok (.iload_n 1, 1) := by decide +kernel
theorem dX7_isBack_16 : decode cX7_isBack 16 = .ok (.aload_n 0, 1) := by decide +kernel
theorem dX7_isBack_17 : decode cX7_isBack 17 = .ok (.getfield 19, 3) := by decide +kernel
theorem dX7_isBack_20 : decode cX7_isBack 20 = .ok (.iload_n 2, 1) := by decide +kernel
theorem dX7_isBack_21 : decode cX7_isBack 21 = .ok (.iaload, 1) := by decide +kernel
theorem dX7_isBack_22 : decode cX7_isBack 22 = .ok (.iconst (-1), 1) := by decide +kernel
theorem dX7_isBack_23 : decode cX7_isBack 23 = .ok (.if_icmp .eq 25, 3) := by decide +kernel
theorem dX7_isBack_26 : decode cX7_isBack 26 = .ok (.aload_n 0, 1) := by decide +kernel
theorem dX7_isBack_27 : decode cX7_isBack 27 = .ok (.aload_n 0, 1) := by decide +kernel
theorem dX7_isBack_28 : decode cX7_isBack 28 = .ok (.getfield 19, 3) := by decide +kernel
theorem dX7_isBack_31 : decode cX7_isBack 31 = .ok (.iload_n 2, 1) := by decide +kernel
theorem dX7_isBack_32 : decode cX7_isBack 32 = .ok (.iaload, 1) := by decide +kernel
theorem dX7_isBack_33 : decode cX7_isBack 33 = .ok (.iconst 4, 1) := by decide +kernel
theorem dX7_isBack_34 : decode cX7_isBack 34 = .ok (.invokevirtual 52, 3) := by decide +kernel
theorem dX7_isBack_37 : decode cX7_isBack 37 = .ok (.aload_n 0, 1) := by decide +kernel
theorem dX7_isBack_38 : decode cX7_isBack 38 = .ok (.getfield 38, 3) := by decide +kernel
theorem dX7_isBack_41 : decode cX7_isBack 41 = .ok (.if_icmp .eq 7, 3) := by decide +kernel
theorem dX7_isBack_44 : decode cX7_isBack 44 = .ok (.iconst 1, 1) := by decide +kernel
theorem dX7_isBack_45 : decode cX7_isBack 45 = .ok (.goto 4, 3) := by decide +kernel
theorem dX7_isBack_48 : decode cX7_isBack 48 = .ok (.iconst 0, 1) := by decide +kernel
theorem dX7_isBack_49 : decode cX7_isBack 49 = .ok (.ior, 1) := by decide +kernel
theorem dX7_isBack_50 : decode cX7_isBack 50 = .ok (.istore_n 1, 1) := by decide +kernel
theorem dX7_isBack_51 : decode cX7_isBack 51 = .ok (.iinc 2 1, 3) := by decide +kernel
theorem dX7_isBack_54 : decode cX7_isBack 54 = .ok (.goto (-50), 3) := by decide +kernel
theorem dX7_isBack_57 : decode cX7_isBack 57 = .ok (.iload_n 1, 1) := by decide +kernel
theorem dX7_isBack_58 : decode cX7_isBack 58 = .ok (.ireturn, 1) := by decide +kernel
theorem dX7_comeOn_0 : decode cX7_comeOn 0 = .ok (.aload_n 0, 1) := by decide +kernel
theorem dX7_comeOn_1 : decode cX7_comeOn 1 = .ok (.getfield 38, 3) := by decide +kernel
theorem dX7_comeOn_4 : decode cX7_comeOn 4 = .ok (.ifCond .ne 7, 3) := by decide +kernel
theorem dX7_comeOn_7 : decode cX7_comeOn 7 = .ok (.iconst 0, 1) := by decide +kernel
theorem dX7_comeOn_8 : decode cX7_comeOn 8 = .ok (.goto 12, 3) := by decide +kernel
theorem dX7_comeOn_11 : decode cX7_comeOn 11 = .ok (.aload_n 0, 1) := by decide +kernel
theorem dX7_comeOn_12 : decode cX7_comeOn 12 = .ok (.getfield 3, 3) := by decide +kernel
theorem dX7_comeOn_15 : decode cX7_comeOn 15 = .ok (.getfield 59, 3) := by decide +kernel
theorem dX7_comeOn_18 : decode cX7_comeOn 18 = .ok (.iconst 1, 1) := by decide +kernel
theorem dX7_comeOn_19 : decode cX7_comeOn 19 = .ok (.isub, 1) := by decide +kernel
theorem dX7_comeOn_20 : decode cX7_comeOn 20 = .ok (.istore_n 1, 1) := by decide +kernel
theorem dX7_comeOn_21 : decode cX7_comeOn 21 = .ok (.aload_n 0, 1) := by decide +kernel
theorem dX7_comeOn_22 : decode cX7_comeOn 22 = .ok (.getfield 25, 3) := by decide +kernel
theorem dX7_comeOn_25 : decode cX7_comeOn 25 = .ok (.iconst 5, 1) := by decide +kernel
theorem dX7_comeOn_26 : decode cX7_comeOn 26 = .ok (.aload_n 0, 1) := by decide +kernel
theorem dX7_comeOn_27 : decode cX7_comeOn 27 = .ok (.getfield 38, 3) := by decide +kernel
theorem dX7_comeOn_30 : decode cX7_comeOn 30 = .ok (.imul, 1) := by decide +kernel
theorem dX7_comeOn_31 : decode cX7_comeOn 31 = .ok (.iconst 3, 1) := by decide +kernel
theorem dX7_comeOn_32 : decode cX7_comeOn 32 = .ok (.iadd, 1) := by decide +kernel
theorem dX7_comeOn_33 : decode cX7_comeOn 33 = .ok (.iaload, 1) := by decide +kernel
theorem dX7_comeOn_34 : decode cX7_comeOn 34 = .ok (.ifCond .eq 20, 3) := by decide +kernel
theorem dX7_comeOn_37 : decode cX7_comeOn 37 = .ok (.aload_n 0, 1) := by decide +kernel
theorem dX7_comeOn_38 : decode cX7_comeOn 38 = .ok (.getfield 19, 3) := by decide +kernel
theorem dX7_comeOn_41 : decode cX7_comeOn 41 = .ok (.iload_n 1, 1) := by decide +kernel
theorem dX7_comeOn_42 : decode cX7_comeOn 42 = .ok (.iaload, 1) := by decide +kernel
theorem dX7_comeOn_43 : decode cX7_comeOn 43 = .ok (.iconst (-1), 1) := by decide +kernel
theorem dX7_comeOn_44 : decode cX7_comeOn 44 = .ok (.if_icmp .ne 10, 3) := by decide +kernel
theorem dX7_comeOn_47 : decode cX7_comeOn 47 = .ok (.aload_n 0, 1) := by decide +kernel
theorem dX7_comeOn_48 : decode cX7_comeOn 48 = .ok (.invokevirtual 66, 3) := by decide +kernel
theorem dX7_comeOn_51 : decode cX7_comeOn 51 = .ok (.ifCond .eq 4, 3) := by decide +kernel
theorem dX7_comeOn_54 : decode cX7_comeOn 54 = .ok (.return_, 1) := by decide +kernel
theorem dX7_comeOn_55 : decode cX7_comeOn 55 = .ok (.aload_n 0, 1) := by decide +kernel
theorem dX7_comeOn_56 : decode cX7_comeOn 56 = .ok (.getfield 22, 3) := by decide +kernel
theorem dX7_comeOn_59 : decode cX7_comeOn 59 = .ok (.bipush 16, 2) := by decide +kernel
theorem dX7_comeOn_61 : decode cX7_comeOn 61 = .ok (.aload_n 0, 1) := by decide +kernel
theorem dX7_comeOn_62 : decode cX7_comeOn 62 = .ok (.getfield 38, 3) := by decide +kernel
theorem dX7_comeOn_65 : decode cX7_comeOn 65 = .ok (.imul, 1) := by decide +kernel
theorem dX7_comeOn_66 : decode cX7_comeOn 66 = .ok (.iaload, 1) := by decide +kernel
theorem dX7_comeOn_67 : decode cX7_comeOn 67 = .ok (.istore_n 2, 1) := by decide +kernel
theorem dX7_comeOn_68 : decode cX7_comeOn 68 = .ok (.aload_n 0, 1) := by decide +kernel
theorem dX7_comeOn_69 : decode cX7_comeOn 69 = .ok (.invokevirtual 70, 3) := by decide +kernel
theorem dX7_comeOn_72 : decode cX7_comeOn 72 = .ok (.aload_n 0, 1) := by decide +kernel
theorem dX7_comeOn_73 : decode cX7_comeOn 73 = .ok (.iload_n 2, 1) := by decide +kernel
theorem dX7_comeOn_74 : decode cX7_comeOn 74 = .ok (.iconst 1, 1) := by decide +kernel
theorem dX7_comeOn_75 : decode cX7_comeOn 75 = .ok (.invokevirtual 52, 3) := by decide +kernel
theorem dX7_comeOn_78 : decode cX7_comeOn 78 = .ok (.iadd, 1) := by decide +kernel
theorem dX7_comeOn_79 : decode cX7_comeOn 79 = .ok (.aload_n 0, 1) := by decide +kernel
theorem dX7_comeOn_80 : decode cX7_comeOn 80 = .ok (.getfield 3, 3) := by decide +kernel
theorem dX7_comeOn_83 : decode cX7_comeOn 83 = .ok (.getfield 74, 3) := by decide +kernel
theorem dX7_comeOn_86 : decode cX7_comeOn 86 = .ok (.if_icmp .le 4, 3) := by decide +kernel
theorem dX7_comeOn_89 : decode cX7_comeOn 89 = .ok (.return_, 1) := by decide +kernel
theorem dX7_comeOn_90 : decode cX7_comeOn 90 = .ok (.aload_n 0, 1) := by decide +kernel
theorem dX7_comeOn_91 : decode cX7_comeOn 91 = .ok (.aload_n 0, 1) := by decide +kernel
theorem dX7_comeOn_92 : decode cX7_comeOn 92 = .ok (.getfield 38, 3) := by decide +kernel
theorem dX7_comeOn_95 : decode cX7_comeOn 95 = .ok (.invokevirtual 77, 3) := by decide +kernel
theorem dX7_comeOn_98 : decode cX7_comeOn 98 = .ok (.pop, 1) := by decide +kernel
theorem dX7_comeOn_99 : decode cX7_comeOn 99 = .ok (.aload_n 0, 1) := by decide +kernel
theorem dX7_comeOn_100 : decode cX7_comeOn 100 = .ok (.iload_n 2, 1) := by decide +kernel
theorem dX7_comeOn_101 : decode cX7_comeOn 101 = .ok (.bipush 9, 2) := by decide +kernel
theorem dX7_comeOn_103 : decode cX7_comeOn 103 = .ok (.invokevirtual 52, 3) := by decide +kernel
theorem dX7_comeOn_106 : decode cX7_comeOn 106 = .ok (.ifCond .ne 183, 3) := by decide +kernel
theorem dX7_comeOn_109 : decode cX7_comeOn 109 = .ok (.aload_n 0, 1) := by decide +kernel
theorem dX7_comeOn_110 : decode cX7_comeOn 110 = .ok (.iload_n 2, 1) := by decide +kernel
theorem dX7_comeOn_111 : decode cX7_comeOn 111 = .ok (.iconst 0, 1) := by decide +kernel
theorem dX7_comeOn_112 : decode cX7_comeOn 112 = .ok (.invokevirtual 52, 3) := by decide +kernel
theorem dX7_comeOn_115 : decode cX7_comeOn 115 = .ok (.aload_n 0, 1) := by decide +kernel
theorem dX7_comeOn_116 : decode cX7_comeOn 116 = .ok (.getfield 3, 3) := by decide +kernel
theorem dX7_comeOn_119 : decode cX7_comeOn 119 = .ok (.getfield 81, 3) := by decide +kernel
theorem dX7_comeOn_122 : decode cX7_comeOn 122 = .ok (.imul, 1) := by decide +kernel
theorem dX7_comeOn_123 : decode cX7_comeOn 123 = .ok (.aload_n 0, 1) := by decide +kernel
theorem dX7_comeOn_124 : decode cX7_comeOn 124 = .ok (.iload_n 2, 1) := by decide +kernel
theorem dX7_comeOn_125 : decode cX7_comeOn 125 = .ok (.iconst 1, 1) := by decide +kernel
theorem dX7_comeOn_126 : decode cX7_comeOn 126 = .ok (.invokevirtual 52, 3) := by decide +kernel
theorem dX7_comeOn_129 : decode cX7_comeOn 129 = .ok (.bipush 10, 2) := by decide +kernel
theorem dX7_comeOn_131 : decode cX7_comeOn 131 = .ok (.idiv, 1) := by decide +kernel
theorem dX7_comeOn_132 : decode cX7_comeOn 132 = .ok (.aload_n 0, 1) := by decide +kernel
theorem dX7_comeOn_133 : decode cX7_comeOn 133 = .ok (.getfield 3, 3) := by decide +kernel
theorem dX7_comeOn_136 : decode cX7_comeOn 136 = .ok (.getfield 84, 3) := by decide +kernel
theorem dX7_comeOn_139 : decode cX7_comeOn 139 = .ok (.imul, 1) := by decide +kernel
theorem dX7_comeOn_140 : decode cX7_comeOn 140 = .ok (.iadd, 1) := by decide +kernel
theorem dX7_comeOn_141 : decode cX7_comeOn 141 = .ok (.istore_n 3, 1) := by decide +kernel
theorem dX7_comeOn_142 : decode cX7_comeOn 142 = .ok (.aload_n 0, 1) := by decide +kernel
theorem dX7_comeOn_143 : decode cX7_comeOn 143 = .ok (.iload_n 2, 1) := by decide +kernel
theorem dX7_comeOn_144 : decode cX7_comeOn 144 = .ok (.bipush 7, 2) := by decide +kernel
theorem dX7_comeOn_146 : decode cX7_comeOn 146 = .ok (.invokevirtual 52, 3) := by decide +kernel
theorem dX7_comeOn_149 : decode cX7_comeOn 149 = .ok (.aload_n 0, 1) := by decide +kernel
theorem dX7_comeOn_150 : decode cX7_comeOn 150 = .ok (.iload_n 2, 1) := by decide +kernel
theorem dX7_comeOn_151 : decode cX7_comeOn 151 = .ok (.iconst 0, 1) := by decide +kernel
theorem dX7_comeOn_152 : decode cX7_comeOn 152 = .ok (.invokevirtual 52, 3) := by decide +kernel
theorem dX7_comeOn_155 : decode cX7_comeOn 155 = .ok (.iconst 1, 1) := by decide +kernel
theorem dX7_comeOn_156 : decode cX7_comeOn 156 = .ok (.isub, 1) := by decide +kernel
theorem dX7_comeOn_157 : decode cX7_comeOn 157 = .ok (.imul, 1) := by decide +kernel
theorem dX7_comeOn_158 : decode cX7_comeOn 158 = .ok (.aload_n 0, 1) := by decide +kernel
theorem dX7_comeOn_159 : decode cX7_comeOn 159 = .ok (.getfield 3, 3) := by decide +kernel
theorem dX7_comeOn_162 : decode cX7_comeOn 162 = .ok (.getfield 81, 3) := by decide +kernel
theorem dX7_comeOn_165 : decode cX7_comeOn 165 = .ok (.imul, 1) := by decide +kernel
theorem dX7_comeOn_166 : decode cX7_comeOn 166 = .ok (.istore 4, 2) := by decide +kernel
theorem dX7_comeOn_168 : decode cX7_comeOn 168 = .ok (.iload_n 3, 1) := by decide +kernel
theorem dX7_comeOn_169 : decode cX7_comeOn 169 = .ok (.iload 4, 2) := by decide +kernel
theorem dX7_comeOn_171 : decode cX7_comeOn 171 = .ok (.isub, 1) := by decide +kernel
theorem dX7_comeOn_172 : decode cX7_comeOn 172 = .ok (.aload_n 0, 1) := by decide +kernel
theorem dX7_comeOn_173 : decode cX7_comeOn 173 = .ok (.iload_n 2, 1) := by decide +kernel
theorem dX7_comeOn_174 : decode cX7_comeOn 174 = .ok (.iconst 3, 1) := by decide +kernel
theorem dX7_comeOn_175 : decode cX7_comeOn 175 = .ok (.invokevirtual 52, 3) := by decide +kernel
theorem dX7_comeOn_178 : decode cX7_comeOn 178 = .ok (.if_icmp .le 11, 3) := by decide +kernel
theorem dX7_comeOn_181 : decode cX7_comeOn 181 = .ok (.aload_n 0, 1) := by decide +kernel
theorem dX7_comeOn_182 : decode cX7_comeOn 182 = .ok (.iload_n 2, 1) := by decide +kernel
theorem dX7_comeOn_183 : decode cX7_comeOn 183 = .ok (.iconst 5, 1) := by decide +kernel
theorem dX7_comeOn_184 : decode cX7_comeOn 184 = .ok (.iconst 3, 1) := by decide +kernel
theorem dX7_comeOn_185 : decode cX7_comeOn 185 = .ok (.invokevirtual 48, 3) := by decide +kernel
theorem dX7_comeOn_188 : decode cX7_comeOn 188 = .ok (.return_, 1) := by decide +kernel
theorem dX7_comeOn_189 : decode cX7_comeOn 189 = .ok (.aload_n 0, 1) := by decide +kernel
theorem dX7_comeOn_190 : decode cX7_comeOn 190 = .ok (.iload_n 2, 1) := by decide +kernel
theorem dX7_comeOn_191 : decode cX7_comeOn 191 = .ok (.iconst 3, 1) := by decide +kernel
theorem dX7_comeOn_192 : decode cX7_comeOn 192 = .ok (.aload_n 0, 1) := by decide +kernel
theorem dX7_comeOn_193 : decode cX7_comeOn 193 = .ok (.iload_n 2, 1) := by decide +kernel
theorem dX7_comeOn_194 : decode cX7_comeOn 194 = .ok (.iconst 3, 1) := by decide +kernel
theorem dX7_comeOn_195 : decode cX7_comeOn 195 = .ok (.invokevirtual 52, 3) := by decide +kernel
theorem dX7_comeOn_198 : decode cX7_comeOn 198 = .ok (.iload_n 3, 1) := by decide +kernel
theorem dX7_comeOn_199 : decode cX7_comeOn 199 = .ok (.isub, 1) := by decide +kernel
theorem dX7_comeOn_200 : decode cX7_comeOn 200 = .ok (.iload 4, 2) := by decide +kernel
theorem dX7_comeOn_202 : decode cX7_comeOn 202 = .ok (.iadd, 1) := by decide +kernel
theorem dX7_comeOn_203 : decode cX7_comeOn 203 = .ok (.invokevirtual 48, 3) := by decide +kernel
theorem dX7_comeOn_206 : decode cX7_comeOn 206 = .ok (.aload_n 0, 1) := by decide +kernel
theorem dX7_comeOn_207 : decode cX7_comeOn 207 = .ok (.iload_n 2, 1) := by decide +kernel
theorem dX7_comeOn_208 : decode cX7_comeOn 208 = .ok (.bipush 9, 2) := by decide +kernel
theorem dX7_comeOn_210 : decode cX7_comeOn 210 = .ok (.iconst 1, 1) := by decide +kernel
theorem dX7_comeOn_211 : decode cX7_comeOn 211 = .ok (.invokevirtual 48, 3) := by decide +kernel
theorem dX7_comeOn_214 : decode cX7_comeOn 214 = .ok (.aload_n 0, 1) := by decide +kernel
theorem dX7_comeOn_215 : decode cX7_comeOn 215 = .ok (.getfield 25, 3) := by decide +kernel
theorem dX7_comeOn_218 : decode cX7_comeOn 218 = .ok (.iconst 5, 1) := by decide +kernel
theorem dX7_comeOn_219 : decode cX7_comeOn 219 = .ok (.aload_n 0, 1) := by decide +kernel
theorem dX7_comeOn_220 : decode cX7_comeOn 220 = .ok (.getfield 38, 3) := by decide +kernel
theorem dX7_comeOn_223 : decode cX7_comeOn 223 = .ok (.imul, 1) := by decide +kernel
theorem dX7_comeOn_224 : decode cX7_comeOn 224 = .ok (.dup2, 1) := by decide +kernel
theorem dX7_comeOn_225 : decode cX7_comeOn 225 = .ok (.iaload, 1) := by decide +kernel
theorem dX7_comeOn_226 : decode cX7_comeOn 226 = .ok (.iload_n 3, 1) := by decide +kernel
theorem dX7_comeOn_227 : decode cX7_comeOn 227 = .ok (.iload 4, 2) := by decide +kernel
theorem dX7_comeOn_229 : decode cX7_comeOn 229 = .ok (.isub, 1) := by decide +kernel
theorem dX7_comeOn_230 : decode cX7_comeOn 230 = .ok (.iadd, 1) := by decide +kernel
theorem dX7_comeOn_231 : decode cX7_comeOn 231 = .ok (.iastore, 1) := by decide +kernel
theorem dX7_comeOn_232 : decode cX7_comeOn 232 = .ok (.aload_n 0, 1) := by decide +kernel
theorem dX7_comeOn_233 : decode cX7_comeOn 233 = .ok (.getfield 25, 3) := by decide +kernel
theorem dX7_comeOn_236 : decode cX7_comeOn 236 = .ok (.iconst 5, 1) := by decide +kernel
theorem dX7_comeOn_237 : decode cX7_comeOn 237 = .ok (.aload_n 0, 1) := by decide +kernel
theorem dX7_comeOn_238 : decode cX7_comeOn 238 = .ok (.getfield 38, 3) := by decide +kernel
theorem dX7_comeOn_241 : decode cX7_comeOn 241 = .ok (.imul, 1) := by decide +kernel
theorem dX7_comeOn_242 : decode cX7_comeOn 242 = .ok (.iconst 1, 1) := by decide +kernel
theorem dX7_comeOn_243 : decode cX7_comeOn 243 = .ok (.iadd, 1) := by decide +kernel
theorem dX7_comeOn_244 : decode cX7_comeOn 244 = .ok (.dup2, 1) := by decide +kernel
theorem dX7_comeOn_245 : decode cX7_comeOn 245 = .ok (.iaload, 1) := by decide +kernel
theorem dX7_comeOn_246 : decode cX7_comeOn 246 = .ok (.iconst 1, 1) := by decide +kernel
theorem dX7_comeOn_247 : decode cX7_comeOn 247 = .ok (.iadd, 1) := by decide +kernel
theorem dX7_comeOn_248 : decode cX7_comeOn 248 = .ok (.iastore, 1) := by decide +kernel
theorem dX7_comeOn_249 : decode cX7_comeOn 249 = .ok (.aload_n 0, 1) := by decide +kernel
theorem dX7_comeOn_250 : decode cX7_comeOn 250 = .ok (.getfield 25, 3) := by decide +kernel
theorem dX7_comeOn_253 : decode cX7_comeOn 253 = .ok (.iconst 5, 1) := by decide +kernel
theorem dX7_comeOn_254 : decode cX7_comeOn 254 = .ok (.aload_n 0, 1) := by decide +kernel
theorem dX7_comeOn_255 : decode cX7_comeOn 255 = .ok (.getfield 38, 3) := by decide +kernel
theorem dX7_comeOn_258 : decode cX7_comeOn 258 = .ok (.imul, 1) := by decide +kernel
theorem dX7_comeOn_259 : decode cX7_comeOn 259 = .ok (.iconst 2, 1) := by decide +kernel
theorem dX7_comeOn_260 : decode cX7_comeOn 260 = .ok (.iadd, 1) := by decide +kernel
theorem dX7_comeOn_261 : decode cX7_comeOn 261 = .ok (.dup2, 1) := by decide +kernel
theorem dX7_comeOn_262 : decode cX7_comeOn 262 = .ok (.iaload, 1) := by decide +kernel
theorem dX7_comeOn_263 : decode cX7_comeOn 263 = .ok (.aload_n 0, 1) := by decide +kernel
theorem dX7_comeOn_264 : decode cX7_comeOn 264 = .ok (.iload_n 2, 1) := by decide +kernel
theorem dX7_comeOn_265 : decode cX7_comeOn 265 = .ok (.iconst 0, 1) := by decide +kernel
theorem dX7_comeOn_266 : decode cX7_comeOn 266 = .ok (.invokevirtual 52, 3) := by decide +kernel
theorem dX7_comeOn_269 : decode cX7_comeOn 269 = .ok (.iadd, 1) := by decide +kernel
theorem dX7_comeOn_270 : decode cX7_comeOn 270 = .ok (.iastore, 1) := by decide +kernel
theorem dX7_comeOn_271 : decode cX7_comeOn 271 = .ok (.aload_n 0, 1) := by decide +kernel
theorem dX7_comeOn_272 : decode cX7_comeOn 272 = .ok (.getfield 25, 3) := by decide +kernel
theorem dX7_comeOn_275 : decode cX7_comeOn 275 = .ok (.iconst 5, 1) := by decide +kernel
theorem dX7_comeOn_276 : decode cX7_comeOn 276 = .ok (.aload_n 0, 1) := by decide +kernel
theorem dX7_comeOn_277 : decode cX7_comeOn 277 = .ok (.getfield 38, 3) := by decide +kernel
theorem dX7_comeOn_280 : decode cX7_comeOn 280 = .ok (.imul, 1) := by decide +kernel
theorem dX7_comeOn_281 : decode cX7_comeOn 281 = .ok (.iconst 4, 1) := by decide +kernel
theorem dX7_comeOn_282 : decode cX7_comeOn 282 = .ok (.iadd, 1) := by decide +kernel
theorem dX7_comeOn_283 : decode cX7_comeOn 283 = .ok (.dup2, 1) := by decide +kernel
theorem dX7_comeOn_284 : decode cX7_comeOn 284 = .ok (.iaload, 1) := by decide +kernel
theorem dX7_comeOn_285 : decode cX7_comeOn 285 = .ok (.iload 4, 2) := by decide +kernel
theorem dX7_comeOn_287 : decode cX7_comeOn 287 = .ok (.iadd, 1) := by decide +kernel
theorem dX7_comeOn_288 : decode cX7_comeOn 288 = .ok (.iastore, 1) := by decide +kernel
theorem dX7_comeOn_289 : decode cX7_comeOn 289 = .ok (.aload_n 0, 1) := by decide +kernel
theorem dX7_comeOn_290 : decode cX7_comeOn 290 = .ok (.getfield 19, 3) := by decide +kernel
theorem dX7_comeOn_293 : decode cX7_comeOn 293 = .ok (.iload_n 1, 1) := by decide +kernel
theorem dX7_comeOn_294 : decode cX7_comeOn 294 = .ok (.iload_n 2, 1) := by decide +kernel
theorem dX7_comeOn_295 : decode cX7_comeOn 295 = .ok (.iastore, 1) := by decide +kernel
theorem dX7_comeOn_296 : decode cX7_comeOn 296 = .ok (.aload_n 0, 1) := by decide +kernel
theorem dX7_comeOn_297 : decode cX7_comeOn 297 = .ok (.iload_n 2, 1) := by decide +kernel
theorem dX7_comeOn_298 : decode cX7_comeOn 298 = .ok (.iconst 5, 1) := by decide +kernel
theorem dX7_comeOn_299 : decode cX7_comeOn 299 = .ok (.iconst 1, 1) := by decide +kernel
theorem dX7_comeOn_300 : decode cX7_comeOn 300 = .ok (.invokevirtual 48, 3) := by decide +kernel
theorem dX7_comeOn_303 : decode cX7_comeOn 303 = .ok (.aload_n 0, 1) := by decide +kernel
theorem dX7_comeOn_304 : decode cX7_comeOn 304 = .ok (.iload_n 2, 1) := by decide +kernel
theorem dX7_comeOn_305 : decode cX7_comeOn 305 = .ok (.bipush 6, 2) := by decide +kernel
theorem dX7_comeOn_307 : decode cX7_comeOn 307 = .ok (.iload_n 1, 1) := by decide +kernel
theorem dX7_comeOn_308 : decode cX7_comeOn 308 = .ok (.invokevirtual 48, 3) := by decide +kernel
theorem dX7_comeOn_311 : decode cX7_comeOn 311 = .ok (.return_, 1) := by decide +kernel
theorem dX7_pass_0 : decode cX7_pass 0 = .ok (.aload_n 0, 1) := by decide +kernel
theorem dX7_pass_1 : decode cX7_pass 1 = .ok (.iconst 2, 1) := by decide +kernel
theorem dX7_pass_2 : decode cX7_pass 2 = .ok (.invokevirtual 87, 3) := by decide +kernel
theorem dX7_pass_5 : decode cX7_pass 5 = .ok (.istore_n 1, 1) := by decide +kernel
theorem dX7_pass_6 : decode cX7_pass 6 = .ok (.iconst 0, 1) := by decide +kernel
theorem dX7_pass_7 : decode cX7_pass 7 = .ok (.istore_n 2, 1) := by decide +kernel
theorem dX7_pass_8 : decode cX7_pass 8 = .ok (.iload_n 2, 1) := by decide +kernel
theorem dX7_pass_9 : decode cX7_pass 9 = .ok (.aload_n 0, 1) := by decide +kernel
theorem dX7_pass_10 : decode cX7_pass 10 = .ok (.getfield 3, 3) := by decide +kernel
theorem dX7_pass_13 : decode cX7_pass 13 = .ok (.getfield 59, 3) := by decide +kernel
theorem dX7_pass_16 : decode cX7_pass 16 = .ok (.if_icmp .ge 47, 3) := by decide +kernel
theorem dX7_pass_19 : decode cX7_pass 19 = .ok (.aload_n 0, 1) := by decide +kernel
theorem dX7_pass_20 : decode cX7_pass 20 = .ok (.getfield 19, 3) := by decide +kernel
theorem dX7_pass_23 : decode cX7_pass 23 = .ok (.aload_n 0, 1) := by decide +kernel
theorem dX7_pass_24 : decode cX7_pass 24 = .ok (.getfield 38, 3) := by decide +kernel
theorem dX7_pass_27 : decode cX7_pass 27 = .ok (.ifCond .ne 17, 3) := by decide +kernel
theorem dX7_pass_30 : decode cX7_pass 30 = .ok (.aload_n 0, 1) := by decide +kernel
theorem dX7_pass_31 : decode cX7_pass 31 = .ok (.getfield 3, 3) := by decide +kernel
theorem dX7_pass_34 : decode cX7_pass 34 = .ok (.getfield 59, 3) := by decide +kernel
theorem dX7_pass_37 : decode cX7_pass 37 = .ok (.iconst 1, 1) := by decide +kernel
theorem dX7_pass_38 : decode cX7_pass 38 = .ok (.isub, 1) := by decide +kernel
theorem dX7_pass_39 : decode cX7_pass 39 = .ok (.iload_n 2, 1) := by decide +kernel
theorem dX7_pass_40 : decode cX7_pass 40 = .ok (.isub, 1) := by decide +kernel
theorem dX7_pass_41 : decode cX7_pass 41 = .ok (.goto 4, 3) := by decide +kernel
theorem dX7_pass_44 : decode cX7_pass 44 = .ok (.iload_n 2, 1) := by decide +kernel
theorem dX7_pass_45 : decode cX7_pass 45 = .ok (.iaload, 1) := by decide +kernel
theorem dX7_pass_46 : decode cX7_pass 46 = .ok (.istore_n 3, 1) := by decide +kernel
theorem dX7_pass_47 : decode cX7_pass 47 = .ok (.iload_n 3, 1) := by decide +kernel
theorem dX7_pass_48 : decode cX7_pass 48 = .ok (.iconst (-1), 1) := by decide +kernel
theorem dX7_pass_49 : decode cX7_pass 49 = .ok (.if_icmp .eq 8, 3) := by decide +kernel
theorem dX7_pass_52 : decode cX7_pass 52 = .ok (.aload_n 0, 1) := by decide +kernel
theorem dX7_pass_53 : decode cX7_pass 53 = .ok (.iload_n 3, 1) := by decide +kernel
theorem dX7_pass_54 : decode cX7_pass 54 = .ok (.invokevirtual 90, 3) := by decide +kernel
theorem dX7_pass_57 : decode cX7_pass 57 = .ok (.iinc 2 1, 3) := by decide +kernel
theorem dX7_pass_60 : decode cX7_pass 60 = .ok (.goto (-52), 3) := by decide +kernel
theorem dX7_pass_63 : decode cX7_pass 63 = .ok (.aload_n 0, 1) := by decide +kernel
theorem dX7_pass_64 : decode cX7_pass 64 = .ok (.invokevirtual 93, 3) := by decide +kernel
theorem dX7_pass_67 : decode cX7_pass 67 = .ok (.aload_n 0, 1) := by decide +kernel
theorem dX7_pass_68 : decode cX7_pass 68 = .ok (.dup, 1) := by decide +kernel
theorem dX7_pass_69 : decode cX7_pass 69 = .ok (.getfield 34, 3) := by decide +kernel
theorem dX7_pass_72 : decode cX7_pass 72 = .ok (.iconst 1, 1) := by decide +kernel
theorem dX7_pass_73 : decode cX7_pass 73 = .ok (.iadd, 1) := by decide +kernel
theorem dX7_pass_74 : decode cX7_pass 74 = .ok (.putfield 34, 3) := by decide +kernel
theorem dX7_pass_77 : decode cX7_pass 77 = .ok (.aload_n 0, 1) := by decide +kernel
theorem dX7_pass_78 : decode cX7_pass 78 = .ok (.iconst 2, 1) := by decide +kernel
theorem dX7_pass_79 : decode cX7_pass 79 = .ok (.invokevirtual 87, 3) := by decide +kernel
theorem dX7_pass_82 : decode cX7_pass 82 = .ok (.iload_n 1, 1) := by decide +kernel
theorem dX7_pass_83 : decode cX7_pass 83 = .ok (.isub, 1) := by decide +kernel
theorem dX7_pass_84 : decode cX7_pass 84 = .ok (.ireturn, 1) := by decide +kernel
theorem dX7_how_0 : decode cX7_how 0 = .ok (.iconst 0, 1) := by decide +kernel
theorem dX7_how_1 : decode cX7_how 1 = .ok (.istore_n 2, 1) := by decide +kernel
theorem dX7_how_2 : decode cX7_how 2 = .ok (.iconst 0, 1) := by decide +kernel
theorem dX7_how_3 : decode cX7_how 3 = .ok (.istore_n 3, 1) := by decide +kernel
theorem dX7_how_4 : decode cX7_how 4 = .ok (.iload_n 3, 1) := by decide +kernel
theorem dX7_how_5 : decode cX7_how 5 = .ok (.aload_n 0, 1) := by decide +kernel
theorem dX7_how_6 : decode cX7_how 6 = .ok (.getfield 41, 3) := by decide +kernel
theorem dX7_how_9 : decode cX7_how 9 = .ok (.if_icmp .ge 27, 3) := by decide +kernel
theorem dX7_how_12 : decode cX7_how 12 = .ok (.iload_n 2, 1) := by decide +kernel
theorem dX7_how_13 : decode cX7_how 13 = .ok (.aload_n 0, 1) := by decide +kernel
theorem dX7_how_14 : decode cX7_how 14 = .ok (.iload_n 3, 1) := by decide +kernel
theorem dX7_how_15 : decode cX7_how 15 = .ok (.iconst 5, 1) := by decide +kernel
theorem dX7_how_16 : decode cX7_how 16 = .ok (.invokevirtual 52, 3) := by decide +kernel
theorem dX7_how_19 : decode cX7_how 19 = .ok (.iload_n 1, 1) := by decide +kernel
theorem dX7_how_20 : decode cX7_how 20 = .ok (.if_icmp .ne 7, 3) := by decide +kernel
theorem dX7_how_23 : decode cX7_how 23 = .ok (.iconst 1, 1) := by decide +kernel
theorem dX7_how_24 : decode cX7_how 24 = .ok (.goto 4, 3) := by decide +kernel
theorem dX7_how_27 : decode cX7_how 27 = .ok (.iconst 0, 1) := by decide +kernel
theorem dX7_how_28 : decode cX7_how 28 = .ok (.iadd, 1) := by decide +kernel
theorem dX7_how_29 : decode cX7_how 29 = .ok (.istore_n 2, 1) := by decide +kernel
theorem dX7_how_30 : decode cX7_how 30 = .ok (.iinc 3 1, 3) := by decide +kernel
theorem dX7_how_33 : decode cX7_how 33 = .ok (.goto (-29), 3) := by decide +kernel
theorem dX7_how_36 : decode cX7_how 36 = .ok (.iload_n 2, 1) := by decide +kernel
theorem dX7_how_37 : decode cX7_how 37 = .ok (.ireturn, 1) := by decide +kernel
theorem dX8_init_0 : decode cX8_init 0 = .ok (.aload_n 0, 1) := by decide +kernel
theorem dX8_init_1 : decode cX8_init 1 = .ok (.invokespecial 1, 3) := by decide +kernel
theorem dX8_init_4 : decode cX8_init 4 = .ok (.aload_n 0, 1) := by decide +kernel
theorem dX8_init_5 : decode cX8_init 5 = .ok (.bipush 8, 2) := by decide +kernel
theorem dX8_init_7 : decode cX8_init 7 = .ok (.newarray .int, 2) := by decide +kernel
theorem dX8_init_9 : decode cX8_init 9 = .ok (.putfield 9, 3) := by decide +kernel
theorem dX8_init_12 : decode cX8_init 12 = .ok (.aload_n 0, 1) := by decide +kernel
theorem dX8_init_13 : decode cX8_init 13 = .ok (.bipush 20, 2) := by decide +kernel
theorem dX8_init_15 : decode cX8_init 15 = .ok (.newarray .int, 2) := by decide +kernel
theorem dX8_init_17 : decode cX8_init 17 = .ok (.putfield 13, 3) := by decide +kernel
theorem dX8_init_20 : decode cX8_init 20 = .ok (.aload_n 0, 1) := by decide +kernel
theorem dX8_init_21 : decode cX8_init 21 = .ok (.bipush 10, 2) := by decide +kernel
theorem dX8_init_23 : decode cX8_init 23 = .ok (.putfield 16, 3) := by decide +kernel
theorem dX8_init_26 : decode cX8_init 26 = .ok (.aload_n 0, 1) := by decide +kernel
theorem dX8_init_27 : decode cX8_init 27 = .ok (.sipush 200, 3) := by decide +kernel
theorem dX8_init_30 : decode cX8_init 30 = .ok (.putfield 20, 3) := by decide +kernel
theorem dX8_init_33 : decode cX8_init 33 = .ok (.aload_n 0, 1) := by decide +kernel
theorem dX8_init_34 : decode cX8_init 34 = .ok (.iconst 1, 1) := by decide +kernel
theorem dX8_init_35 : decode cX8_init 35 = .ok (.putfield 23, 3) := by decide +kernel
theorem dX8_init_38 : decode cX8_init 38 = .ok (.aload_n 0, 1) := by decide +kernel
theorem dX8_init_39 : decode cX8_init 39 = .ok (.iconst 1, 1) := by decide +kernel
theorem dX8_init_40 : decode cX8_init 40 = .ok (.putfield 26, 3) := by decide +kernel
theorem dX8_init_43 : decode cX8_init 43 = .ok (.aload_n 0, 1) := by decide +kernel
theorem dX8_init_44 : decode cX8_init 44 = .ok (.new 29, 3) := by decide +kernel
theorem dX8_init_47 : decode cX8_init 47 = .ok (.dup, 1) := by decide +kernel
theorem dX8_init_48 : decode cX8_init 48 = .ok (.aload_n 0, 1) := by decide +kernel
theorem dX8_init_49 : decode cX8_init 49 = .ok (.invokespecial 31, 3) := by decide +kernel
theorem dX8_init_52 : decode cX8_init 52 = .ok (.putfield 34, 3) := by decide +kernel
theorem dX8_init_55 : decode cX8_init 55 = .ok (.aload_n 0, 1) := by decide +kernel
theorem dX8_init_56 : decode cX8_init 56 = .ok (.new 29, 3) := by decide +kernel
theorem dX8_init_59 : decode cX8_init 59 = .ok (.dup, 1) := by decide +kernel
theorem dX8_init_60 : decode cX8_init 60 = .ok (.aload_n 0, 1) := by decide +kernel
theorem dX8_init_61 : decode cX8_init 61 = .ok (.invokespecial 31, 3) := by decide +kernel
theorem dX8_init_64 : decode cX8_init 64 = .ok (.putfield 38, 3) := by decide +kernel
theorem dX8_init_67 : decode cX8_init 67 = .ok (.return_, 1) := by decide +kernel
theorem dX8_thrown_0 : decode cX8_thrown 0 = .ok (.aload_n 0, 1) := by decide +kernel
theorem dX8_thrown_1 : decode cX8_thrown 1 = .ok (.getfield 41, 3) := by decide +kernel
theorem dX8_thrown_4 : decode cX8_thrown 4 = .ok (.ireturn, 1) := by decide +kernel
theorem dX8_no_0 : decode cX8_no 0 = .ok (.aload_n 0, 1) := by decide +kernel
theorem dX8_no_1 : decode cX8_no 1 = .ok (.iload_n 1, 1) := by decide +kernel
theorem dX8_no_2 : decode cX8_no 2 = .ok (.putfield 41, 3) := by decide +kernel
theorem dX8_no_5 : decode cX8_no 5 = .ok (.iconst 0, 1) := by decide +kernel
theorem dX8_no_6 : decode cX8_no 6 = .ok (.ireturn, 1) := by decide +kernel
theorem dX8_isIn_0 : decode cX8_isIn 0 = .ok (.iload_n 0, 1) := by decide +kernel
theorem dX8_isIn_1 : decode cX8_isIn 1 = .ok (.iload_n 1, 1) := by decide +kernel
theorem dX8_isIn_2 : decode cX8_isIn 2 = .ok (.if_icmp .lt 12, 3) := by decide +kernel
theorem dX8_isIn_5 : decode cX8_isIn 5 = .ok (.iload_n 0, 1) := by decide +kernel
theorem dX8_isIn_6 : decode cX8_isIn 6 = .ok (.iload_n 2, 1) := by decide +kernel
theorem dX8_isIn_7 : decode cX8_isIn 7 = .ok (.if_icmp .gt 7, 3) := by decide +kernel
theorem dX8_isIn_10 : decode cX8_isIn 10 = .ok (.iconst 1, 1) := by decide +kernel
theorem dX8_isIn_11 : decode cX8_isIn 11 = .ok (.goto 4, 3) := by decide +kernel
theorem dX8_isIn_14 : decode cX8_isIn 14 = .ok (.iconst 0, 1) := by decide +kernel
theorem dX8_isIn_15 : decode cX8_isIn 15 = .ok (.ireturn, 1) := by decide +kernel
theorem dX8_length_0 : decode cX8_length 0 = .ok (.iconst 0, 1) := by decide +kernel
theorem dX8_length_1 : decode cX8_length 1 = .ok (.istore_n 1, 1) := by decide +kernel
theorem dX8_length_2 : decode cX8_length 2 = .ok (.iload_n 0, 1) := by decide +kernel
theorem dX8_length_3 : decode cX8_length 3 = .ok (.istore_n 2, 1) := by decide +kernel
theorem dX8_length_4 : decode cX8_length 4 = .ok (.iload_n 2, 1) := by decide +kernel
theorem dX8_length_5 : decode cX8_length 5 = .ok (.ifCond .le 14, 3) := by decide +kernel
theorem dX8_length_8 : decode cX8_length 8 = .ok (.iinc 1 1, 3) := by decide +kernel
theorem dX8_length_11 : decode cX8_length 11 = .ok (.iload_n 2, 1) := by decide +kernel
theorem dX8_length_12 : decode cX8_length 12 = .ok (.bipush 10, 2) := by decide +kernel
theorem dX8_length_14 : decode cX8_length 14 = .ok (.idiv, 1) := by decide +kernel
theorem dX8_length_15 : decode cX8_length 15 = .ok (.istore_n 2, 1) := by decide +kernel
theorem dX8_length_16 : decode cX8_length 16 = .ok (.goto (-12), 3) := by decide +kernel
theorem dX8_length_19 : decode cX8_length 19 = .ok (.iload_n 1, 1) := by decide +kernel
theorem dX8_length_20 : decode cX8_length 20 = .ok (.ireturn, 1) := by decide +kernel
theorem dX8_isRow_0 : decode cX8_isRow 0 = .ok (.iload_n 0, 1) := by decide +kernel
theorem dX8_isRow_1 : decode cX8_isRow 1 = .ok (.ifCond .le 15, 3) := by decide +kernel
theorem dX8_isRow_4 : decode cX8_isRow 4 = .ok (.iload_n 0, 1) := by decide +kernel
theorem dX8_isRow_5 : decode cX8_isRow 5 = .ok (.invokestatic 44, 3) := by decide +kernel
theorem dX8_isRow_8 : decode cX8_isRow 8 = .ok (.iload_n 1, 1) := by decide +kernel
theorem dX8_isRow_9 : decode cX8_isRow 9 = .ok (.if_icmp .gt 7, 3) := by decide +kernel
theorem dX8_isRow_12 : decode cX8_isRow 12 = .ok (.iconst 1, 1) := by decide +kernel
theorem dX8_isRow_13 : decode cX8_isRow 13 = .ok (.goto 4, 3) := by decide +kernel
theorem dX8_isRow_16 : decode cX8_isRow 16 = .ok (.iconst 0, 1) := by decide +kernel
theorem dX8_isRow_17 : decode cX8_isRow 17 = .ok (.istore_n 2, 1) := by decide +kernel
theorem dX8_isRow_18 : decode cX8_isRow 18 = .ok (.iload_n 0, 1) := by decide +kernel
theorem dX8_isRow_19 : decode cX8_isRow 19 = .ok (.istore_n 3, 1) := by decide +kernel
theorem dX8_isRow_20 : decode cX8_isRow 20 = .ok (.iload_n 3, 1) := by decide +kernel
theorem dX8_isRow_21 : decode cX8_isRow 21 = .ok (.ifCond .le 25, 3) := by decide +kernel
theorem dX8_isRow_24 : decode cX8_isRow 24 = .ok (.iload_n 2, 1) := by decide +kernel
theorem dX8_isRow_25 : decode cX8_isRow 25 = .ok (.ifCond .eq 21, 3) := by decide +kernel
theorem dX8_isRow_28 : decode cX8_isRow 28 = .ok (.iload_n 3, 1) := by decide +kernel
theorem dX8_isRow_29 : decode cX8_isRow 29 = .ok (.bipush 10, 2) := by decide +kernel
theorem dX8_isRow_31 : decode cX8_isRow 31 = .ok (.irem, 1) := by decide +kernel
theorem dX8_isRow_32 : decode cX8_isRow 32 = .ok (.iconst 1, 1) := by decide +kernel
theorem dX8_isRow_33 : decode cX8_isRow 33 = .ok (.iconst 2, 1) := by decide +kernel
theorem dX8_isRow_34 : decode cX8_isRow 34 = .ok (.invokestatic 48, 3) := by decide +kernel
theorem dX8_isRow_37 : decode cX8_isRow 37 = .ok (.istore_n 2, 1) := by decide +kernel
theorem dX8_isRow_38 : decode cX8_isRow 38 = .ok (.iload_n 3, 1) := by decide +kernel
theorem dX8_isRow_39 : decode cX8_isRow 39 = .ok (.bipush 10, 2) := by decide +kernel
theorem dX8_isRow_41 : decode cX8_isRow 41 = .ok (.idiv, 1) := by decide +kernel
theorem dX8_isRow_42 : decode cX8_isRow 42 = .ok (.istore_n 3, 1) := by decide +kernel
theorem dX8_isRow_43 : decode cX8_isRow 43 = .ok (.goto (-23), 3) := by decide +kernel
theorem dX8_isRow_46 : decode cX8_isRow 46 = .ok (.iload_n 2, 1) := by decide +kernel
theorem dX8_isRow_47 : decode cX8_isRow 47 = .ok (.ireturn, 1) := by decide +kernel
theorem dX8_ten_0 : decode cX8_ten 0 = .ok (.iconst 1, 1) := by decide +kernel
theorem dX8_ten_1 : decode cX8_ten 1 = .ok (.istore_n 1, 1) := by decide +kernel
theorem dX8_ten_2 : decode cX8_ten 2 = .ok (.iconst 0, 1) := by decide +kernel
theorem dX8_ten_3 : decode cX8_ten 3 = .ok (.istore_n 2, 1) := by decide +kernel
theorem dX8_ten_4 : decode cX8_ten 4 = .ok (.iload_n 2, 1) := by decide +kernel
theorem dX8_ten_5 : decode cX8_ten 5 = .ok (.iload_n 0, 1) := by decide +kernel
theorem dX8_ten_6 : decode cX8_ten 6 = .ok (.if_icmp .ge 14, 3) := by decide +kernel
theorem dX8_ten_9 : decode cX8_ten 9 = .ok (.iload_n 1, 1) := by decide +kernel
theorem dX8_ten_10 : decode cX8_ten 10 = .ok (.bipush 10, 2) := by decide +kernel
theorem dX8_ten_12 : decode cX8_ten 12 = .ok (.imul, 1) := by decide +kernel
theorem dX8_ten_13 : decode cX8_ten 13 = .ok (.istore_n 1, 1) := by decide +kernel
theorem dX8_ten_14 : decode cX8_ten 14 = .ok (.iinc 2 1, 3) := by decide +kernel
theorem dX8_ten_17 : decode cX8_ten 17 = .ok (.goto (-13), 3) := by decide +kernel
theorem dX8_ten_20 : decode cX8_ten 20 = .ok (.iload_n 1, 1) := by decide +kernel
theorem dX8_ten_21 : decode cX8_ten 21 = .ok (.ireturn, 1) := by decide +kernel
theorem dX8_begins_0 : decode cX8_begins 0 = .ok (.iload_n 0, 1) := by decide +kernel
theorem dX8_begins_1 : decode cX8_begins 1 = .ok (.invokestatic 44, 3) := by decide +kernel
theorem dX8_begins_4 : decode cX8_begins 4 = .ok (.iload_n 1, 1) := by decide +kernel
theorem dX8_begins_5 : decode cX8_begins 5 = .ok (.invokestatic 44, 3) := by decide +kernel
theorem dX8_begins_8 : decode cX8_begins 8 = .ok (.isub, 1) := by decide +kernel
theorem dX8_begins_9 : decode cX8_begins 9 = .ok (.istore_n 2, 1) := by decide +kernel
theorem dX8_begins_10 : decode cX8_begins 10 = .ok (.iload_n 2, 1) := by decide +kernel
theorem dX8_begins_11 : decode cX8_begins 11 = .ok (.ifCond .lt 17, 3) := by decide +kernel
theorem dX8_begins_14 : decode cX8_begins 14 = .ok (.iload_n 0, 1) := by decide +kernel
theorem dX8_begins_15 : decode cX8_begins 15 = .ok (.iload_n 2, 1) := by decide +kernel
theorem dX8_begins_16 : decode cX8_begins 16 = .ok (.invokestatic 52, 3) := by decide +kernel
theorem dX8_begins_19 : decode cX8_begins 19 = .ok (.idiv, 1) := by decide +kernel
theorem dX8_begins_20 : decode cX8_begins 20 = .ok (.iload_n 1, 1) := by decide +kernel
theorem dX8_begins_21 : decode cX8_begins 21 = .ok (.if_icmp .ne 7, 3) := by decide +kernel
theorem dX8_begins_24 : decode cX8_begins 24 = .ok (.iconst 1, 1) := by decide +kernel
theorem dX8_begins_25 : decode cX8_begins 25 = .ok (.goto 4, 3) := by decide +kernel
theorem dX8_begins_28 : decode cX8_begins 28 = .ok (.iconst 0, 1) := by decide +kernel
theorem dX8_begins_29 : decode cX8_begins 29 = .ok (.ireturn, 1) := by decide +kernel
theorem dX8_addSignal_0 : decode cX8_addSignal 0 = .ok (.aload_n 0, 1) := by decide +kernel
theorem dX8_addSignal_1 : decode cX8_addSignal 1 = .ok (.iconst 0, 1) := by decide +kernel
theorem dX8_addSignal_2 : decode cX8_addSignal 2 = .ok (.putfield 41, 3) := by decide +kernel
theorem dX8_addSignal_5 : decode cX8_addSignal 5 = .ok (.iload_n 1, 1) := by decide +kernel
theorem dX8_addSignal_6 : decode cX8_addSignal 6 = .ok (.bipush 6, 2) := by decide +kernel
theorem dX8_addSignal_8 : decode cX8_addSignal 8 = .ok (.invokestatic 55, 3) := by decide +kernel
theorem dX8_addSignal_11 : decode cX8_addSignal 11 = .ok (.ifCond .ne 9, 3) := by decide +kernel
theorem dX8_addSignal_14 : decode cX8_addSignal 14 = .ok (.aload_n 0, 1) := by decide +kernel
theorem dX8_addSignal_15 : decode cX8_addSignal 15 = .ok (.iconst 1, 1) := by decide +kernel
theorem dX8_addSignal_16 : decode cX8_addSignal 16 = .ok (.invokevirtual 59, 3) := by decide +kernel
theorem dX8_addSignal_19 : decode cX8_addSignal 19 = .ok (.ireturn, 1) := by decide +kernel
theorem dX8_addSignal_20 : decode cX8_addSignal 20 = .ok (.iconst 0, 1) := by decide +kernel
theorem dX8_addSignal_21 : decode cX8_addSignal 21 = .ok (.istore_n 2, 1) := by decide +kernel
theorem dX8_addSignal_22 : decode cX8_addSignal 22 = .ok (.iload_n 2, 1) := by decide +kernel
theorem dX8_addSignal_23 : decode cX8_addSignal 23 = .ok (.aload_n 0, 1) := by decide +kernel
theorem dX8_addSignal_24 : decode cX8_addSignal 24 = .ok (.getfield 62, 3) := by decide +kernel
theorem dX8_addSignal_27 : decode cX8_addSignal 27 = .ok (.if_icmp .ge 41, 3) := by decide +kernel
theorem dX8_addSignal_30 : decode cX8_addSignal 30 = .ok (.iload_n 1, 1) := by decide +kernel
theorem dX8_addSignal_31 : decode cX8_addSignal 31 = .ok (.aload_n 0, 1) := by decide +kernel
theorem dX8_addSignal_32 : decode cX8_addSignal 32 = .ok (.getfield 9, 3) := by decide +kernel
theorem dX8_addSignal_35 : decode cX8_addSignal 35 = .ok (.iload_n 2, 1) := by decide +kernel
theorem dX8_addSignal_36 : decode cX8_addSignal 36 = .ok (.iaload, 1) := by decide +kernel
theorem dX8_addSignal_37 : decode cX8_addSignal 37 = .ok (.invokestatic 65, 3) := by decide +kernel
theorem dX8_addSignal_40 : decode cX8_addSignal 40 = .ok (.ifCond .ne 16, 3) := by decide +kernel
theorem dX8_addSignal_43 : decode cX8_addSignal 43 = .ok (.aload_n 0, 1) := by decide +kernel
theorem dX8_addSignal_44 : decode cX8_addSignal 44 = .ok (.getfield 9, 3) := by decide +kernel
theorem dX8_addSignal_47 : decode cX8_addSignal 47 = .ok (.iload_n 2, 1) := by decide +kernel
theorem dX8_addSignal_48 : decode cX8_addSignal 48 = .ok (.iaload, 1) := by decide +kernel
theorem dX8_addSignal_49 : decode cX8_addSignal 49 = .ok (.iload_n 1, 1) := by decide +kernel
theorem dX8_addSignal_50 : decode cX8_addSignal 50 = .ok (.invokestatic 65, 3) := by decide +kernel
theorem dX8_addSignal_53 : decode cX8_addSignal 53 = .ok (.ifCond .eq 9, 3) := by decide +kernel
theorem dX8_addSignal_56 : decode cX8_addSignal 56 = .ok (.aload_n 0, 1) := by decide +kernel
theorem dX8_addSignal_57 : decode cX8_addSignal 57 = .ok (.iconst 2, 1) := by decide +kernel
theorem dX8_addSignal_58 : decode cX8_addSignal 58 = .ok (.invokevirtual 59, 3) := by decide +kernel
theorem dX8_addSignal_61 : decode cX8_addSignal 61 = .ok (.ireturn, 1) := by decide +kernel
theorem dX8_addSignal_62 : decode cX8_addSignal 62 = .ok (.iinc 2 1, 3) := by decide +kernel
theorem dX8_addSignal_65 : decode cX8_addSignal 65 = .ok (.goto (-43), 3) := by decide +kernel
theorem dX8_addSignal_68 : decode cX8_addSignal 68 = .ok (.aload_n 0, 1) := by decide +kernel
theorem dX8_addSignal_69 : decode cX8_addSignal 69 = .ok (.getfield 62, 3) := by decide +kernel
theorem dX8_addSignal_72 : decode cX8_addSignal 72 = .ok (.bipush 8, 2) := by decide +kernel
theorem dX8_addSignal_74 : decode cX8_addSignal 74 = .ok (.if_icmp .ne 9, 3) := by decide +kernel
theorem dX8_addSignal_77 : decode cX8_addSignal 77 = .ok (.aload_n 0, 1) := by decide +kernel
theorem dX8_addSignal_78 : decode cX8_addSignal 78 = .ok (.iconst 2, 1) := by decide +kernel
theorem dX8_addSignal_79 : decode cX8_addSignal 79 = .ok (.invokevirtual 59, 3) := by decide +kernel
theorem dX8_addSignal_82 : decode cX8_addSignal 82 = .ok (.ireturn, 1) := by decide +kernel
theorem dX8_addSignal_83 : decode cX8_addSignal 83 = .ok (.aload_n 0, 1) := by decide +kernel
theorem dX8_addSignal_84 : decode cX8_addSignal 84 = .ok (.getfield 9, 3) := by decide +kernel
theorem dX8_addSignal_87 : decode cX8_addSignal 87 = .ok (.aload_n 0, 1) := by decide +kernel
theorem dX8_addSignal_88 : decode cX8_addSignal 88 = .ok (.getfield 62, 3) := by decide +kernel
theorem dX8_addSignal_91 : decode cX8_addSignal 91 = .ok (.iload_n 1, 1) := by decide +kernel
theorem dX8_addSignal_92 : decode cX8_addSignal 92 = .ok (.iastore, 1) := by decide +kernel
theorem dX8_addSignal_93 : decode cX8_addSignal 93 = .ok (.aload_n 0, 1) := by decide +kernel
theorem dX8_addSignal_94 : decode cX8_addSignal 94 = .ok (.dup, 1) := by decide +kernel
theorem dX8_addSignal_95 : decode cX8_addSignal 95 = .ok (.getfield 62, 3) := by decide +kernel
theorem dX8_addSignal_98 : decode cX8_addSignal 98 = .ok (.iconst 1, 1) := by decide +kernel
theorem dX8_addSignal_99 : decode cX8_addSignal 99 = .ok (.iadd, 1) := by decide +kernel
theorem dX8_addSignal_100 : decode cX8_addSignal 100 = .ok (.putfield 62, 3) := by decide +kernel
theorem dX8_addSignal_103 : decode cX8_addSignal 103 = .ok (.aload_n 0, 1) := by decide +kernel
theorem dX8_addSignal_104 : decode cX8_addSignal 104 = .ok (.getfield 62, 3) := by decide +kernel
theorem dX8_addSignal_107 : decode cX8_addSignal 107 = .ok (.iconst 1, 1) := by decide +kernel
theorem dX8_addSignal_108 : decode cX8_addSignal 108 = .ok (.isub, 1) := by decide +kernel
theorem dX8_addSignal_109 : decode cX8_addSignal 109 = .ok (.ireturn, 1) := by decide +kernel
theorem dX8_beginning_0 : decode cX8_beginning 0 = .ok (.iconst 0, 1) := by decide +kernel
theorem dX8_beginning_1 : decode cX8_beginning 1 = .ok (.istore_n 2, 1) := by decide +kernel
theorem dX8_beginning_2 : decode cX8_beginning 2 = .ok (.iload_n 2, 1) := by decide +kernel
theorem dX8_beginning_3 : decode cX8_beginning 3 = .ok (.aload_n 0, 1) := by decide +kernel
theorem dX8_beginning_4 : decode cX8_beginning 4 = .ok (.getfield 62, 3) := by decide +kernel
theorem dX8_beginning_7 : decode cX8_beginning 7 = .ok (.if_icmp .ge 28, 3) := by decide +kernel
theorem dX8_beginning_10 : decode cX8_beginning 10 = .ok (.iload_n 1, 1) := by decide +kernel
theorem dX8_beginning_11 : decode cX8_beginning 11 = .ok (.ifCond .le 18, 3) := by decide +kernel
theorem dX8_beginning_14 : decode cX8_beginning 14 = .ok (.iload_n 1, 1) := by decide +kernel
theorem dX8_beginning_15 : decode cX8_beginning 15 = .ok (.aload_n 0, 1) := by decide +kernel
theorem dX8_beginning_16 : decode cX8_beginning 16 = .ok (.getfield 9, 3) := by decide +kernel
theorem dX8_beginning_19 : decode cX8_beginning 19 = .ok (.iload_n 2, 1) := by decide +kernel
theorem dX8_beginning_20 : decode cX8_beginning 20 = .ok (.iaload, 1) := by decide +kernel
theorem dX8_beginning_21 : decode cX8_beginning 21 = .ok (.invokestatic 65, 3) := by decide +kernel
theorem dX8_beginning_24 : decode cX8_beginning 24 = .ok (.ifCond .eq 5, 3) := by decide +kernel
theorem dX8_beginning_27 : decode cX8_beginning 27 = .ok (.iload_n 2, 1) := by decide +kernel
theorem dX8_beginning_28 : decode cX8_beginning 28 = .ok (.ireturn, 1) := by decide +kernel
theorem dX8_beginning_29 : decode cX8_beginning 29 = .ok (.iinc 2 1, 3) := by decide +kernel
theorem dX8_beginning_32 : decode cX8_beginning 32 = .ok (.goto (-30), 3) := by decide +kernel
theorem dX8_beginning_35 : decode cX8_beginning 35 = .ok (.iconst (-1), 1) := by decide +kernel
theorem dX8_beginning_36 : decode cX8_beginning 36 = .ok (.ireturn, 1) := by decide +kernel
theorem dX8_behind_0 : decode cX8_behind 0 = .ok (.iload_n 1, 1) := by decide +kernel
theorem dX8_behind_1 : decode cX8_behind 1 = .ok (.iload_n 1, 1) := by decide +kernel
theorem dX8_behind_2 : decode cX8_behind 2 = .ok (.invokestatic 44, 3) := by decide +kernel
theorem dX8_behind_5 : decode cX8_behind 5 = .ok (.aload_n 0, 1) := by decide +kernel
theorem dX8_behind_6 : decode cX8_behind 6 = .ok (.getfield 9, 3) := by decide +kernel
theorem dX8_behind_9 : decode cX8_behind 9 = .ok (.iload_n 2, 1) := by decide +kernel
theorem dX8_behind_10 : decode cX8_behind 10 = .ok (.iaload, 1) := by decide +kernel
theorem dX8_behind_11 : decode cX8_behind 11 = .ok (.invokestatic 44, 3) := by decide +kernel
theorem dX8_behind_14 : decode cX8_behind 14 = .ok (.isub, 1) := by decide +kernel
theorem dX8_behind_15 : decode cX8_behind 15 = .ok (.invokestatic 52, 3) := by decide +kernel
theorem dX8_behind_18 : decode cX8_behind 18 = .ok (.irem, 1) := by decide +kernel
theorem dX8_behind_19 : decode cX8_behind 19 = .ok (.ireturn, 1) := by decide +kernel
theorem dX8_isWhole_0 : decode cX8_isWhole 0 = .ok (.iload_n 1, 1) := by decide +kernel
theorem dX8_isWhole_1 : decode cX8_isWhole 1 = .ok (.istore_n 2, 1) := by decide +kernel
theorem dX8_isWhole_2 : decode cX8_isWhole 2 = .ok (.aload_n 0, 1) := by decide +kernel
theorem dX8_isWhole_3 : decode cX8_isWhole 3 = .ok (.iload_n 2, 1) := by decide +kernel
theorem dX8_isWhole_4 : decode cX8_isWhole 4 = .ok (.invokevirtual 68, 3) := by decide +kernel
theorem dX8_isWhole_7 : decode cX8_isWhole 7 = .ok (.istore_n 3, 1) := by decide +kernel
theorem dX8_isWhole_8 : decode cX8_isWhole 8 = .ok (.iload_n 3, 1) := by decide +kernel
theorem dX8_isWhole_9 : decode cX8_isWhole 9 = .ok (.iconst (-1), 1) := by decide +kernel
theorem dX8_isWhole_10 : decode cX8_isWhole 10 = .ok (.if_icmp .eq 19, 3) := by decide +kernel
theorem dX8_isWhole_13 : decode cX8_isWhole 13 = .ok (.aload_n 0, 1) := by decide +kernel
theorem dX8_isWhole_14 : decode cX8_isWhole 14 = .ok (.iload_n 2, 1) := by decide +kernel
theorem dX8_isWhole_15 : decode cX8_isWhole 15 = .ok (.iload_n 3, 1) := by decide +kernel
theorem dX8_isWhole_16 : decode cX8_isWhole 16 = .ok (.invokevirtual 71, 3) := by decide +kernel
theorem dX8_isWhole_19 : decode cX8_isWhole 19 = .ok (.istore_n 2, 1) := by decide +kernel
theorem dX8_isWhole_20 : decode cX8_isWhole 20 = .ok (.aload_n 0, 1) := by decide +kernel
theorem dX8_isWhole_21 : decode cX8_isWhole 21 = .ok (.iload_n 2, 1) := by decide +kernel
theorem dX8_isWhole_22 : decode cX8_isWhole 22 = .ok (.invokevirtual 68, 3) := by decide +kernel
theorem dX8_isWhole_25 : decode cX8_isWhole 25 = .ok (.istore_n 3, 1) := by decide +kernel
theorem dX8_isWhole_26 : decode cX8_isWhole 26 = .ok (.goto (-18), 3) := by decide +kernel
theorem dX8_isWhole_29 : decode cX8_isWhole 29 = .ok (.iload_n 1, 1) := by decide +kernel
theorem dX8_isWhole_30 : decode cX8_isWhole 30 = .ok (.ifCond .le 11, 3) := by decide +kernel
theorem dX8_isWhole_33 : decode cX8_isWhole 33 = .ok (.iload_n 2, 1) := by decide +kernel
theorem dX8_isWhole_34 : decode cX8_isWhole 34 = .ok (.ifCond .ne 7, 3) := by decide +kernel
theorem dX8_isWhole_37 : decode cX8_isWhole 37 = .ok (.iconst 1, 1) := by decide +kernel
theorem dX8_isWhole_38 : decode cX8_isWhole 38 = .ok (.goto 4, 3) := by decide +kernel
theorem dX8_isWhole_41 : decode cX8_isWhole 41 = .ok (.iconst 0, 1) := by decide +kernel
theorem dX8_isWhole_42 : decode cX8_isWhole 42 = .ok (.ireturn, 1) := by decide +kernel
theorem dX8_read_0 : decode cX8_read 0 = .ok (.aload_n 0, 1) := by decide +kernel
theorem dX8_read_1 : decode cX8_read 1 = .ok (.iconst 0, 1) := by decide +kernel
theorem dX8_read_2 : decode cX8_read 2 = .ok (.putfield 41, 3) := by decide +kernel
theorem dX8_read_5 : decode cX8_read 5 = .ok (.iload_n 1, 1) := by decide +kernel
theorem dX8_read_6 : decode cX8_read 6 = .ok (.ifCond .eq 18, 3) := by decide +kernel
theorem dX8_read_9 : decode cX8_read 9 = .ok (.iload_n 1, 1) := by decide +kernel
theorem dX8_read_10 : decode cX8_read 10 = .ok (.bipush 9, 2) := by decide +kernel
theorem dX8_read_12 : decode cX8_read 12 = .ok (.invokestatic 55, 3) := by decide +kernel
theorem dX8_read_15 : decode cX8_read 15 = .ok (.ifCond .ne 9, 3) := by decide +kernel
theorem dX8_read_18 : decode cX8_read 18 = .ok (.aload_n 0, 1) := by decide +kernel
theorem dX8_read_19 : decode cX8_read 19 = .ok (.iconst 1, 1) := by decide +kernel
theorem dX8_read_20 : decode cX8_read 20 = .ok (.invokevirtual 59, 3) := by decide +kernel
theorem dX8_read_23 : decode cX8_read 23 = .ok (.ireturn, 1) := by decide +kernel
theorem dX8_read_24 : decode cX8_read 24 = .ok (.iload_n 2, 1) := by decide +kernel
theorem dX8_read_25 : decode cX8_read 25 = .ok (.iconst 0, 1) := by decide +kernel
theorem dX8_read_26 : decode cX8_read 26 = .ok (.iconst 2, 1) := by decide +kernel
theorem dX8_read_27 : decode cX8_read 27 = .ok (.invokestatic 48, 3) := by decide +kernel
theorem dX8_read_30 : decode cX8_read 30 = .ok (.ifCond .ne 9, 3) := by decide +kernel
theorem dX8_read_33 : decode cX8_read 33 = .ok (.aload_n 0, 1) := by decide +kernel
theorem dX8_read_34 : decode cX8_read 34 = .ok (.iconst 2, 1) := by decide +kernel
theorem dX8_read_35 : decode cX8_read 35 = .ok (.invokevirtual 59, 3) := by decide +kernel
theorem dX8_read_38 : decode cX8_read 38 = .ok (.ireturn, 1) := by decide +kernel
theorem dX8_read_39 : decode cX8_read 39 = .ok (.iconst 0, 1) := by decide +kernel
theorem dX8_read_40 : decode cX8_read 40 = .ok (.istore_n 3, 1) := by decide +kernel
theorem dX8_read_41 : decode cX8_read 41 = .ok (.iconst (-1), 1) := by decide +kernel
theorem dX8_read_42 : decode cX8_read 42 = .ok (.istore 4, 2) := by decide +kernel
theorem dX8_read_44 : decode cX8_read 44 = .ok (.iload_n 1, 1) := by decide +kernel
theorem dX8_read_45 : decode cX8_read 45 = .ok (.istore 5, 2) := by decide +kernel
theorem dX8_read_47 : decode cX8_read 47 = .ok (.aload_n 0, 1) := by decide +kernel
theorem dX8_read_48 : decode cX8_read 48 = .ok (.iload 5, 2) := by decide +kernel
theorem dX8_read_50 : decode cX8_read 50 = .ok (.invokevirtual 68, 3) := by decide +kernel
theorem dX8_read_53 : decode cX8_read 53 = .ok (.istore 6, 2) := by decide +kernel
theorem dX8_read_55 : decode cX8_read 55 = .ok (.iload 6, 2) := by decide +kernel
theorem dX8_read_57 : decode cX8_read 57 = .ok (.iconst (-1), 1) := by decide +kernel
theorem dX8_read_58 : decode cX8_read 58 = .ok (.if_icmp .eq 31, 3) := by decide +kernel
theorem dX8_read_61 : decode cX8_read 61 = .ok (.aload_n 0, 1) := by decide +kernel
theorem dX8_read_62 : decode cX8_read 62 = .ok (.iload 5, 2) := by decide +kernel
theorem dX8_read_64 : decode cX8_read 64 = .ok (.iload 6, 2) := by decide +kernel
theorem dX8_read_66 : decode cX8_read 66 = .ok (.invokevirtual 71, 3) := by decide +kernel
theorem dX8_read_69 : decode cX8_read 69 = .ok (.istore 5, 2) := by decide +kernel
theorem dX8_read_71 : decode cX8_read 71 = .ok (.iload 6, 2) := by decide +kernel
theorem dX8_read_73 : decode cX8_read 73 = .ok (.istore 4, 2) := by decide +kernel
theorem dX8_read_75 : decode cX8_read 75 = .ok (.iinc 3 1, 3) := by decide +kernel
theorem dX8_read_78 : decode cX8_read 78 = .ok (.aload_n 0, 1) := by decide +kernel
theorem dX8_read_79 : decode cX8_read 79 = .ok (.iload 5, 2) := by decide +kernel
theorem dX8_read_81 : decode cX8_read 81 = .ok (.invokevirtual 68, 3) := by decide +kernel
theorem dX8_read_84 : decode cX8_read 84 = .ok (.istore 6, 2) := by decide +kernel
theorem dX8_read_86 : decode cX8_read 86 = .ok (.goto (-31), 3) := by decide +kernel
theorem dX8_read_89 : decode cX8_read 89 = .ok (.iload_n 2, 1) := by decide +kernel
theorem dX8_read_90 : decode cX8_read 90 = .ok (.ifCond .ne 7, 3) := by decide +kernel
theorem dX8_read_93 : decode cX8_read 93 = .ok (.iload_n 3, 1) := by decide +kernel
theorem dX8_read_94 : decode cX8_read 94 = .ok (.goto 18, 3) := by decide +kernel
theorem dX8_read_97 : decode cX8_read 97 = .ok (.iload_n 2, 1) := by decide +kernel
theorem dX8_read_98 : decode cX8_read 98 = .ok (.iconst 1, 1) := by decide +kernel
theorem dX8_read_99 : decode cX8_read 99 = .ok (.if_icmp .ne 8, 3) := by decide +kernel
theorem dX8_read_102 : decode cX8_read 102 = .ok (.iload 4, 2) := by decide +kernel
theorem dX8_read_104 : decode cX8_read 104 = .ok (.goto 8, 3) := by decide +kernel
theorem dX8_read_107 : decode cX8_read 107 = .ok (.iload 5, 2) := by decide +kernel
theorem dX8_read_109 : decode cX8_read 109 = .ok (.invokestatic 44, 3) := by decide +kernel
theorem dX8_read_112 : decode cX8_read 112 = .ok (.ireturn, 1) := by decide +kernel
theorem dX8_isSignal_0 : decode cX8_isSignal 0 = .ok (.iload_n 1, 1) := by decide +kernel
theorem dX8_isSignal_1 : decode cX8_isSignal 1 = .ok (.iconst 0, 1) := by decide +kernel
theorem dX8_isSignal_2 : decode cX8_isSignal 2 = .ok (.aload_n 0, 1) := by decide +kernel
theorem dX8_isSignal_3 : decode cX8_isSignal 3 = .ok (.getfield 62, 3) := by decide +kernel
theorem dX8_isSignal_6 : decode cX8_isSignal 6 = .ok (.iconst 1, 1) := by decide +kernel
theorem dX8_isSignal_7 : decode cX8_isSignal 7 = .ok (.isub, 1) := by decide +kernel
theorem dX8_isSignal_8 : decode cX8_isSignal 8 = .ok (.invokestatic 48, 3) := by decide +kernel
theorem dX8_isSignal_11 : decode cX8_isSignal 11 = .ok (.ireturn, 1) := by decide +kernel
theorem dX8_heard_0 : decode cX8_heard 0 = .ok (.aload_n 0, 1) := by decide +kernel
theorem dX8_heard_1 : decode cX8_heard 1 = .ok (.iconst 0, 1) := by decide +kernel
theorem dX8_heard_2 : decode cX8_heard 2 = .ok (.putfield 41, 3) := by decide +kernel
theorem dX8_heard_5 : decode cX8_heard 5 = .ok (.aload_n 0, 1) := by decide +kernel
theorem dX8_heard_6 : decode cX8_heard 6 = .ok (.iload_n 1, 1) := by decide +kernel
theorem dX8_heard_7 : decode cX8_heard 7 = .ok (.invokevirtual 75, 3) := by decide +kernel
theorem dX8_heard_10 : decode cX8_heard 10 = .ok (.ifCond .ne 9, 3) := by decide +kernel
theorem dX8_heard_13 : decode cX8_heard 13 = .ok (.aload_n 0, 1) := by decide +kernel
theorem dX8_heard_14 : decode cX8_heard 14 = .ok (.iconst 1, 1) := by decide +kernel
theorem dX8_heard_15 : decode cX8_heard 15 = .ok (.invokevirtual 59, 3) := by decide +kernel
theorem dX8_heard_18 : decode cX8_heard 18 = .ok (.ireturn, 1) := by decide +kernel
theorem dX8_heard_19 : decode cX8_heard 19 = .ok (.aload_n 0, 1) := by decide +kernel
theorem dX8_heard_20 : decode cX8_heard 20 = .ok (.getfield 9, 3) := by decide +kernel
theorem dX8_heard_23 : decode cX8_heard 23 = .ok (.iload_n 1, 1) := by decide +kernel
theorem dX8_heard_24 : decode cX8_heard 24 = .ok (.iaload, 1) := by decide +kernel
theorem dX8_heard_25 : decode cX8_heard 25 = .ok (.invokestatic 44, 3) := by decide +kernel
theorem dX8_heard_28 : decode cX8_heard 28 = .ok (.istore_n 2, 1) := by decide +kernel
theorem dX8_heard_29 : decode cX8_heard 29 = .ok (.iconst 0, 1) := by decide +kernel
theorem dX8_heard_30 : decode cX8_heard 30 = .ok (.istore_n 3, 1) := by decide +kernel
theorem dX8_heard_31 : decode cX8_heard 31 = .ok (.iconst 0, 1) := by decide +kernel
theorem dX8_heard_32 : decode cX8_heard 32 = .ok (.istore 4, 2) := by decide +kernel
theorem dX8_heard_34 : decode cX8_heard 34 = .ok (.iload 4, 2) := by decide +kernel
theorem dX8_heard_36 : decode cX8_heard 36 = .ok (.iload_n 2, 1) := by decide +kernel
theorem dX8_heard_37 : decode cX8_heard 37 = .ok (.if_icmp .ge 71, 3) := by decide +kernel
theorem dX8_heard_40 : decode cX8_heard 40 = .ok (.aload_n 0, 1) := by decide +kernel
theorem dX8_heard_41 : decode cX8_heard 41 = .ok (.getfield 9, 3) := by decide +kernel
theorem dX8_heard_44 : decode cX8_heard 44 = .ok (.iload_n 1, 1) := by decide +kernel
theorem dX8_heard_45 : decode cX8_heard 45 = .ok (.iaload, 1) := by decide +kernel
theorem dX8_heard_46 : decode cX8_heard 46 = .ok (.iload_n 2, 1) := by decide +kernel
theorem dX8_heard_47 : decode cX8_heard 47 = .ok (.iconst 1, 1) := by decide +kernel
theorem dX8_heard_48 : decode cX8_heard 48 = .ok (.isub, 1) := by decide +kernel
theorem dX8_heard_49 : decode cX8_heard 49 = .ok (.iload 4, 2) := by decide +kernel
theorem dX8_heard_51 : decode cX8_heard 51 = .ok (.isub, 1) := by decide +kernel
theorem dX8_heard_52 : decode cX8_heard 52 = .ok (.invokestatic 52, 3) := by decide +kernel
theorem dX8_heard_55 : decode cX8_heard 55 = .ok (.idiv, 1) := by decide +kernel
theorem dX8_heard_56 : decode cX8_heard 56 = .ok (.bipush 10, 2) := by decide +kernel
theorem dX8_heard_58 : decode cX8_heard 58 = .ok (.irem, 1) := by decide +kernel
theorem dX8_heard_59 : decode cX8_heard 59 = .ok (.istore 5, 2) := by decide +kernel
theorem dX8_heard_61 : decode cX8_heard 61 = .ok (.aload_n 0, 1) := by decide +kernel
theorem dX8_heard_62 : decode cX8_heard 62 = .ok (.getfield 13, 3) := by decide +kernel
theorem dX8_heard_65 : decode cX8_heard 65 = .ok (.aload_n 0, 1) := by decide +kernel
theorem dX8_heard_66 : decode cX8_heard 66 = .ok (.getfield 34, 3) := by decide +kernel
theorem dX8_heard_69 : decode cX8_heard 69 = .ok (.getfield 79, 3) := by decide +kernel
theorem dX8_heard_72 : decode cX8_heard 72 = .ok (.iload 4, 2) := by decide +kernel
theorem dX8_heard_74 : decode cX8_heard 74 = .ok (.iadd, 1) := by decide +kernel
theorem dX8_heard_75 : decode cX8_heard 75 = .ok (.bipush 20, 2) := by decide +kernel
theorem dX8_heard_77 : decode cX8_heard 77 = .ok (.irem, 1) := by decide +kernel
theorem dX8_heard_78 : decode cX8_heard 78 = .ok (.iaload, 1) := by decide +kernel
theorem dX8_heard_79 : decode cX8_heard 79 = .ok (.iload 5, 2) := by decide +kernel
theorem dX8_heard_81 : decode cX8_heard 81 = .ok (.iconst 1, 1) := by decide +kernel
theorem dX8_heard_82 : decode cX8_heard 82 = .ok (.if_icmp .ne 7, 3) := by decide +kernel
theorem dX8_heard_85 : decode cX8_heard 85 = .ok (.iconst 4, 1) := by decide +kernel
theorem dX8_heard_86 : decode cX8_heard 86 = .ok (.goto 5, 3) := by decide +kernel
theorem dX8_heard_89 : decode cX8_heard 89 = .ok (.bipush 7, 2) := by decide +kernel
theorem dX8_heard_91 : decode cX8_heard 91 = .ok (.if_icmp .ge 11, 3) := by decide +kernel
theorem dX8_heard_94 : decode cX8_heard 94 = .ok (.bipush 10, 2) := by decide +kernel
theorem dX8_heard_96 : decode cX8_heard 96 = .ok (.iload_n 3, 1) := by decide +kernel
theorem dX8_heard_97 : decode cX8_heard 97 = .ok (.imul, 1) := by decide +kernel
theorem dX8_heard_98 : decode cX8_heard 98 = .ok (.iload 5, 2) := by decide +kernel
theorem dX8_heard_100 : decode cX8_heard 100 = .ok (.iadd, 1) := by decide +kernel
theorem dX8_heard_101 : decode cX8_heard 101 = .ok (.istore_n 3, 1) := by decide +kernel
theorem dX8_heard_102 : decode cX8_heard 102 = .ok (.iinc 4 1, 3) := by decide +kernel
theorem dX8_heard_105 : decode cX8_heard 105 = .ok (.goto (-71), 3) := by decide +kernel
theorem dX8_heard_108 : decode cX8_heard 108 = .ok (.iload_n 3, 1) := by decide +kernel
theorem dX8_heard_109 : decode cX8_heard 109 = .ok (.ireturn, 1) := by decide +kernel
theorem dX8_safe_0 : decode cX8_safe 0 = .ok (.aload_n 0, 1) := by decide +kernel
theorem dX8_safe_1 : decode cX8_safe 1 = .ok (.iconst 0, 1) := by decide +kernel
theorem dX8_safe_2 : decode cX8_safe 2 = .ok (.putfield 41, 3) := by decide +kernel
theorem dX8_safe_5 : decode cX8_safe 5 = .ok (.aload_n 0, 1) := by decide +kernel
theorem dX8_safe_6 : decode cX8_safe 6 = .ok (.iload_n 1, 1) := by decide +kernel
theorem dX8_safe_7 : decode cX8_safe 7 = .ok (.invokevirtual 75, 3) := by decide +kernel
theorem dX8_safe_10 : decode cX8_safe 10 = .ok (.ifCond .ne 9, 3) := by decide +kernel
theorem dX8_safe_13 : decode cX8_safe 13 = .ok (.aload_n 0, 1) := by decide +kernel
theorem dX8_safe_14 : decode cX8_safe 14 = .ok (.iconst 1, 1) := by decide +kernel
theorem dX8_safe_15 : decode cX8_safe 15 = .ok (.invokevirtual 59, 3) := by decide +kernel
theorem dX8_safe_18 : decode cX8_safe 18 = .ok (.ireturn, 1) := by decide +kernel
theorem dX8_safe_19 : decode cX8_safe 19 = .ok (.iconst 0, 1) := by decide +kernel
theorem dX8_safe_20 : decode cX8_safe 20 = .ok (.istore_n 2, 1) := by decide +kernel
theorem dX8_safe_21 : decode cX8_safe 21 = .ok (.iconst 0, 1) := by decide +kernel
theorem dX8_safe_22 : decode cX8_safe 22 = .ok (.istore_n 3, 1) := by decide +kernel
theorem dX8_safe_23 : decode cX8_safe 23 = .ok (.iload_n 3, 1) := by decide +kernel
theorem dX8_safe_24 : decode cX8_safe 24 = .ok (.aload_n 0, 1) := by decide +kernel
theorem dX8_safe_25 : decode cX8_safe 25 = .ok (.getfield 9, 3) := by decide +kernel
theorem dX8_safe_28 : decode cX8_safe 28 = .ok (.iload_n 1, 1) := by decide +kernel
theorem dX8_safe_29 : decode cX8_safe 29 = .ok (.iaload, 1) := by decide +kernel
theorem dX8_safe_30 : decode cX8_safe 30 = .ok (.invokestatic 44, 3) := by decide +kernel
theorem dX8_safe_33 : decode cX8_safe 33 = .ok (.if_icmp .ge 54, 3) := by decide +kernel
theorem dX8_safe_36 : decode cX8_safe 36 = .ok (.iload_n 2, 1) := by decide +kernel
theorem dX8_safe_37 : decode cX8_safe 37 = .ok (.aload_n 0, 1) := by decide +kernel
theorem dX8_safe_38 : decode cX8_safe 38 = .ok (.aload_n 0, 1) := by decide +kernel
theorem dX8_safe_39 : decode cX8_safe 39 = .ok (.getfield 9, 3) := by decide +kernel
theorem dX8_safe_42 : decode cX8_safe 42 = .ok (.iload_n 1, 1) := by decide +kernel
theorem dX8_safe_43 : decode cX8_safe 43 = .ok (.iaload, 1) := by decide +kernel
theorem dX8_safe_44 : decode cX8_safe 44 = .ok (.iload_n 3, 1) := by decide +kernel
theorem dX8_safe_45 : decode cX8_safe 45 = .ok (.iconst 1, 1) := by decide +kernel
theorem dX8_safe_46 : decode cX8_safe 46 = .ok (.iadd, 1) := by decide +kernel
theorem dX8_safe_47 : decode cX8_safe 47 = .ok (.invokestatic 52, 3) := by decide +kernel
theorem dX8_safe_50 : decode cX8_safe 50 = .ok (.idiv, 1) := by decide +kernel
theorem dX8_safe_51 : decode cX8_safe 51 = .ok (.iload_n 3, 1) := by decide +kernel
theorem dX8_safe_52 : decode cX8_safe 52 = .ok (.invokestatic 52, 3) := by decide +kernel
theorem dX8_safe_55 : decode cX8_safe 55 = .ok (.imul, 1) := by decide +kernel
theorem dX8_safe_56 : decode cX8_safe 56 = .ok (.aload_n 0, 1) := by decide +kernel
theorem dX8_safe_57 : decode cX8_safe 57 = .ok (.getfield 9, 3) := by decide +kernel
theorem dX8_safe_60 : decode cX8_safe 60 = .ok (.iload_n 1, 1) := by decide +kernel
theorem dX8_safe_61 : decode cX8_safe 61 = .ok (.iaload, 1) := by decide +kernel
theorem dX8_safe_62 : decode cX8_safe 62 = .ok (.iload_n 3, 1) := by decide +kernel
theorem dX8_safe_63 : decode cX8_safe 63 = .ok (.invokestatic 52, 3) := by decide +kernel
theorem dX8_safe_66 : decode cX8_safe 66 = .ok (.irem, 1) := by decide +kernel
theorem dX8_safe_67 : decode cX8_safe 67 = .ok (.iadd, 1) := by decide +kernel
theorem dX8_safe_68 : decode cX8_safe 68 = .ok (.invokevirtual 82, 3) := by decide +kernel
theorem dX8_safe_71 : decode cX8_safe 71 = .ok (.ifCond .eq 7, 3) := by decide +kernel
theorem dX8_safe_74 : decode cX8_safe 74 = .ok (.iconst 0, 1) := by decide +kernel
theorem dX8_safe_75 : decode cX8_safe 75 = .ok (.goto 4, 3) := by decide +kernel
theorem dX8_safe_78 : decode cX8_safe 78 = .ok (.iconst 1, 1) := by decide +kernel
theorem dX8_safe_79 : decode cX8_safe 79 = .ok (.iadd, 1) := by decide +kernel
theorem dX8_safe_80 : decode cX8_safe 80 = .ok (.istore_n 2, 1) := by decide +kernel
theorem dX8_safe_81 : decode cX8_safe 81 = .ok (.iinc 3 1, 3) := by decide +kernel
theorem dX8_safe_84 : decode cX8_safe 84 = .ok (.goto (-61), 3) := by decide +kernel
theorem dX8_safe_87 : decode cX8_safe 87 = .ok (.iload_n 2, 1) := by decide +kernel
theorem dX8_safe_88 : decode cX8_safe 88 = .ok (.ireturn, 1) := by decide +kernel
theorem dX8_rows_0 : decode cX8_rows 0 = .ok (.aload_n 0, 1) := by decide +kernel
theorem dX8_rows_1 : decode cX8_rows 1 = .ok (.iconst 0, 1) := by decide +kernel
theorem dX8_rows_2 : decode cX8_rows 2 = .ok (.putfield 41, 3) := by decide +kernel
theorem dX8_rows_5 : decode cX8_rows 5 = .ok (.iload_n 1, 1) := by decide +kernel
theorem dX8_rows_6 : decode cX8_rows 6 = .ok (.iconst 0, 1) := by decide +kernel
theorem dX8_rows_7 : decode cX8_rows 7 = .ok (.bipush 20, 2) := by decide +kernel
theorem dX8_rows_9 : decode cX8_rows 9 = .ok (.invokestatic 48, 3) := by decide +kernel
theorem dX8_rows_12 : decode cX8_rows 12 = .ok (.ifCond .ne 9, 3) := by decide +kernel
theorem dX8_rows_15 : decode cX8_rows 15 = .ok (.aload_n 0, 1) := by decide +kernel
theorem dX8_rows_16 : decode cX8_rows 16 = .ok (.iconst 1, 1) := by decide +kernel
theorem dX8_rows_17 : decode cX8_rows 17 = .ok (.invokevirtual 59, 3) := by decide +kernel
theorem dX8_rows_20 : decode cX8_rows 20 = .ok (.ireturn, 1) := by decide +kernel
theorem dX8_rows_21 : decode cX8_rows 21 = .ok (.bipush 21, 2) := by decide +kernel
theorem dX8_rows_23 : decode cX8_rows 23 = .ok (.newarray .int, 2) := by decide +kernel
theorem dX8_rows_25 : decode cX8_rows 25 = .ok (.astore_n 2, 1) := by decide +kernel
theorem dX8_rows_26 : decode cX8_rows 26 = .ok (.aload_n 2, 1) := by decide +kernel
theorem dX8_rows_27 : decode cX8_rows 27 = .ok (.iconst 0, 1) := by decide +kernel
theorem dX8_rows_28 : decode cX8_rows 28 = .ok (.iconst 1, 1) := by decide +kernel
theorem dX8_rows_29 : decode cX8_rows 29 = .ok (.iastore, 1) := by decide +kernel
theorem dX8_rows_30 : decode cX8_rows 30 = .ok (.iconst 1, 1) := by decide +kernel
theorem dX8_rows_31 : decode cX8_rows 31 = .ok (.istore_n 3, 1) := by decide +kernel
theorem dX8_rows_32 : decode cX8_rows 32 = .ok (.iload_n 3, 1) := by decide +kernel
theorem dX8_rows_33 : decode cX8_rows 33 = .ok (.iload_n 1, 1) := by decide +kernel
theorem dX8_rows_34 : decode cX8_rows 34 = .ok (.if_icmp .gt 65, 3) := by decide +kernel
theorem dX8_rows_37 : decode cX8_rows 37 = .ok (.iconst 0, 1) := by decide +kernel
theorem dX8_rows_38 : decode cX8_rows 38 = .ok (.istore 4, 2) := by decide +kernel
theorem dX8_rows_40 : decode cX8_rows 40 = .ok (.iload 4, 2) := by decide +kernel
theorem dX8_rows_42 : decode cX8_rows 42 = .ok (.aload_n 0, 1) := by decide +kernel
theorem dX8_rows_43 : decode cX8_rows 43 = .ok (.getfield 62, 3) := by decide +kernel
theorem dX8_rows_46 : decode cX8_rows 46 = .ok (.if_icmp .ge 47, 3) := by decide +kernel
theorem dX8_rows_49 : decode cX8_rows 49 = .ok (.aload_n 2, 1) := by decide +kernel
theorem dX8_rows_50 : decode cX8_rows 50 = .ok (.iload_n 3, 1) := by decide +kernel
theorem dX8_rows_51 : decode cX8_rows 51 = .ok (.dup2, 1) := by decide +kernel
theorem dX8_rows_52 : decode cX8_rows 52 = .ok (.iaload, 1) := by decide +kernel
theorem dX8_rows_53 : decode cX8_rows 53 = .ok (.aload_n 0, 1) := by decide +kernel
theorem dX8_rows_54 : decode cX8_rows 54 = .ok (.getfield 9, 3) := by decide +kernel
theorem dX8_rows_57 : decode cX8_rows 57 = .ok (.iload 4, 2) := by decide +kernel
theorem dX8_rows_59 : decode cX8_rows 59 = .ok (.iaload, 1) := by decide +kernel
theorem dX8_rows_60 : decode cX8_rows 60 = .ok (.invokestatic 44, 3) := by decide +kernel
theorem dX8_rows_63 : decode cX8_rows 63 = .ok (.iload_n 3, 1) := by decide +kernel
theorem dX8_rows_64 : decode cX8_rows 64 = .ok (.if_icmp .le 7, 3) := by decide +kernel
theorem dX8_rows_67 : decode cX8_rows 67 = .ok (.iconst 0, 1) := by decide +kernel
theorem dX8_rows_68 : decode cX8_rows 68 = .ok (.goto 17, 3) := by decide +kernel
theorem dX8_rows_71 : decode cX8_rows 71 = .ok (.aload_n 2, 1) := by decide +kernel
theorem dX8_rows_72 : decode cX8_rows 72 = .ok (.iload_n 3, 1) := by decide +kernel
theorem dX8_rows_73 : decode cX8_rows 73 = .ok (.aload_n 0, 1) := by decide +kernel
theorem dX8_rows_74 : decode cX8_rows 74 = .ok (.getfield 9, 3) := by decide +kernel
theorem dX8_rows_77 : decode cX8_rows 77 = .ok (.iload 4, 2) := by decide +kernel
theorem dX8_rows_79 : decode cX8_rows 79 = .ok (.iaload, 1) := by decide +kernel
theorem dX8_rows_80 : decode cX8_rows 80 = .ok (.invokestatic 44, 3) := by decide +kernel
theorem dX8_rows_83 : decode cX8_rows 83 = .ok (.isub, 1) := by decide +kernel
theorem dX8_rows_84 : decode cX8_rows 84 = .ok (.iaload, 1) := by decide +kernel
theorem dX8_rows_85 : decode cX8_rows 85 = .ok (.iadd, 1) := by decide +kernel
theorem dX8_rows_86 : decode cX8_rows 86 = .ok (.iastore, 1) := by decide +kernel
theorem dX8_rows_87 : decode cX8_rows 87 = .ok (.iinc 4 1, 3) := by decide +kernel
theorem dX8_rows_90 : decode cX8_rows 90 = .ok (.goto (-50), 3) := by decide +kernel
theorem dX8_rows_93 : decode cX8_rows 93 = .ok (.iinc 3 1, 3) := by decide +kernel
theorem dX8_rows_96 : decode cX8_rows 96 = .ok (.goto (-64), 3) := by decide +kernel
theorem dX8_rows_99 : decode cX8_rows 99 = .ok (.aload_n 2, 1) := by decide +kernel
theorem dX8_rows_100 : decode cX8_rows 100 = .ok (.iload_n 1, 1) := by decide +kernel
theorem dX8_rows_101 : decode cX8_rows 101 = .ok (.iaload, 1) := by decide +kernel
theorem dX8_rows_102 : decode cX8_rows 102 = .ok (.ireturn, 1) := by decide +kernel
theorem dX8_setFog_0 : decode cX8_setFog 0 = .ok (.aload_n 0, 1) := by decide +kernel
theorem dX8_setFog_1 : decode cX8_setFog 1 = .ok (.iconst 0, 1) := by decide +kernel
theorem dX8_setFog_2 : decode cX8_setFog 2 = .ok (.putfield 41, 3) := by decide +kernel
theorem dX8_setFog_5 : decode cX8_setFog 5 = .ok (.iload_n 1, 1) := by decide +kernel
theorem dX8_setFog_6 : decode cX8_setFog 6 = .ok (.iconst 0, 1) := by decide +kernel
theorem dX8_setFog_7 : decode cX8_setFog 7 = .ok (.bipush 19, 2) := by decide +kernel
theorem dX8_setFog_9 : decode cX8_setFog 9 = .ok (.invokestatic 48, 3) := by decide +kernel
theorem dX8_setFog_12 : decode cX8_setFog 12 = .ok (.ifCond .ne 9, 3) := by decide +kernel
theorem dX8_setFog_15 : decode cX8_setFog 15 = .ok (.aload_n 0, 1) := by decide +kernel
theorem dX8_setFog_16 : decode cX8_setFog 16 = .ok (.iconst 1, 1) := by decide +kernel
theorem dX8_setFog_17 : decode cX8_setFog 17 = .ok (.invokevirtual 59, 3) := by decide +kernel
theorem dX8_setFog_20 : decode cX8_setFog 20 = .ok (.ireturn, 1) := by decide +kernel
theorem dX8_setFog_21 : decode cX8_setFog 21 = .ok (.iload_n 2, 1) := by decide +kernel
theorem dX8_setFog_22 : decode cX8_setFog 22 = .ok (.iconst 0, 1) := by decide +kernel
theorem dX8_setFog_23 : decode cX8_setFog 23 = .ok (.bipush 9, 2) := by decide +kernel
theorem dX8_setFog_25 : decode cX8_setFog 25 = .ok (.invokestatic 48, 3) := by decide +kernel
theorem dX8_setFog_28 : decode cX8_setFog 28 = .ok (.ifCond .ne 9, 3) := by decide +kernel
theorem dX8_setFog_31 : decode cX8_setFog 31 = .ok (.aload_n 0, 1) := by decide +kernel
theorem dX8_setFog_32 : decode cX8_setFog 32 = .ok (.iconst 2, 1) := by decide +kernel
theorem dX8_setFog_33 : decode cX8_setFog 33 = .ok (.invokevirtual 59, 3) := by decide +kernel
theorem dX8_setFog_36 : decode cX8_setFog 36 = .ok (.ireturn, 1) := by decide +kernel
theorem dX8_setFog_37 : decode cX8_setFog 37 = .ok (.aload_n 0, 1) := by decide +kernel
theorem dX8_setFog_38 : decode cX8_setFog 38 = .ok (.getfield 13, 3) := by decide +kernel
theorem dX8_setFog_41 : decode cX8_setFog 41 = .ok (.iload_n 1, 1) := by decide +kernel
theorem dX8_setFog_42 : decode cX8_setFog 42 = .ok (.iaload, 1) := by decide +kernel
theorem dX8_setFog_43 : decode cX8_setFog 43 = .ok (.istore_n 3, 1) := by decide +kernel
theorem dX8_setFog_44 : decode cX8_setFog 44 = .ok (.aload_n 0, 1) := by decide +kernel
theorem dX8_setFog_45 : decode cX8_setFog 45 = .ok (.getfield 13, 3) := by decide +kernel
theorem dX8_setFog_48 : decode cX8_setFog 48 = .ok (.iload_n 1, 1) := by decide +kernel
theorem dX8_setFog_49 : decode cX8_setFog 49 = .ok (.iload_n 2, 1) := by decide +kernel
theorem dX8_setFog_50 : decode cX8_setFog 50 = .ok (.iastore, 1) := by decide +kernel
theorem dX8_setFog_51 : decode cX8_setFog 51 = .ok (.iload_n 3, 1) := by decide +kernel
theorem dX8_setFog_52 : decode cX8_setFog 52 = .ok (.ireturn, 1) := by decide +kernel
theorem dX8_rebuild_0 : decode cX8_rebuild 0 = .ok (.aload_n 0, 1) := by decide +kernel
theorem dX8_rebuild_1 : decode cX8_rebuild 1 = .ok (.iconst 0, 1) := by decide +kernel
theorem dX8_rebuild_2 : decode cX8_rebuild 2 = .ok (.putfield 41, 3) := by decide +kernel
theorem dX8_rebuild_5 : decode cX8_rebuild 5 = .ok (.iload_n 1, 1) := by decide +kernel
theorem dX8_rebuild_6 : decode cX8_rebuild 6 = .ok (.iconst 4, 1) := by decide +kernel
theorem dX8_rebuild_7 : decode cX8_rebuild 7 = .ok (.bipush 30, 2) := by decide +kernel
theorem dX8_rebuild_9 : decode cX8_rebuild 9 = .ok (.invokestatic 48, 3) := by decide +kernel
theorem dX8_rebuild_12 : decode cX8_rebuild 12 = .ok (.ifCond .eq 15, 3) := by decide +kernel
theorem dX8_rebuild_15 : decode cX8_rebuild 15 = .ok (.iload_n 2, 1) := by decide +kernel
theorem dX8_rebuild_16 : decode cX8_rebuild 16 = .ok (.bipush 10, 2) := by decide +kernel
theorem dX8_rebuild_18 : decode cX8_rebuild 18 = .ok (.sipush 500, 3) := by decide +kernel
theorem dX8_rebuild_21 : decode cX8_rebuild 21 = .ok (.invokestatic 48, 3) := by decide +kernel
theorem dX8_rebuild_24 : decode cX8_rebuild 24 = .ok (.ifCond .ne 9, 3) := by decide +kernel
theorem dX8_rebuild_27 : decode cX8_rebuild 27 = .ok (.aload_n 0, 1) := by decide +kernel
theorem dX8_rebuild_28 : decode cX8_rebuild 28 = .ok (.iconst 1, 1) := by decide +kernel
theorem dX8_rebuild_29 : decode cX8_rebuild 29 = .ok (.invokevirtual 59, 3) := by decide +kernel
theorem dX8_rebuild_32 : decode cX8_rebuild 32 = .ok (.ireturn, 1) := by decide +kernel
theorem dX8_rebuild_33 : decode cX8_rebuild 33 = .ok (.aload_n 0, 1) := by decide +kernel
theorem dX8_rebuild_34 : decode cX8_rebuild 34 = .ok (.getfield 34, 3) := by decide +kernel
theorem dX8_rebuild_37 : decode cX8_rebuild 37 = .ok (.iconst 1, 1) := by decide +kernel
theorem dX8_rebuild_38 : decode cX8_rebuild 38 = .ok (.invokevirtual 85, 3) := by decide +kernel
theorem dX8_rebuild_41 : decode cX8_rebuild 41 = .ok (.ifCond .le 9, 3) := by decide +kernel
theorem dX8_rebuild_44 : decode cX8_rebuild 44 = .ok (.aload_n 0, 1) := by decide +kernel
theorem dX8_rebuild_45 : decode cX8_rebuild 45 = .ok (.iconst 2, 1) := by decide +kernel
theorem dX8_rebuild_46 : decode cX8_rebuild 46 = .ok (.invokevirtual 59, 3) := by decide +kernel
theorem dX8_rebuild_49 : decode cX8_rebuild 49 = .ok (.ireturn, 1) := by decide +kernel
theorem dX8_rebuild_50 : decode cX8_rebuild 50 = .ok (.aload_n 0, 1) := by decide +kernel
theorem dX8_rebuild_51 : decode cX8_rebuild 51 = .ok (.getfield 20, 3) := by decide +kernel
theorem dX8_rebuild_54 : decode cX8_rebuild 54 = .ok (.istore_n 3, 1) := by decide +kernel
theorem dX8_rebuild_55 : decode cX8_rebuild 55 = .ok (.aload_n 0, 1) := by decide +kernel
theorem dX8_rebuild_56 : decode cX8_rebuild 56 = .ok (.iload_n 1, 1) := by decide +kernel
theorem dX8_rebuild_57 : decode cX8_rebuild 57 = .ok (.putfield 16, 3) := by decide +kernel
theorem dX8_rebuild_60 : decode cX8_rebuild 60 = .ok (.aload_n 0, 1) := by decide +kernel
theorem dX8_rebuild_61 : decode cX8_rebuild 61 = .ok (.iload_n 2, 1) := by decide +kernel
theorem dX8_rebuild_62 : decode cX8_rebuild 62 = .ok (.putfield 20, 3) := by decide +kernel
theorem dX8_rebuild_65 : decode cX8_rebuild 65 = .ok (.iload_n 3, 1) := by decide +kernel
theorem dX8_rebuild_66 : decode cX8_rebuild 66 = .ok (.ireturn, 1) := by decide +kernel
theorem dX8_setToll_0 : decode cX8_setToll 0 = .ok (.aload_n 0, 1) := by decide +kernel
theorem dX8_setToll_1 : decode cX8_setToll 1 = .ok (.iconst 0, 1) := by decide +kernel
theorem dX8_setToll_2 : decode cX8_setToll 2 = .ok (.putfield 41, 3) := by decide +kernel
theorem dX8_setToll_5 : decode cX8_setToll 5 = .ok (.iload_n 1, 1) := by decide +kernel
theorem dX8_setToll_6 : decode cX8_setToll 6 = .ok (.iconst 0, 1) := by decide +kernel
theorem dX8_setToll_7 : decode cX8_setToll 7 = .ok (.bipush 9, 2) := by decide +kernel
theorem dX8_setToll_9 : decode cX8_setToll 9 = .ok (.invokestatic 48, 3) := by decide +kernel
theorem dX8_setToll_12 : decode cX8_setToll 12 = .ok (.ifCond .eq 13, 3) := by decide +kernel
theorem dX8_setToll_15 : decode cX8_setToll 15 = .ok (.iload_n 2, 1) := by decide +kernel
theorem dX8_setToll_16 : decode cX8_setToll 16 = .ok (.iconst 0, 1) := by decide +kernel
theorem dX8_setToll_17 : decode cX8_setToll 17 = .ok (.bipush 9, 2) := by decide +kernel
theorem dX8_setToll_19 : decode cX8_setToll 19 = .ok (.invokestatic 48, 3) := by decide +kernel
theorem dX8_setToll_22 : decode cX8_setToll 22 = .ok (.ifCond .ne 9, 3) := by decide +kernel
theorem dX8_setToll_25 : decode cX8_setToll 25 = .ok (.aload_n 0, 1) := by decide +kernel
theorem dX8_setToll_26 : decode cX8_setToll 26 = .ok (.iconst 1, 1) := by decide +kernel
theorem dX8_setToll_27 : decode cX8_setToll 27 = .ok (.invokevirtual 59, 3) := by decide +kernel
theorem dX8_setToll_30 : decode cX8_setToll 30 = .ok (.ireturn, 1) := by decide +kernel
theorem dX8_setToll_31 : decode cX8_setToll 31 = .ok (.bipush 10, 2) := by decide +kernel
theorem dX8_setToll_33 : decode cX8_setToll 33 = .ok (.aload_n 0, 1) := by decide +kernel
theorem dX8_setToll_34 : decode cX8_setToll 34 = .ok (.getfield 23, 3) := by decide +kernel
theorem dX8_setToll_37 : decode cX8_setToll 37 = .ok (.imul, 1) := by decide +kernel
theorem dX8_setToll_38 : decode cX8_setToll 38 = .ok (.aload_n 0, 1) := by decide +kernel
theorem dX8_setToll_39 : decode cX8_setToll 39 = .ok (.getfield 26, 3) := by decide +kernel
theorem dX8_setToll_42 : decode cX8_setToll 42 = .ok (.iadd, 1) := by decide +kernel
theorem dX8_setToll_43 : decode cX8_setToll 43 = .ok (.istore_n 3, 1) := by decide +kernel
theorem dX8_setToll_44 : decode cX8_setToll 44 = .ok (.aload_n 0, 1) := by decide +kernel
theorem dX8_setToll_45 : decode cX8_setToll 45 = .ok (.iload_n 1, 1) := by decide +kernel
theorem dX8_setToll_46 : decode cX8_setToll 46 = .ok (.putfield 23, 3) := by decide +kernel
theorem dX8_setToll_49 : decode cX8_setToll 49 = .ok (.aload_n 0, 1) := by decide +kernel
theorem dX8_setToll_50 : decode cX8_setToll 50 = .ok (.iload_n 2, 1) := by decide +kernel
theorem dX8_setToll_51 : decode cX8_setToll 51 = .ok (.putfield 26, 3) := by decide +kernel
theorem dX8_setToll_54 : decode cX8_setToll 54 = .ok (.iload_n 3, 1) := by decide +kernel
theorem dX8_setToll_55 : decode cX8_setToll 55 = .ok (.ireturn, 1) := by decide +kernel
theorem dX8_change_0 : decode cX8_change 0 = .ok (.aload_n 0, 1) := by decide +kernel
theorem dX8_change_1 : decode cX8_change 1 = .ok (.iconst 0, 1) := by decide +kernel
theorem dX8_change_2 : decode cX8_change 2 = .ok (.putfield 41, 3) := by decide +kernel
theorem dX8_change_5 : decode cX8_change 5 = .ok (.aload_n 0, 1) := by decide +kernel
theorem dX8_change_6 : decode cX8_change 6 = .ok (.getfield 34, 3) := by decide +kernel
theorem dX8_change_9 : decode cX8_change 9 = .ok (.iconst 1, 1) := by decide +kernel
theorem dX8_change_10 : decode cX8_change 10 = .ok (.aload_n 0, 1) := by decide +kernel
theorem dX8_change_11 : decode cX8_change 11 = .ok (.getfield 34, 3) := by decide +kernel
theorem dX8_change_14 : decode cX8_change 14 = .ok (.getfield 88, 3) := by decide +kernel
theorem dX8_change_17 : decode cX8_change 17 = .ok (.isub, 1) := by decide +kernel
theorem dX8_change_18 : decode cX8_change 18 = .ok (.putfield 88, 3) := by decide +kernel
theorem dX8_change_21 : decode cX8_change 21 = .ok (.aload_n 0, 1) := by decide +kernel
theorem dX8_change_22 : decode cX8_change 22 = .ok (.getfield 34, 3) := by decide +kernel
theorem dX8_change_25 : decode cX8_change 25 = .ok (.getfield 88, 3) := by decide +kernel
theorem dX8_change_28 : decode cX8_change 28 = .ok (.ireturn, 1) := by decide +kernel
theorem dX8_come_0 : decode cX8_come 0 = .ok (.aload_n 0, 1) := by decide +kernel
theorem dX8_come_1 : decode cX8_come 1 = .ok (.iconst 0, 1) := by decide +kernel
theorem dX8_come_2 : decode cX8_come 2 = .ok (.putfield 41, 3) := by decide +kernel
theorem dX8_come_5 : decode cX8_come 5 = .ok (.iload_n 1, 1) := by decide +kernel
theorem dX8_come_6 : decode cX8_come 6 = .ok (.iconst 0, 1) := by decide +kernel
theorem dX8_come_7 : decode cX8_come 7 = .ok (.iconst 1, 1) := by decide +kernel
theorem dX8_come_8 : decode cX8_come 8 = .ok (.invokestatic 48, 3) := by decide +kernel
theorem dX8_come_11 : decode cX8_come 11 = .ok (.ifCond .eq 44, 3) := by decide +kernel
theorem dX8_come_14 : decode cX8_come 14 = .ok (.iload_n 2, 1) := by decide +kernel
theorem dX8_come_15 : decode cX8_come 15 = .ok (.iconst 1, 1) := by decide +kernel
theorem dX8_come_16 : decode cX8_come 16 = .ok (.iconst 4, 1) := by decide +kernel
theorem dX8_come_17 : decode cX8_come 17 = .ok (.invokestatic 48, 3) := by decide +kernel
theorem dX8_come_20 : decode cX8_come 20 = .ok (.ifCond .eq 35, 3) := by decide +kernel
theorem dX8_come_23 : decode cX8_come 23 = .ok (.iload_n 3, 1) := by decide +kernel
theorem dX8_come_24 : decode cX8_come 24 = .ok (.iconst 1, 1) := by decide +kernel
theorem dX8_come_25 : decode cX8_come 25 = .ok (.sipush 200, 3) := by decide +kernel
theorem dX8_come_28 : decode cX8_come 28 = .ok (.invokestatic 48, 3) := by decide +kernel
theorem dX8_come_31 : decode cX8_come 31 = .ok (.ifCond .eq 24, 3) := by decide +kernel
theorem dX8_come_34 : decode cX8_come 34 = .ok (.iload 4, 2) := by decide +kernel
theorem dX8_come_36 : decode cX8_come 36 = .ok (.iconst 1, 1) := by decide +kernel
theorem dX8_come_37 : decode cX8_come 37 = .ok (.iconst 3, 1) := by decide +kernel
theorem dX8_come_38 : decode cX8_come 38 = .ok (.invokestatic 48, 3) := by decide +kernel
theorem dX8_come_41 : decode cX8_come 41 = .ok (.ifCond .eq 14, 3) := by decide +kernel
theorem dX8_come_44 : decode cX8_come 44 = .ok (.iload 5, 2) := by decide +kernel
theorem dX8_come_46 : decode cX8_come 46 = .ok (.iconst 0, 1) := by decide +kernel
theorem dX8_come_47 : decode cX8_come 47 = .ok (.bipush 100, 2) := by decide +kernel
theorem dX8_come_49 : decode cX8_come 49 = .ok (.invokestatic 48, 3) := by decide +kernel
theorem dX8_come_52 : decode cX8_come 52 = .ok (.ifCond .ne 9, 3) := by decide +kernel
theorem dX8_come_55 : decode cX8_come 55 = .ok (.aload_n 0, 1) := by decide +kernel
theorem dX8_come_56 : decode cX8_come 56 = .ok (.iconst 1, 1) := by decide +kernel
theorem dX8_come_57 : decode cX8_come 57 = .ok (.invokevirtual 59, 3) := by decide +kernel
theorem dX8_come_60 : decode cX8_come 60 = .ok (.ireturn, 1) := by decide +kernel
theorem dX8_come_61 : decode cX8_come 61 = .ok (.aload_n 0, 1) := by decide +kernel
theorem dX8_come_62 : decode cX8_come 62 = .ok (.getfield 34, 3) := by decide +kernel
theorem dX8_come_65 : decode cX8_come 65 = .ok (.getfield 91, 3) := by decide +kernel
theorem dX8_come_68 : decode cX8_come 68 = .ok (.bipush 16, 2) := by decide +kernel
theorem dX8_come_70 : decode cX8_come 70 = .ok (.if_icmp .ne 9, 3) := by decide +kernel
theorem dX8_come_73 : decode cX8_come 73 = .ok (.aload_n 0, 1) := by decide +kernel
theorem dX8_come_74 : decode cX8_come 74 = .ok (.iconst 2, 1) := by decide +kernel
theorem dX8_come_75 : decode cX8_come 75 = .ok (.invokevirtual 59, 3) := by decide +kernel
theorem dX8_come_78 : decode cX8_come 78 = .ok (.ireturn, 1) := by decide +kernel
theorem dX8_come_79 : decode cX8_come 79 = .ok (.bipush 10, 2) := by decide +kernel
theorem dX8_come_81 : decode cX8_come 81 = .ok (.newarray .int, 2) := by decide +kernel
theorem dX8_come_83 : decode cX8_come 83 = .ok (.dup, 1) := by decide +kernel
theorem dX8_come_84 : decode cX8_come 84 = .ok (.iconst 0, 1) := by decide +kernel
theorem dX8_come_85 : decode cX8_come 85 = .ok (.iload_n 2, 1) := by decide +kernel
theorem dX8_come_86 : decode cX8_come 86 = .ok (.iastore, 1) := by decide +kernel
theorem dX8_come_87 : decode cX8_come 87 = .ok (.dup, 1) := by decide +kernel
theorem dX8_come_88 : decode cX8_come 88 = .ok (.iconst 1, 1) := by decide +kernel
theorem dX8_come_89 : decode cX8_come 89 = .ok (.iload_n 3, 1) := by decide +kernel
theorem dX8_come_90 : decode cX8_come 90 = .ok (.iastore, 1) := by decide +kernel
theorem dX8_come_91 : decode cX8_come 91 = .ok (.dup, 1) := by decide +kernel
theorem dX8_come_92 : decode cX8_come 92 = .ok (.iconst 2, 1) := by decide +kernel
theorem dX8_come_93 : decode cX8_come 93 = .ok (.iload 4, 2) := by decide +kernel
theorem dX8_come_95 : decode cX8_come 95 = .ok (.iastore, 1) := by decide +kernel
theorem dX8_come_96 : decode cX8_come 96 = .ok (.dup, 1) := by decide +kernel
theorem dX8_come_97 : decode cX8_come 97 = .ok (.iconst 3, 1) := by decide +kernel
theorem dX8_come_98 : decode cX8_come 98 = .ok (.iload 5, 2) := by decide +kernel
theorem dX8_come_100 : decode cX8_come 100 = .ok (.iastore, 1) := by decide +kernel
theorem dX8_come_101 : decode cX8_come 101 = .ok (.dup, 1) := by decide +kernel
theorem dX8_come_102 : decode cX8_come 102 = .ok (.iconst 4, 1) := by decide +kernel
theorem dX8_come_103 : decode cX8_come 103 = .ok (.iload_n 1, 1) := by decide +kernel
theorem dX8_come_104 : decode cX8_come 104 = .ok (.iastore, 1) := by decide +kernel
theorem dX8_come_105 : decode cX8_come 105 = .ok (.dup, 1) := by decide +kernel
theorem dX8_come_106 : decode cX8_come 106 = .ok (.iconst 5, 1) := by decide +kernel
theorem dX8_come_107 : decode cX8_come 107 = .ok (.iconst 0, 1) := by decide +kernel
theorem dX8_come_108 : decode cX8_come 108 = .ok (.iastore, 1) := by decide +kernel
theorem dX8_come_109 : decode cX8_come 109 = .ok (.dup, 1) := by decide +kernel
theorem dX8_come_110 : decode cX8_come 110 = .ok (.bipush 6, 2) := by decide +kernel
theorem dX8_come_112 : decode cX8_come 112 = .ok (.iconst (-1), 1) := by decide +kernel
theorem dX8_come_113 : decode cX8_come 113 = .ok (.iastore, 1) := by decide +kernel
theorem dX8_come_114 : decode cX8_come 114 = .ok (.dup, 1) := by decide +kernel
theorem dX8_come_115 : decode cX8_come 115 = .ok (.bipush 7, 2) := by decide +kernel
theorem dX8_come_117 : decode cX8_come 117 = .ok (.iload 6, 2) := by decide +kernel
theorem dX8_come_119 : decode cX8_come 119 = .ok (.ifCond .eq 7, 3) := by decide +kernel
theorem dX8_come_122 : decode cX8_come 122 = .ok (.iconst 1, 1) := by decide +kernel
theorem dX8_come_123 : decode cX8_come 123 = .ok (.goto 4, 3) := by decide +kernel
theorem dX8_come_126 : decode cX8_come 126 = .ok (.iconst 0, 1) := by decide +kernel
theorem dX8_come_127 : decode cX8_come 127 = .ok (.iastore, 1) := by decide +kernel
theorem dX8_come_128 : decode cX8_come 128 = .ok (.dup, 1) := by decide +kernel
theorem dX8_come_129 : decode cX8_come 129 = .ok (.bipush 8, 2) := by decide +kernel
theorem dX8_come_131 : decode cX8_come 131 = .ok (.iconst (-1), 1) := by decide +kernel
theorem dX8_come_132 : decode cX8_come 132 = .ok (.iastore, 1) := by decide +kernel
theorem dX8_come_133 : decode cX8_come 133 = .ok (.dup, 1) := by decide +kernel
theorem dX8_come_134 : decode cX8_come 134 = .ok (.bipush 9, 2) := by decide +kernel
theorem dX8_come_136 : decode cX8_come 136 = .ok (.iconst 0, 1) := by decide +kernel
theorem dX8_come_137 : decode cX8_come 137 = .ok (.iastore, 1) := by decide +kernel
theorem dX8_come_138 : decode cX8_come 138 = .ok (.astore 7, 2) := by decide +kernel
theorem dX8_come_140 : decode cX8_come 140 = .ok (.aload 7, 2) := by decide +kernel
theorem dX8_come_142 : decode cX8_come 142 = .ok (.iconst 0, 1) := by decide +kernel
theorem dX8_come_143 : decode cX8_come 143 = .ok (.aload_n 0, 1) := by decide +kernel
theorem dX8_come_144 : decode cX8_come 144 = .ok (.getfield 34, 3) := by decide +kernel
theorem dX8_come_147 : decode cX8_come 147 = .ok (.getfield 94, 3) := by decide +kernel
theorem dX8_come_150 : decode cX8_come 150 = .ok (.bipush 10, 2) := by decide +kernel
theorem dX8_come_152 : decode cX8_come 152 = .ok (.aload_n 0, 1) := by decide +kernel
theorem dX8_come_153 : decode cX8_come 153 = .ok (.getfield 34, 3) := by decide +kernel
theorem dX8_come_156 : decode cX8_come 156 = .ok (.getfield 91, 3) := by decide +kernel
theorem dX8_come_159 : decode cX8_come 159 = .ok (.imul, 1) := by decide +kernel
theorem dX8_come_160 : decode cX8_come 160 = .ok (.bipush 10, 2) := by decide +kernel
theorem dX8_come_162 : decode cX8_come 162 = .ok (.invokestatic 97, 3) := by decide +kernel
theorem dX8_come_165 : decode cX8_come 165 = .ok (.aload_n 0, 1) := by decide +kernel
theorem dX8_come_166 : decode cX8_come 166 = .ok (.getfield 34, 3) := by decide +kernel
theorem dX8_come_169 : decode cX8_come 169 = .ok (.aload_n 0, 1) := by decide +kernel
theorem dX8_come_170 : decode cX8_come 170 = .ok (.getfield 34, 3) := by decide +kernel
theorem dX8_come_173 : decode cX8_come 173 = .ok (.getfield 91, 3) := by decide +kernel
theorem dX8_come_176 : decode cX8_come 176 = .ok (.iload_n 1, 1) := by decide +kernel
theorem dX8_come_177 : decode cX8_come 177 = .ok (.aload_n 0, 1) := by decide +kernel
theorem dX8_come_178 : decode cX8_come 178 = .ok (.getfield 34, 3) := by decide +kernel
theorem dX8_come_181 : decode cX8_come 181 = .ok (.getfield 103, 3) := by decide +kernel
theorem dX8_come_184 : decode cX8_come 184 = .ok (.iconst 5, 1) := by decide +kernel
theorem dX8_come_185 : decode cX8_come 185 = .ok (.iload_n 1, 1) := by decide +kernel
theorem dX8_come_186 : decode cX8_come 186 = .ok (.imul, 1) := by decide +kernel
theorem dX8_come_187 : decode cX8_come 187 = .ok (.iconst 3, 1) := by decide +kernel
theorem dX8_come_188 : decode cX8_come 188 = .ok (.iadd, 1) := by decide +kernel
theorem dX8_come_189 : decode cX8_come 189 = .ok (.iaload, 1) := by decide +kernel
theorem dX8_come_190 : decode cX8_come 190 = .ok (.invokevirtual 106, 3) := by decide +kernel
theorem dX8_come_193 : decode cX8_come 193 = .ok (.aload_n 0, 1) := by decide +kernel
theorem dX8_come_194 : decode cX8_come 194 = .ok (.getfield 34, 3) := by decide +kernel
theorem dX8_come_197 : decode cX8_come 197 = .ok (.dup, 1) := by decide +kernel
theorem dX8_come_198 : decode cX8_come 198 = .ok (.getfield 91, 3) := by decide +kernel
theorem dX8_come_201 : decode cX8_come 201 = .ok (.iconst 1, 1) := by decide +kernel
theorem dX8_come_202 : decode cX8_come 202 = .ok (.iadd, 1) := by decide +kernel
theorem dX8_come_203 : decode cX8_come 203 = .ok (.putfield 91, 3) := by decide +kernel
theorem dX8_come_206 : decode cX8_come 206 = .ok (.aload_n 0, 1) := by decide +kernel
theorem dX8_come_207 : decode cX8_come 207 = .ok (.getfield 34, 3) := by decide +kernel
theorem dX8_come_210 : decode cX8_come 210 = .ok (.getfield 91, 3) := by decide +kernel
theorem dX8_come_213 : decode cX8_come 213 = .ok (.iconst 1, 1) := by decide +kernel
theorem dX8_come_214 : decode cX8_come 214 = .ok (.isub, 1) := by decide +kernel
theorem dX8_come_215 : decode cX8_come 215 = .ok (.ireturn, 1) := by decide +kernel
theorem dX8_cartTold_0 : decode cX8_cartTold 0 = .ok (.iload_n 2, 1) := by decide +kernel
theorem dX8_cartTold_1 : decode cX8_cartTold 1 = .ok (.bipush 7, 2) := by decide +kernel
theorem dX8_cartTold_3 : decode cX8_cartTold 3 = .ok (.if_icmp .ne 38, 3) := by decide +kernel
theorem dX8_cartTold_6 : decode cX8_cartTold 6 = .ok (.aload_n 0, 1) := by decide +kernel
theorem dX8_cartTold_7 : decode cX8_cartTold 7 = .ok (.getfield 34, 3) := by decide +kernel
theorem dX8_cartTold_10 : decode cX8_cartTold 10 = .ok (.iload_n 1, 1) := by decide +kernel
theorem dX8_cartTold_11 : decode cX8_cartTold 11 = .ok (.iconst 0, 1) := by decide +kernel
theorem dX8_cartTold_12 : decode cX8_cartTold 12 = .ok (.invokevirtual 110, 3) := by decide +kernel
theorem dX8_cartTold_15 : decode cX8_cartTold 15 = .ok (.aload_n 0, 1) := by decide +kernel
theorem dX8_cartTold_16 : decode cX8_cartTold 16 = .ok (.getfield 23, 3) := by decide +kernel
theorem dX8_cartTold_19 : decode cX8_cartTold 19 = .ok (.imul, 1) := by decide +kernel
theorem dX8_cartTold_20 : decode cX8_cartTold 20 = .ok (.aload_n 0, 1) := by decide +kernel
theorem dX8_cartTold_21 : decode cX8_cartTold 21 = .ok (.getfield 34, 3) := by decide +kernel
theorem dX8_cartTold_24 : decode cX8_cartTold 24 = .ok (.iload_n 1, 1) := by decide +kernel
theorem dX8_cartTold_25 : decode cX8_cartTold 25 = .ok (.iconst 1, 1) := by decide +kernel
theorem dX8_cartTold_26 : decode cX8_cartTold 26 = .ok (.invokevirtual 110, 3) := by decide +kernel
theorem dX8_cartTold_29 : decode cX8_cartTold 29 = .ok (.bipush 10, 2) := by decide +kernel
theorem dX8_cartTold_31 : decode cX8_cartTold 31 = .ok (.idiv, 1) := by decide +kernel
theorem dX8_cartTold_32 : decode cX8_cartTold 32 = .ok (.aload_n 0, 1) := by decide +kernel
theorem dX8_cartTold_33 : decode cX8_cartTold 33 = .ok (.getfield 26, 3) := by decide +kernel
theorem dX8_cartTold_36 : decode cX8_cartTold 36 = .ok (.imul, 1) := by decide +kernel
theorem dX8_cartTold_37 : decode cX8_cartTold 37 = .ok (.iadd, 1) := by decide +kernel
theorem dX8_cartTold_38 : decode cX8_cartTold 38 = .ok (.goto 12, 3) := by decide +kernel
theorem dX8_cartTold_41 : decode cX8_cartTold 41 = .ok (.aload_n 0, 1) := by decide +kernel
theorem dX8_cartTold_42 : decode cX8_cartTold 42 = .ok (.getfield 34, 3) := by decide +kernel
theorem dX8_cartTold_45 : decode cX8_cartTold 45 = .ok (.iload_n 1, 1) := by decide +kernel
theorem dX8_cartTold_46 : decode cX8_cartTold 46 = .ok (.iload_n 2, 1) := by decide +kernel
theorem dX8_cartTold_47 : decode cX8_cartTold 47 = .ok (.invokevirtual 110, 3) := by decide +kernel
theorem dX8_cartTold_50 : decode cX8_cartTold 50 = .ok (.ireturn, 1) := by decide +kernel
theorem dX8_isCart_0 : decode cX8_isCart 0 = .ok (.iload_n 1, 1) := by decide +kernel
theorem dX8_isCart_1 : decode cX8_isCart 1 = .ok (.iconst 0, 1) := by decide +kernel
theorem dX8_isCart_2 : decode cX8_isCart 2 = .ok (.aload_n 0, 1) := by decide +kernel
theorem dX8_isCart_3 : decode cX8_isCart 3 = .ok (.getfield 34, 3) := by decide +kernel
theorem dX8_isCart_6 : decode cX8_isCart 6 = .ok (.getfield 91, 3) := by decide +kernel
theorem dX8_isCart_9 : decode cX8_isCart 9 = .ok (.iconst 1, 1) := by decide +kernel
theorem dX8_isCart_10 : decode cX8_isCart 10 = .ok (.isub, 1) := by decide +kernel
theorem dX8_isCart_11 : decode cX8_isCart 11 = .ok (.invokestatic 48, 3) := by decide +kernel
theorem dX8_isCart_14 : decode cX8_isCart 14 = .ok (.ireturn, 1) := by decide +kernel
theorem dX8_cart_0 : decode cX8_cart 0 = .ok (.aload_n 0, 1) := by decide +kernel
theorem dX8_cart_1 : decode cX8_cart 1 = .ok (.iconst 0, 1) := by decide +kernel
theorem dX8_cart_2 : decode cX8_cart 2 = .ok (.putfield 41, 3) := by decide +kernel
theorem dX8_cart_5 : decode cX8_cart 5 = .ok (.aload_n 0, 1) := by decide +kernel
theorem dX8_cart_6 : decode cX8_cart 6 = .ok (.iload_n 1, 1) := by decide +kernel
theorem dX8_cart_7 : decode cX8_cart 7 = .ok (.invokevirtual 113, 3) := by decide +kernel
theorem dX8_cart_10 : decode cX8_cart 10 = .ok (.ifCond .eq 22, 3) := by decide +kernel
theorem dX8_cart_13 : decode cX8_cart 13 = .ok (.iload_n 2, 1) := by decide +kernel
theorem dX8_cart_14 : decode cX8_cart 14 = .ok (.iconst 0, 1) := by decide +kernel
theorem dX8_cart_15 : decode cX8_cart 15 = .ok (.bipush 8, 2) := by decide +kernel
theorem dX8_cart_17 : decode cX8_cart 17 = .ok (.invokestatic 48, 3) := by decide +kernel
theorem dX8_cart_20 : decode cX8_cart 20 = .ok (.ifCond .eq 12, 3) := by decide +kernel
theorem dX8_cart_23 : decode cX8_cart 23 = .ok (.aload_n 0, 1) := by decide +kernel
theorem dX8_cart_24 : decode cX8_cart 24 = .ok (.iload_n 1, 1) := by decide +kernel
theorem dX8_cart_25 : decode cX8_cart 25 = .ok (.iload_n 2, 1) := by decide +kernel
theorem dX8_cart_26 : decode cX8_cart 26 = .ok (.invokevirtual 116, 3) := by decide +kernel
theorem dX8_cart_29 : decode cX8_cart 29 = .ok (.goto 8, 3) := by decide +kernel
theorem dX8_cart_32 : decode cX8_cart 32 = .ok (.aload_n 0, 1) := by decide +kernel
theorem dX8_cart_33 : decode cX8_cart 33 = .ok (.iconst 1, 1) := by decide +kernel
theorem dX8_cart_34 : decode cX8_cart 34 = .ok (.invokevirtual 59, 3) := by decide +kernel
theorem dX8_cart_37 : decode cX8_cart 37 = .ok (.ireturn, 1) := by decide +kernel
theorem dX8_queue_0 : decode cX8_queue 0 = .ok (.aload_n 0, 1) := by decide +kernel
theorem dX8_queue_1 : decode cX8_queue 1 = .ok (.iconst 0, 1) := by decide +kernel
theorem dX8_queue_2 : decode cX8_queue 2 = .ok (.putfield 41, 3) := by decide +kernel
theorem dX8_queue_5 : decode cX8_queue 5 = .ok (.iload_n 1, 1) := by decide +kernel
theorem dX8_queue_6 : decode cX8_queue 6 = .ok (.iconst 0, 1) := by decide +kernel
theorem dX8_queue_7 : decode cX8_queue 7 = .ok (.iconst 1, 1) := by decide +kernel
theorem dX8_queue_8 : decode cX8_queue 8 = .ok (.invokestatic 48, 3) := by decide +kernel
theorem dX8_queue_11 : decode cX8_queue 11 = .ok (.ifCond .eq 43, 3) := by decide +kernel
theorem dX8_queue_14 : decode cX8_queue 14 = .ok (.iload_n 2, 1) := by decide +kernel
theorem dX8_queue_15 : decode cX8_queue 15 = .ok (.iconst 0, 1) := by decide +kernel
theorem dX8_queue_16 : decode cX8_queue 16 = .ok (.aload_n 0, 1) := by decide +kernel
theorem dX8_queue_17 : decode cX8_queue 17 = .ok (.getfield 34, 3) := by decide +kernel
theorem dX8_queue_20 : decode cX8_queue 20 = .ok (.getfield 103, 3) := by decide +kernel
theorem dX8_queue_23 : decode cX8_queue 23 = .ok (.iconst 5, 1) := by decide +kernel
theorem dX8_queue_24 : decode cX8_queue 24 = .ok (.iload_n 1, 1) := by decide +kernel
theorem dX8_queue_25 : decode cX8_queue 25 = .ok (.imul, 1) := by decide +kernel
theorem dX8_queue_26 : decode cX8_queue 26 = .ok (.iconst 3, 1) := by decide +kernel
theorem dX8_queue_27 : decode cX8_queue 27 = .ok (.iadd, 1) := by decide +kernel
theorem dX8_queue_28 : decode cX8_queue 28 = .ok (.iaload, 1) := by decide +kernel
theorem dX8_queue_29 : decode cX8_queue 29 = .ok (.iconst 1, 1) := by decide +kernel
theorem dX8_queue_30 : decode cX8_queue 30 = .ok (.isub, 1) := by decide +kernel
theorem dX8_queue_31 : decode cX8_queue 31 = .ok (.invokestatic 48, 3) := by decide +kernel
theorem dX8_queue_34 : decode cX8_queue 34 = .ok (.ifCond .eq 20, 3) := by decide +kernel
theorem dX8_queue_37 : decode cX8_queue 37 = .ok (.aload_n 0, 1) := by decide +kernel
theorem dX8_queue_38 : decode cX8_queue 38 = .ok (.getfield 34, 3) := by decide +kernel
theorem dX8_queue_41 : decode cX8_queue 41 = .ok (.getfield 119, 3) := by decide +kernel
theorem dX8_queue_44 : decode cX8_queue 44 = .ok (.bipush 16, 2) := by decide +kernel
theorem dX8_queue_46 : decode cX8_queue 46 = .ok (.iload_n 1, 1) := by decide +kernel
theorem dX8_queue_47 : decode cX8_queue 47 = .ok (.imul, 1) := by decide +kernel
theorem dX8_queue_48 : decode cX8_queue 48 = .ok (.iload_n 2, 1) := by decide +kernel
theorem dX8_queue_49 : decode cX8_queue 49 = .ok (.iadd, 1) := by decide +kernel
theorem dX8_queue_50 : decode cX8_queue 50 = .ok (.iaload, 1) := by decide +kernel
theorem dX8_queue_51 : decode cX8_queue 51 = .ok (.goto 8, 3) := by decide +kernel
theorem dX8_queue_54 : decode cX8_queue 54 = .ok (.aload_n 0, 1) := by decide +kernel
theorem dX8_queue_55 : decode cX8_queue 55 = .ok (.iconst 1, 1) := by decide +kernel
theorem dX8_queue_56 : decode cX8_queue 56 = .ok (.invokevirtual 59, 3) := by decide +kernel
theorem dX8_queue_59 : decode cX8_queue 59 = .ok (.ireturn, 1) := by decide +kernel
theorem dX8_box_0 : decode cX8_box 0 = .ok (.aload_n 0, 1) := by decide +kernel
theorem dX8_box_1 : decode cX8_box 1 = .ok (.iconst 0, 1) := by decide +kernel
theorem dX8_box_2 : decode cX8_box 2 = .ok (.putfield 41, 3) := by decide +kernel
theorem dX8_box_5 : decode cX8_box 5 = .ok (.iload_n 1, 1) := by decide +kernel
theorem dX8_box_6 : decode cX8_box 6 = .ok (.iconst 0, 1) := by decide +kernel
theorem dX8_box_7 : decode cX8_box 7 = .ok (.iconst 1, 1) := by decide +kernel
theorem dX8_box_8 : decode cX8_box 8 = .ok (.invokestatic 48, 3) := by decide +kernel
theorem dX8_box_11 : decode cX8_box 11 = .ok (.ifCond .eq 28, 3) := by decide +kernel
theorem dX8_box_14 : decode cX8_box 14 = .ok (.iload_n 2, 1) := by decide +kernel
theorem dX8_box_15 : decode cX8_box 15 = .ok (.iconst 0, 1) := by decide +kernel
theorem dX8_box_16 : decode cX8_box 16 = .ok (.iconst 3, 1) := by decide +kernel
theorem dX8_box_17 : decode cX8_box 17 = .ok (.invokestatic 48, 3) := by decide +kernel
theorem dX8_box_20 : decode cX8_box 20 = .ok (.ifCond .eq 19, 3) := by decide +kernel
theorem dX8_box_23 : decode cX8_box 23 = .ok (.aload_n 0, 1) := by decide +kernel
theorem dX8_box_24 : decode cX8_box 24 = .ok (.getfield 34, 3) := by decide +kernel
theorem dX8_box_27 : decode cX8_box 27 = .ok (.getfield 103, 3) := by decide +kernel
theorem dX8_box_30 : decode cX8_box 30 = .ok (.iconst 5, 1) := by decide +kernel
theorem dX8_box_31 : decode cX8_box 31 = .ok (.iload_n 1, 1) := by decide +kernel
theorem dX8_box_32 : decode cX8_box 32 = .ok (.imul, 1) := by decide +kernel
theorem dX8_box_33 : decode cX8_box 33 = .ok (.iload_n 2, 1) := by decide +kernel
theorem dX8_box_34 : decode cX8_box 34 = .ok (.iadd, 1) := by decide +kernel
theorem dX8_box_35 : decode cX8_box 35 = .ok (.iaload, 1) := by decide +kernel
theorem dX8_box_36 : decode cX8_box 36 = .ok (.goto 8, 3) := by decide +kernel
theorem dX8_box_39 : decode cX8_box 39 = .ok (.aload_n 0, 1) := by decide +kernel
theorem dX8_box_40 : decode cX8_box 40 = .ok (.iconst 1, 1) := by decide +kernel
theorem dX8_box_41 : decode cX8_box 41 = .ok (.invokevirtual 59, 3) := by decide +kernel
theorem dX8_box_44 : decode cX8_box 44 = .ok (.ireturn, 1) := by decide +kernel
theorem dX8_empty_0 : decode cX8_empty 0 = .ok (.aload_n 0, 1) := by decide +kernel
theorem dX8_empty_1 : decode cX8_empty 1 = .ok (.iconst 0, 1) := by decide +kernel
theorem dX8_empty_2 : decode cX8_empty 2 = .ok (.putfield 41, 3) := by decide +kernel
theorem dX8_empty_5 : decode cX8_empty 5 = .ok (.iload_n 1, 1) := by decide +kernel
theorem dX8_empty_6 : decode cX8_empty 6 = .ok (.iconst 0, 1) := by decide +kernel
theorem dX8_empty_7 : decode cX8_empty 7 = .ok (.iconst 1, 1) := by decide +kernel
theorem dX8_empty_8 : decode cX8_empty 8 = .ok (.invokestatic 48, 3) := by decide +kernel
theorem dX8_empty_11 : decode cX8_empty 11 = .ok (.ifCond .ne 9, 3) := by decide +kernel
theorem dX8_empty_14 : decode cX8_empty 14 = .ok (.aload_n 0, 1) := by decide +kernel
theorem dX8_empty_15 : decode cX8_empty 15 = .ok (.iconst 1, 1) := by decide +kernel
theorem dX8_empty_16 : decode cX8_empty 16 = .ok (.invokevirtual 59, 3) := by decide +kernel
theorem dX8_empty_19 : decode cX8_empty 19 = .ok (.ireturn, 1) := by decide +kernel
theorem dX8_empty_20 : decode cX8_empty 20 = .ok (.aload_n 0, 1) := by decide +kernel
theorem dX8_empty_21 : decode cX8_empty 21 = .ok (.getfield 34, 3) := by decide +kernel
theorem dX8_empty_24 : decode cX8_empty 24 = .ok (.getfield 103, 3) := by decide +kernel
theorem dX8_empty_27 : decode cX8_empty 27 = .ok (.iconst 5, 1) := by decide +kernel
theorem dX8_empty_28 : decode cX8_empty 28 = .ok (.iload_n 1, 1) := by decide +kernel
theorem dX8_empty_29 : decode cX8_empty 29 = .ok (.imul, 1) := by decide +kernel
theorem dX8_empty_30 : decode cX8_empty 30 = .ok (.iconst 4, 1) := by decide +kernel
theorem dX8_empty_31 : decode cX8_empty 31 = .ok (.iadd, 1) := by decide +kernel
theorem dX8_empty_32 : decode cX8_empty 32 = .ok (.iaload, 1) := by decide +kernel
theorem dX8_empty_33 : decode cX8_empty 33 = .ok (.istore_n 2, 1) := by decide +kernel
theorem dX8_empty_34 : decode cX8_empty 34 = .ok (.aload_n 0, 1) := by decide +kernel
theorem dX8_empty_35 : decode cX8_empty 35 = .ok (.getfield 34, 3) := by decide +kernel
theorem dX8_empty_38 : decode cX8_empty 38 = .ok (.getfield 103, 3) := by decide +kernel
theorem dX8_empty_41 : decode cX8_empty 41 = .ok (.iconst 5, 1) := by decide +kernel
theorem dX8_empty_42 : decode cX8_empty 42 = .ok (.iload_n 1, 1) := by decide +kernel
theorem dX8_empty_43 : decode cX8_empty 43 = .ok (.imul, 1) := by decide +kernel
theorem dX8_empty_44 : decode cX8_empty 44 = .ok (.iconst 0, 1) := by decide +kernel
theorem dX8_empty_45 : decode cX8_empty 45 = .ok (.iastore, 1) := by decide +kernel
theorem dX8_empty_46 : decode cX8_empty 46 = .ok (.aload_n 0, 1) := by decide +kernel
theorem dX8_empty_47 : decode cX8_empty 47 = .ok (.getfield 34, 3) := by decide +kernel
theorem dX8_empty_50 : decode cX8_empty 50 = .ok (.getfield 103, 3) := by decide +kernel
theorem dX8_empty_53 : decode cX8_empty 53 = .ok (.iconst 5, 1) := by decide +kernel
theorem dX8_empty_54 : decode cX8_empty 54 = .ok (.iload_n 1, 1) := by decide +kernel
theorem dX8_empty_55 : decode cX8_empty 55 = .ok (.imul, 1) := by decide +kernel
theorem dX8_empty_56 : decode cX8_empty 56 = .ok (.iconst 4, 1) := by decide +kernel
theorem dX8_empty_57 : decode cX8_empty 57 = .ok (.iadd, 1) := by decide +kernel
theorem dX8_empty_58 : decode cX8_empty 58 = .ok (.iconst 0, 1) := by decide +kernel
theorem dX8_empty_59 : decode cX8_empty 59 = .ok (.iastore, 1) := by decide +kernel
theorem dX8_empty_60 : decode cX8_empty 60 = .ok (.iload_n 2, 1) := by decide +kernel
theorem dX8_empty_61 : decode cX8_empty 61 = .ok (.ireturn, 1) := by decide +kernel
theorem dX8_pass_0 : decode cX8_pass 0 = .ok (.aload_n 0, 1) := by decide +kernel
theorem dX8_pass_1 : decode cX8_pass 1 = .ok (.iconst 0, 1) := by decide +kernel
theorem dX8_pass_2 : decode cX8_pass 2 = .ok (.putfield 41, 3) := by decide +kernel
theorem dX8_pass_5 : decode cX8_pass 5 = .ok (.iload_n 1, 1) := by decide +kernel
theorem dX8_pass_6 : decode cX8_pass 6 = .ok (.iconst 1, 1) := by decide +kernel
theorem dX8_pass_7 : decode cX8_pass 7 = .ok (.sipush 200, 3) := by decide +kernel
theorem dX8_pass_10 : decode cX8_pass 10 = .ok (.invokestatic 48, 3) := by decide +kernel
theorem dX8_pass_13 : decode cX8_pass 13 = .ok (.ifCond .ne 9, 3) := by decide +kernel
theorem dX8_pass_16 : decode cX8_pass 16 = .ok (.aload_n 0, 1) := by decide +kernel
theorem dX8_pass_17 : decode cX8_pass 17 = .ok (.iconst 1, 1) := by decide +kernel
theorem dX8_pass_18 : decode cX8_pass 18 = .ok (.invokevirtual 59, 3) := by decide +kernel
theorem dX8_pass_21 : decode cX8_pass 21 = .ok (.ireturn, 1) := by decide +kernel
theorem dX8_pass_22 : decode cX8_pass 22 = .ok (.iconst 0, 1) := by decide +kernel
theorem dX8_pass_23 : decode cX8_pass 23 = .ok (.istore_n 2, 1) := by decide +kernel
theorem dX8_pass_24 : decode cX8_pass 24 = .ok (.iconst 0, 1) := by decide +kernel
theorem dX8_pass_25 : decode cX8_pass 25 = .ok (.istore_n 3, 1) := by decide +kernel
theorem dX8_pass_26 : decode cX8_pass 26 = .ok (.iload_n 3, 1) := by decide +kernel
theorem dX8_pass_27 : decode cX8_pass 27 = .ok (.iload_n 1, 1) := by decide +kernel
theorem dX8_pass_28 : decode cX8_pass 28 = .ok (.if_icmp .ge 19, 3) := by decide +kernel
theorem dX8_pass_31 : decode cX8_pass 31 = .ok (.iload_n 2, 1) := by decide +kernel
theorem dX8_pass_32 : decode cX8_pass 32 = .ok (.aload_n 0, 1) := by decide +kernel
theorem dX8_pass_33 : decode cX8_pass 33 = .ok (.getfield 34, 3) := by decide +kernel
theorem dX8_pass_36 : decode cX8_pass 36 = .ok (.invokevirtual 122, 3) := by decide +kernel
theorem dX8_pass_39 : decode cX8_pass 39 = .ok (.iadd, 1) := by decide +kernel
theorem dX8_pass_40 : decode cX8_pass 40 = .ok (.istore_n 2, 1) := by decide +kernel
theorem dX8_pass_41 : decode cX8_pass 41 = .ok (.iinc 3 1, 3) := by decide +kernel
theorem dX8_pass_44 : decode cX8_pass 44 = .ok (.goto (-18), 3) := by decide +kernel
theorem dX8_pass_47 : decode cX8_pass 47 = .ok (.iload_n 2, 1) := by decide +kernel
theorem dX8_pass_48 : decode cX8_pass 48 = .ok (.ireturn, 1) := by decide +kernel
theorem dX8_counted_0 : decode cX8_counted 0 = .ok (.bipush 11, 2) := by decide +kernel
theorem dX8_counted_2 : decode cX8_counted 2 = .ok (.newarray .int, 2) := by decide +kernel
theorem dX8_counted_4 : decode cX8_counted 4 = .ok (.dup, 1) := by decide +kernel
theorem dX8_counted_5 : decode cX8_counted 5 = .ok (.iconst 0, 1) := by decide +kernel
theorem dX8_counted_6 : decode cX8_counted 6 = .ok (.aload_n 0, 1) := by decide +kernel
theorem dX8_counted_7 : decode cX8_counted 7 = .ok (.getfield 34, 3) := by decide +kernel
theorem dX8_counted_10 : decode cX8_counted 10 = .ok (.getfield 79, 3) := by decide +kernel
theorem dX8_counted_13 : decode cX8_counted 13 = .ok (.iastore, 1) := by decide +kernel
theorem dX8_counted_14 : decode cX8_counted 14 = .ok (.dup, 1) := by decide +kernel
theorem dX8_counted_15 : decode cX8_counted 15 = .ok (.iconst 1, 1) := by decide +kernel
theorem dX8_counted_16 : decode cX8_counted 16 = .ok (.aload_n 0, 1) := by decide +kernel
theorem dX8_counted_17 : decode cX8_counted 17 = .ok (.getfield 62, 3) := by decide +kernel
theorem dX8_counted_20 : decode cX8_counted 20 = .ok (.iastore, 1) := by decide +kernel
theorem dX8_counted_21 : decode cX8_counted 21 = .ok (.dup, 1) := by decide +kernel
theorem dX8_counted_22 : decode cX8_counted 22 = .ok (.iconst 2, 1) := by decide +kernel
theorem dX8_counted_23 : decode cX8_counted 23 = .ok (.aload_n 0, 1) := by decide +kernel
theorem dX8_counted_24 : decode cX8_counted 24 = .ok (.getfield 34, 3) := by decide +kernel
theorem dX8_counted_27 : decode cX8_counted 27 = .ok (.getfield 91, 3) := by decide +kernel
theorem dX8_counted_30 : decode cX8_counted 30 = .ok (.iastore, 1) := by decide +kernel
theorem dX8_counted_31 : decode cX8_counted 31 = .ok (.dup, 1) := by decide +kernel
theorem dX8_counted_32 : decode cX8_counted 32 = .ok (.iconst 3, 1) := by decide +kernel
theorem dX8_counted_33 : decode cX8_counted 33 = .ok (.aload_n 0, 1) := by decide +kernel
theorem dX8_counted_34 : decode cX8_counted 34 = .ok (.getfield 34, 3) := by decide +kernel
theorem dX8_counted_37 : decode cX8_counted 37 = .ok (.iconst 0, 1) := by decide +kernel
theorem dX8_counted_38 : decode cX8_counted 38 = .ok (.invokevirtual 85, 3) := by decide +kernel
theorem dX8_counted_41 : decode cX8_counted 41 = .ok (.iastore, 1) := by decide +kernel
theorem dX8_counted_42 : decode cX8_counted 42 = .ok (.dup, 1) := by decide +kernel
theorem dX8_counted_43 : decode cX8_counted 43 = .ok (.iconst 4, 1) := by decide +kernel
theorem dX8_counted_44 : decode cX8_counted 44 = .ok (.aload_n 0, 1) := by decide +kernel
theorem dX8_counted_45 : decode cX8_counted 45 = .ok (.getfield 34, 3) := by decide +kernel
theorem dX8_counted_48 : decode cX8_counted 48 = .ok (.iconst 1, 1) := by decide +kernel
theorem dX8_counted_49 : decode cX8_counted 49 = .ok (.invokevirtual 85, 3) := by decide +kernel
theorem dX8_counted_52 : decode cX8_counted 52 = .ok (.iastore, 1) := by decide +kernel
theorem dX8_counted_53 : decode cX8_counted 53 = .ok (.dup, 1) := by decide +kernel
theorem dX8_counted_54 : decode cX8_counted 54 = .ok (.iconst 5, 1) := by decide +kernel
theorem dX8_counted_55 : decode cX8_counted 55 = .ok (.aload_n 0, 1) := by decide +kernel
theorem dX8_counted_56 : decode cX8_counted 56 = .ok (.getfield 34, 3) := by decide +kernel
theorem dX8_counted_59 : decode cX8_counted 59 = .ok (.iconst 2, 1) := by decide +kernel
theorem dX8_counted_60 : decode cX8_counted 60 = .ok (.invokevirtual 85, 3) := by decide +kernel
theorem dX8_counted_63 : decode cX8_counted 63 = .ok (.iastore, 1) := by decide +kernel
theorem dX8_counted_64 : decode cX8_counted 64 = .ok (.dup, 1) := by decide +kernel
theorem dX8_counted_65 : decode cX8_counted 65 = .ok (.bipush 6, 2) := by decide +kernel
theorem dX8_counted_67 : decode cX8_counted 67 = .ok (.aload_n 0, 1) := by decide +kernel
theorem dX8_counted_68 : decode cX8_counted 68 = .ok (.getfield 34, 3) := by decide +kernel
theorem dX8_counted_71 : decode cX8_counted 71 = .ok (.iconst 3, 1) := by decide +kernel
theorem dX8_counted_72 : decode cX8_counted 72 = .ok (.invokevirtual 85, 3) := by decide +kernel
theorem dX8_counted_75 : decode cX8_counted 75 = .ok (.iastore, 1) := by decide +kernel
theorem dX8_counted_76 : decode cX8_counted 76 = .ok (.dup, 1) := by decide +kernel
theorem dX8_counted_77 : decode cX8_counted 77 = .ok (.bipush 7, 2) := by decide +kernel
theorem dX8_counted_79 : decode cX8_counted 79 = .ok (.aload_n 0, 1) := by decide +kernel
theorem dX8_counted_80 : decode cX8_counted 80 = .ok (.getfield 34, 3) := by decide +kernel
theorem dX8_counted_83 : decode cX8_counted 83 = .ok (.getfield 88, 3) := by decide +kernel
theorem dX8_counted_86 : decode cX8_counted 86 = .ok (.iastore, 1) := by decide +kernel
theorem dX8_counted_87 : decode cX8_counted 87 = .ok (.dup, 1) := by decide +kernel
theorem dX8_counted_88 : decode cX8_counted 88 = .ok (.bipush 8, 2) := by decide +kernel
theorem dX8_counted_90 : decode cX8_counted 90 = .ok (.aload_n 0, 1) := by decide +kernel
theorem dX8_counted_91 : decode cX8_counted 91 = .ok (.getfield 34, 3) := by decide +kernel
theorem dX8_counted_94 : decode cX8_counted 94 = .ok (.invokevirtual 126, 3) := by decide +kernel
theorem dX8_counted_97 : decode cX8_counted 97 = .ok (.iastore, 1) := by decide +kernel
theorem dX8_counted_98 : decode cX8_counted 98 = .ok (.dup, 1) := by decide +kernel
theorem dX8_counted_99 : decode cX8_counted 99 = .ok (.bipush 9, 2) := by decide +kernel
theorem dX8_counted_101 : decode cX8_counted 101 = .ok (.aload_n 0, 1) := by decide +kernel
theorem dX8_counted_102 : decode cX8_counted 102 = .ok (.getfield 16, 3) := by decide +kernel
theorem dX8_counted_105 : decode cX8_counted 105 = .ok (.iastore, 1) := by decide +kernel
theorem dX8_counted_106 : decode cX8_counted 106 = .ok (.dup, 1) := by decide +kernel
theorem dX8_counted_107 : decode cX8_counted 107 = .ok (.bipush 10, 2) := by decide +kernel
theorem dX8_counted_109 : decode cX8_counted 109 = .ok (.aload_n 0, 1) := by decide +kernel
theorem dX8_counted_110 : decode cX8_counted 110 = .ok (.getfield 20, 3) := by decide +kernel
theorem dX8_counted_113 : decode cX8_counted 113 = .ok (.iastore, 1) := by decide +kernel
theorem dX8_counted_114 : decode cX8_counted 114 = .ok (.astore_n 2, 1) := by decide +kernel
theorem dX8_counted_115 : decode cX8_counted 115 = .ok (.aload_n 2, 1) := by decide +kernel
theorem dX8_counted_116 : decode cX8_counted 116 = .ok (.iload_n 1, 1) := by decide +kernel
theorem dX8_counted_117 : decode cX8_counted 117 = .ok (.iaload, 1) := by decide +kernel
theorem dX8_counted_118 : decode cX8_counted 118 = .ok (.ireturn, 1) := by decide +kernel
theorem dX8_count_0 : decode cX8_count 0 = .ok (.aload_n 0, 1) := by decide +kernel
theorem dX8_count_1 : decode cX8_count 1 = .ok (.iconst 0, 1) := by decide +kernel
theorem dX8_count_2 : decode cX8_count 2 = .ok (.putfield 41, 3) := by decide +kernel
theorem dX8_count_5 : decode cX8_count 5 = .ok (.iload_n 1, 1) := by decide +kernel
theorem dX8_count_6 : decode cX8_count 6 = .ok (.iconst 0, 1) := by decide +kernel
theorem dX8_count_7 : decode cX8_count 7 = .ok (.bipush 10, 2) := by decide +kernel
theorem dX8_count_9 : decode cX8_count 9 = .ok (.invokestatic 48, 3) := by decide +kernel
theorem dX8_count_12 : decode cX8_count 12 = .ok (.ifCond .eq 11, 3) := by decide +kernel
theorem dX8_count_15 : decode cX8_count 15 = .ok (.aload_n 0, 1) := by decide +kernel
theorem dX8_count_16 : decode cX8_count 16 = .ok (.iload_n 1, 1) := by decide +kernel
theorem dX8_count_17 : decode cX8_count 17 = .ok (.invokevirtual 129, 3) := by decide +kernel
theorem dX8_count_20 : decode cX8_count 20 = .ok (.goto 8, 3) := by decide +kernel
theorem dX8_count_23 : decode cX8_count 23 = .ok (.aload_n 0, 1) := by decide +kernel
theorem dX8_count_24 : decode cX8_count 24 = .ok (.iconst 1, 1) := by decide +kernel
theorem dX8_count_25 : decode cX8_count 25 = .ok (.invokevirtual 59, 3) := by decide +kernel
theorem dX8_count_28 : decode cX8_count 28 = .ok (.ireturn, 1) := by decide +kernel
theorem dX8_over_0 : decode cX8_over 0 = .ok (.aload_n 0, 1) := by decide +kernel
theorem dX8_over_1 : decode cX8_over 1 = .ok (.iconst 0, 1) := by decide +kernel
theorem dX8_over_2 : decode cX8_over 2 = .ok (.putfield 41, 3) := by decide +kernel
theorem dX8_over_5 : decode cX8_over 5 = .ok (.aload_n 0, 1) := by decide +kernel
theorem dX8_over_6 : decode cX8_over 6 = .ok (.iload_n 1, 1) := by decide +kernel
theorem dX8_over_7 : decode cX8_over 7 = .ok (.invokevirtual 113, 3) := by decide +kernel
theorem dX8_over_10 : decode cX8_over 10 = .ok (.ifCond .ne 9, 3) := by decide +kernel
theorem dX8_over_13 : decode cX8_over 13 = .ok (.aload_n 0, 1) := by decide +kernel
theorem dX8_over_14 : decode cX8_over 14 = .ok (.iconst 1, 1) := by decide +kernel
theorem dX8_over_15 : decode cX8_over 15 = .ok (.invokevirtual 59, 3) := by decide +kernel
theorem dX8_over_18 : decode cX8_over 18 = .ok (.ireturn, 1) := by decide +kernel
theorem dX8_over_19 : decode cX8_over 19 = .ok (.aload_n 0, 1) := by decide +kernel
theorem dX8_over_20 : decode cX8_over 20 = .ok (.getfield 38, 3) := by decide +kernel
theorem dX8_over_23 : decode cX8_over 23 = .ok (.aload_n 0, 1) := by decide +kernel
theorem dX8_over_24 : decode cX8_over 24 = .ok (.getfield 34, 3) := by decide +kernel
theorem dX8_over_27 : decode cX8_over 27 = .ok (.invokevirtual 132, 3) := by decide +kernel
theorem dX8_over_30 : decode cX8_over 30 = .ok (.iconst 0, 1) := by decide +kernel
theorem dX8_over_31 : decode cX8_over 31 = .ok (.istore_n 2, 1) := by decide +kernel
theorem dX8_over_32 : decode cX8_over 32 = .ok (.iload_n 2, 1) := by decide +kernel
theorem dX8_over_33 : decode cX8_over 33 = .ok (.sipush 200, 3) := by decide +kernel
theorem dX8_over_36 : decode cX8_over 36 = .ok (.if_icmp .gt 48, 3) := by decide +kernel
theorem dX8_over_39 : decode cX8_over 39 = .ok (.aload_n 0, 1) := by decide +kernel
theorem dX8_over_40 : decode cX8_over 40 = .ok (.getfield 38, 3) := by decide +kernel
theorem dX8_over_43 : decode cX8_over 43 = .ok (.iload_n 1, 1) := by decide +kernel
theorem dX8_over_44 : decode cX8_over 44 = .ok (.iconst 5, 1) := by decide +kernel
theorem dX8_over_45 : decode cX8_over 45 = .ok (.invokevirtual 110, 3) := by decide +kernel
theorem dX8_over_48 : decode cX8_over 48 = .ok (.istore_n 3, 1) := by decide +kernel
theorem dX8_over_49 : decode cX8_over 49 = .ok (.iload_n 3, 1) := by decide +kernel
theorem dX8_over_50 : decode cX8_over 50 = .ok (.iconst 2, 1) := by decide +kernel
theorem dX8_over_51 : decode cX8_over 51 = .ok (.if_icmp .ne 5, 3) := by decide +kernel
theorem dX8_over_54 : decode cX8_over 54 = .ok (.iload_n 2, 1) := by decide +kernel
theorem dX8_over_55 : decode cX8_over 55 = .ok (.ireturn, 1) := by decide +kernel
theorem dX8_over_56 : decode cX8_over 56 = .ok (.iload_n 3, 1) := by decide +kernel
theorem dX8_over_57 : decode cX8_over 57 = .ok (.iconst 3, 1) := by decide +kernel
theorem dX8_over_58 : decode cX8_over 58 = .ok (.if_icmp .ne 5, 3) := by decide +kernel
theorem dX8_over_61 : decode cX8_over 61 = .ok (.iconst (-1), 1) := by decide +kernel
theorem dX8_over_62 : decode cX8_over 62 = .ok (.ireturn, 1) := by decide +kernel
theorem dX8_over_63 : decode cX8_over 63 = .ok (.iload_n 2, 1) := by decide +kernel
theorem dX8_over_64 : decode cX8_over 64 = .ok (.sipush 200, 3) := by decide +kernel
theorem dX8_over_67 : decode cX8_over 67 = .ok (.if_icmp .ge 11, 3) := by decide +kernel
theorem dX8_over_70 : decode cX8_over 70 = .ok (.aload_n 0, 1) := by decide +kernel
theorem dX8_over_71 : decode cX8_over 71 = .ok (.getfield 38, 3) := by decide +kernel
theorem dX8_over_74 : decode cX8_over 74 = .ok (.invokevirtual 122, 3) := by decide +kernel
theorem dX8_over_77 : decode cX8_over 77 = .ok (.pop, 1) := by decide +kernel
theorem dX8_over_78 : decode cX8_over 78 = .ok (.iinc 2 1, 3) := by decide +kernel
theorem dX8_over_81 : decode cX8_over 81 = .ok (.goto (-49), 3) := by decide +kernel
theorem dX8_over_84 : decode cX8_over 84 = .ok (.iconst (-1), 1) := by decide +kernel
theorem dX8_over_85 : decode cX8_over 85 = .ok (.ireturn, 1) := by decide +kernel
theorem dX8_overBy_0 : decode cX8_overBy 0 = .ok (.aload_n 0, 1) := by decide +kernel
theorem dX8_overBy_1 : decode cX8_overBy 1 = .ok (.getfield 38, 3) := by decide +kernel
theorem dX8_overBy_4 : decode cX8_overBy 4 = .ok (.aload_n 0, 1) := by decide +kernel
theorem dX8_overBy_5 : decode cX8_overBy 5 = .ok (.getfield 34, 3) := by decide +kernel
theorem dX8_overBy_8 : decode cX8_overBy 8 = .ok (.invokevirtual 132, 3) := by decide +kernel
theorem dX8_overBy_11 : decode cX8_overBy 11 = .ok (.iconst 0, 1) := by decide +kernel
theorem dX8_overBy_12 : decode cX8_overBy 12 = .ok (.istore_n 2, 1) := by decide +kernel
theorem dX8_overBy_13 : decode cX8_overBy 13 = .ok (.iload_n 2, 1) := by decide +kernel
theorem dX8_overBy_14 : decode cX8_overBy 14 = .ok (.bipush 60, 2) := by decide +kernel
theorem dX8_overBy_16 : decode cX8_overBy 16 = .ok (.if_icmp .ge 38, 3) := by decide +kernel
theorem dX8_overBy_19 : decode cX8_overBy 19 = .ok (.iload_n 2, 1) := by decide +kernel
theorem dX8_overBy_20 : decode cX8_overBy 20 = .ok (.iload_n 1, 1) := by decide +kernel
theorem dX8_overBy_21 : decode cX8_overBy 21 = .ok (.if_icmp .ne 19, 3) := by decide +kernel
theorem dX8_overBy_24 : decode cX8_overBy 24 = .ok (.aload_n 0, 1) := by decide +kernel
theorem dX8_overBy_25 : decode cX8_overBy 25 = .ok (.getfield 38, 3) := by decide +kernel
theorem dX8_overBy_28 : decode cX8_overBy 28 = .ok (.iconst 1, 1) := by decide +kernel
theorem dX8_overBy_29 : decode cX8_overBy 29 = .ok (.aload_n 0, 1) := by decide +kernel
theorem dX8_overBy_30 : decode cX8_overBy 30 = .ok (.getfield 38, 3) := by decide +kernel
theorem dX8_overBy_33 : decode cX8_overBy 33 = .ok (.getfield 88, 3) := by decide +kernel
theorem dX8_overBy_36 : decode cX8_overBy 36 = .ok (.isub, 1) := by decide +kernel
theorem dX8_overBy_37 : decode cX8_overBy 37 = .ok (.putfield 88, 3) := by decide +kernel
theorem dX8_overBy_40 : decode cX8_overBy 40 = .ok (.aload_n 0, 1) := by decide +kernel
theorem dX8_overBy_41 : decode cX8_overBy 41 = .ok (.getfield 38, 3) := by decide +kernel
theorem dX8_overBy_44 : decode cX8_overBy 44 = .ok (.invokevirtual 122, 3) := by decide +kernel
theorem dX8_overBy_47 : decode cX8_overBy 47 = .ok (.pop, 1) := by decide +kernel
theorem dX8_overBy_48 : decode cX8_overBy 48 = .ok (.iinc 2 1, 3) := by decide +kernel
theorem dX8_overBy_51 : decode cX8_overBy 51 = .ok (.goto (-38), 3) := by decide +kernel
theorem dX8_overBy_54 : decode cX8_overBy 54 = .ok (.aload_n 0, 1) := by decide +kernel
theorem dX8_overBy_55 : decode cX8_overBy 55 = .ok (.getfield 38, 3) := by decide +kernel
theorem dX8_overBy_58 : decode cX8_overBy 58 = .ok (.iconst 2, 1) := by decide +kernel
theorem dX8_overBy_59 : decode cX8_overBy 59 = .ok (.invokevirtual 85, 3) := by decide +kernel
theorem dX8_overBy_62 : decode cX8_overBy 62 = .ok (.ireturn, 1) := by decide +kernel
theorem dX8_keep_0 : decode cX8_keep 0 = .ok (.aload_n 0, 1) := by decide +kernel
theorem dX8_keep_1 : decode cX8_keep 1 = .ok (.iconst 0, 1) := by decide +kernel
theorem dX8_keep_2 : decode cX8_keep 2 = .ok (.putfield 41, 3) := by decide +kernel
theorem dX8_keep_5 : decode cX8_keep 5 = .ok (.aload_n 0, 1) := by decide +kernel
theorem dX8_keep_6 : decode cX8_keep 6 = .ok (.bipush 60, 2) := by decide +kernel
theorem dX8_keep_8 : decode cX8_keep 8 = .ok (.invokevirtual 136, 3) := by decide +kernel
theorem dX8_keep_11 : decode cX8_keep 11 = .ok (.istore_n 1, 1) := by decide +kernel
theorem dX8_keep_12 : decode cX8_keep 12 = .ok (.iconst (-1), 1) := by decide +kernel
theorem dX8_keep_13 : decode cX8_keep 13 = .ok (.istore_n 2, 1) := by decide +kernel
theorem dX8_keep_14 : decode cX8_keep 14 = .ok (.iconst 0, 1) := by decide +kernel
theorem dX8_keep_15 : decode cX8_keep 15 = .ok (.istore_n 3, 1) := by decide +kernel
theorem dX8_keep_16 : decode cX8_keep 16 = .ok (.iload_n 3, 1) := by decide +kernel
theorem dX8_keep_17 : decode cX8_keep 17 = .ok (.bipush 60, 2) := by decide +kernel
theorem dX8_keep_19 : decode cX8_keep 19 = .ok (.if_icmp .ge 30, 3) := by decide +kernel
theorem dX8_keep_22 : decode cX8_keep 22 = .ok (.aload_n 0, 1) := by decide +kernel
theorem dX8_keep_23 : decode cX8_keep 23 = .ok (.iload_n 3, 1) := by decide +kernel
theorem dX8_keep_24 : decode cX8_keep 24 = .ok (.invokevirtual 136, 3) := by decide +kernel
theorem dX8_keep_27 : decode cX8_keep 27 = .ok (.istore 4, 2) := by decide +kernel
theorem dX8_keep_29 : decode cX8_keep 29 = .ok (.iload 4, 2) := by decide +kernel
theorem dX8_keep_31 : decode cX8_keep 31 = .ok (.iload_n 1, 1) := by decide +kernel
theorem dX8_keep_32 : decode cX8_keep 32 = .ok (.if_icmp .gt 6, 3) := by decide +kernel
theorem dX8_keep_35 : decode cX8_keep 35 = .ok (.goto 8, 3) := by decide +kernel
theorem dX8_keep_38 : decode cX8_keep 38 = .ok (.iload 4, 2) := by decide +kernel
theorem dX8_keep_40 : decode cX8_keep 40 = .ok (.istore_n 1, 1) := by decide +kernel
theorem dX8_keep_41 : decode cX8_keep 41 = .ok (.iload_n 3, 1) := by decide +kernel
theorem dX8_keep_42 : decode cX8_keep 42 = .ok (.istore_n 2, 1) := by decide +kernel
theorem dX8_keep_43 : decode cX8_keep 43 = .ok (.iinc 3 1, 3) := by decide +kernel
theorem dX8_keep_46 : decode cX8_keep 46 = .ok (.goto (-30), 3) := by decide +kernel
theorem dX8_keep_49 : decode cX8_keep 49 = .ok (.iload_n 2, 1) := by decide +kernel
theorem dX8_keep_50 : decode cX8_keep 50 = .ok (.ireturn, 1) := by decide +kernel
theorem dX8_foresee_0 : decode cX8_foresee 0 = .ok (.aload_n 0, 1) := by decide +kernel
theorem dX8_foresee_1 : decode cX8_foresee 1 = .ok (.iconst 0, 1) := by decide +kernel
theorem dX8_foresee_2 : decode cX8_foresee 2 = .ok (.putfield 41, 3) := by decide +kernel
theorem dX8_foresee_5 : decode cX8_foresee 5 = .ok (.iload_n 1, 1) := by decide +kernel
theorem dX8_foresee_6 : decode cX8_foresee 6 = .ok (.iconst 1, 1) := by decide +kernel
theorem dX8_foresee_7 : decode cX8_foresee 7 = .ok (.bipush 100, 2) := by decide +kernel
theorem dX8_foresee_9 : decode cX8_foresee 9 = .ok (.invokestatic 48, 3) := by decide +kernel
theorem dX8_foresee_12 : decode cX8_foresee 12 = .ok (.ifCond .ne 9, 3) := by decide +kernel
theorem dX8_foresee_15 : decode cX8_foresee 15 = .ok (.aload_n 0, 1) := by decide +kernel
theorem dX8_foresee_16 : decode cX8_foresee 16 = .ok (.iconst 1, 1) := by decide +kernel
theorem dX8_foresee_17 : decode cX8_foresee 17 = .ok (.invokevirtual 59, 3) := by decide +kernel
theorem dX8_foresee_20 : decode cX8_foresee 20 = .ok (.ireturn, 1) := by decide +kernel
theorem dX8_foresee_21 : decode cX8_foresee 21 = .ok (.iload_n 2, 1) := by decide +kernel
theorem dX8_foresee_22 : decode cX8_foresee 22 = .ok (.iconst 0, 1) := by decide +kernel
theorem dX8_foresee_23 : decode cX8_foresee 23 = .ok (.iconst 2, 1) := by decide +kernel
theorem dX8_foresee_24 : decode cX8_foresee 24 = .ok (.invokestatic 48, 3) := by decide +kernel
theorem dX8_foresee_27 : decode cX8_foresee 27 = .ok (.ifCond .ne 9, 3) := by decide +kernel
theorem dX8_foresee_30 : decode cX8_foresee 30 = .ok (.aload_n 0, 1) := by decide +kernel
theorem dX8_foresee_31 : decode cX8_foresee 31 = .ok (.iconst 2, 1) := by decide +kernel
theorem dX8_foresee_32 : decode cX8_foresee 32 = .ok (.invokevirtual 59, 3) := by decide +kernel
theorem dX8_foresee_35 : decode cX8_foresee 35 = .ok (.ireturn, 1) := by decide +kernel
theorem dX8_foresee_36 : decode cX8_foresee 36 = .ok (.aload_n 0, 1) := by decide +kernel
theorem dX8_foresee_37 : decode cX8_foresee 37 = .ok (.getfield 38, 3) := by decide +kernel
theorem dX8_foresee_40 : decode cX8_foresee 40 = .ok (.aload_n 0, 1) := by decide +kernel
theorem dX8_foresee_41 : decode cX8_foresee 41 = .ok (.getfield 34, 3) := by decide +kernel
theorem dX8_foresee_44 : decode cX8_foresee 44 = .ok (.invokevirtual 132, 3) := by decide +kernel
theorem dX8_foresee_47 : decode cX8_foresee 47 = .ok (.iconst 0, 1) := by decide +kernel
theorem dX8_foresee_48 : decode cX8_foresee 48 = .ok (.istore_n 3, 1) := by decide +kernel
theorem dX8_foresee_49 : decode cX8_foresee 49 = .ok (.iload_n 3, 1) := by decide +kernel
theorem dX8_foresee_50 : decode cX8_foresee 50 = .ok (.iload_n 1, 1) := by decide +kernel
theorem dX8_foresee_51 : decode cX8_foresee 51 = .ok (.if_icmp .ge 17, 3) := by decide +kernel
theorem dX8_foresee_54 : decode cX8_foresee 54 = .ok (.aload_n 0, 1) := by decide +kernel
theorem dX8_foresee_55 : decode cX8_foresee 55 = .ok (.getfield 38, 3) := by decide +kernel
theorem dX8_foresee_58 : decode cX8_foresee 58 = .ok (.invokevirtual 122, 3) := by decide +kernel
theorem dX8_foresee_61 : decode cX8_foresee 61 = .ok (.pop, 1) := by decide +kernel
theorem dX8_foresee_62 : decode cX8_foresee 62 = .ok (.iinc 3 1, 3) := by decide +kernel
theorem dX8_foresee_65 : decode cX8_foresee 65 = .ok (.goto (-16), 3) := by decide +kernel
theorem dX8_foresee_68 : decode cX8_foresee 68 = .ok (.iload_n 2, 1) := by decide +kernel
theorem dX8_foresee_69 : decode cX8_foresee 69 = .ok (.iconst 2, 1) := by decide +kernel
theorem dX8_foresee_70 : decode cX8_foresee 70 = .ok (.if_icmp .ne 12, 3) := by decide +kernel
theorem dX8_foresee_73 : decode cX8_foresee 73 = .ok (.aload_n 0, 1) := by decide +kernel
theorem dX8_foresee_74 : decode cX8_foresee 74 = .ok (.getfield 38, 3) := by decide +kernel
theorem dX8_foresee_77 : decode cX8_foresee 77 = .ok (.iconst 1, 1) := by decide +kernel
theorem dX8_foresee_78 : decode cX8_foresee 78 = .ok (.invokevirtual 85, 3) := by decide +kernel
theorem dX8_foresee_81 : decode cX8_foresee 81 = .ok (.ireturn, 1) := by decide +kernel
theorem dX8_foresee_82 : decode cX8_foresee 82 = .ok (.iload_n 2, 1) := by decide +kernel
theorem dX8_foresee_83 : decode cX8_foresee 83 = .ok (.ifCond .ne 23, 3) := by decide +kernel
theorem dX8_foresee_86 : decode cX8_foresee 86 = .ok (.aload_n 0, 1) := by decide +kernel
theorem dX8_foresee_87 : decode cX8_foresee 87 = .ok (.getfield 38, 3) := by decide +kernel
theorem dX8_foresee_90 : decode cX8_foresee 90 = .ok (.iconst 2, 1) := by decide +kernel
theorem dX8_foresee_91 : decode cX8_foresee 91 = .ok (.invokevirtual 85, 3) := by decide +kernel
theorem dX8_foresee_94 : decode cX8_foresee 94 = .ok (.aload_n 0, 1) := by decide +kernel
theorem dX8_foresee_95 : decode cX8_foresee 95 = .ok (.getfield 34, 3) := by decide +kernel
theorem dX8_foresee_98 : decode cX8_foresee 98 = .ok (.iconst 2, 1) := by decide +kernel
theorem dX8_foresee_99 : decode cX8_foresee 99 = .ok (.invokevirtual 85, 3) := by decide +kernel
theorem dX8_foresee_102 : decode cX8_foresee 102 = .ok (.isub, 1) := by decide +kernel
theorem dX8_foresee_103 : decode cX8_foresee 103 = .ok (.goto 42, 3) := by decide +kernel
theorem dX8_foresee_106 : decode cX8_foresee 106 = .ok (.aload_n 0, 1) := by decide +kernel
theorem dX8_foresee_107 : decode cX8_foresee 107 = .ok (.getfield 38, 3) := by decide +kernel
theorem dX8_foresee_110 : decode cX8_foresee 110 = .ok (.getfield 103, 3) := by decide +kernel
theorem dX8_foresee_113 : decode cX8_foresee 113 = .ok (.iconst 0, 1) := by decide +kernel
theorem dX8_foresee_114 : decode cX8_foresee 114 = .ok (.iaload, 1) := by decide +kernel
theorem dX8_foresee_115 : decode cX8_foresee 115 = .ok (.aload_n 0, 1) := by decide +kernel
theorem dX8_foresee_116 : decode cX8_foresee 116 = .ok (.getfield 38, 3) := by decide +kernel
theorem dX8_foresee_119 : decode cX8_foresee 119 = .ok (.getfield 103, 3) := by decide +kernel
theorem dX8_foresee_122 : decode cX8_foresee 122 = .ok (.iconst 5, 1) := by decide +kernel
theorem dX8_foresee_123 : decode cX8_foresee 123 = .ok (.iaload, 1) := by decide +kernel
theorem dX8_foresee_124 : decode cX8_foresee 124 = .ok (.iadd, 1) := by decide +kernel
theorem dX8_foresee_125 : decode cX8_foresee 125 = .ok (.aload_n 0, 1) := by decide +kernel
theorem dX8_foresee_126 : decode cX8_foresee 126 = .ok (.getfield 34, 3) := by decide +kernel
theorem dX8_foresee_129 : decode cX8_foresee 129 = .ok (.getfield 103, 3) := by decide +kernel
theorem dX8_foresee_132 : decode cX8_foresee 132 = .ok (.iconst 0, 1) := by decide +kernel
theorem dX8_foresee_133 : decode cX8_foresee 133 = .ok (.iaload, 1) := by decide +kernel
theorem dX8_foresee_134 : decode cX8_foresee 134 = .ok (.isub, 1) := by decide +kernel
theorem dX8_foresee_135 : decode cX8_foresee 135 = .ok (.aload_n 0, 1) := by decide +kernel
theorem dX8_foresee_136 : decode cX8_foresee 136 = .ok (.getfield 34, 3) := by decide +kernel
theorem dX8_foresee_139 : decode cX8_foresee 139 = .ok (.getfield 103, 3) := by decide +kernel
theorem dX8_foresee_142 : decode cX8_foresee 142 = .ok (.iconst 5, 1) := by decide +kernel
theorem dX8_foresee_143 : decode cX8_foresee 143 = .ok (.iaload, 1) := by decide +kernel
theorem dX8_foresee_144 : decode cX8_foresee 144 = .ok (.isub, 1) := by decide +kernel
theorem dX8_foresee_145 : decode cX8_foresee 145 = .ok (.ireturn, 1) := by decide +kernel
theorem dX8_mean_0 : decode cX8_mean 0 = .ok (.aload_n 0, 1) := by decide +kernel
theorem dX8_mean_1 : decode cX8_mean 1 = .ok (.iconst 0, 1) := by decide +kernel
theorem dX8_mean_2 : decode cX8_mean 2 = .ok (.putfield 41, 3) := by decide +kernel
theorem dX8_mean_5 : decode cX8_mean 5 = .ok (.iconst 0, 1) := by decide +kernel
theorem dX8_mean_6 : decode cX8_mean 6 = .ok (.istore_n 1, 1) := by decide +kernel
theorem dX8_mean_7 : decode cX8_mean 7 = .ok (.iconst 0, 1) := by decide +kernel
theorem dX8_mean_8 : decode cX8_mean 8 = .ok (.istore_n 2, 1) := by decide +kernel
theorem dX8_mean_9 : decode cX8_mean 9 = .ok (.iconst 0, 1) := by decide +kernel
theorem dX8_mean_10 : decode cX8_mean 10 = .ok (.istore_n 3, 1) := by decide +kernel
theorem dX8_mean_11 : decode cX8_mean 11 = .ok (.iload_n 3, 1) := by decide +kernel
theorem dX8_mean_12 : decode cX8_mean 12 = .ok (.aload_n 0, 1) := by decide +kernel
theorem dX8_mean_13 : decode cX8_mean 13 = .ok (.getfield 34, 3) := by decide +kernel
theorem dX8_mean_16 : decode cX8_mean 16 = .ok (.getfield 91, 3) := by decide +kernel
theorem dX8_mean_19 : decode cX8_mean 19 = .ok (.if_icmp .ge 41, 3) := by decide +kernel
theorem dX8_mean_22 : decode cX8_mean 22 = .ok (.aload_n 0, 1) := by decide +kernel
theorem dX8_mean_23 : decode cX8_mean 23 = .ok (.getfield 34, 3) := by decide +kernel
theorem dX8_mean_26 : decode cX8_mean 26 = .ok (.iload_n 3, 1) := by decide +kernel
theorem dX8_mean_27 : decode cX8_mean 27 = .ok (.iconst 5, 1) := by decide +kernel
theorem dX8_mean_28 : decode cX8_mean 28 = .ok (.invokevirtual 110, 3) := by decide +kernel
theorem dX8_mean_31 : decode cX8_mean 31 = .ok (.iconst 2, 1) := by decide +kernel
theorem dX8_mean_32 : decode cX8_mean 32 = .ok (.if_icmp .eq 6, 3) := by decide +kernel
theorem dX8_mean_35 : decode cX8_mean 35 = .ok (.goto 19, 3) := by decide +kernel
theorem dX8_mean_38 : decode cX8_mean 38 = .ok (.iload_n 1, 1) := by decide +kernel
theorem dX8_mean_39 : decode cX8_mean 39 = .ok (.aload_n 0, 1) := by decide +kernel
theorem dX8_mean_40 : decode cX8_mean 40 = .ok (.getfield 34, 3) := by decide +kernel
theorem dX8_mean_43 : decode cX8_mean 43 = .ok (.iload_n 3, 1) := by decide +kernel
theorem dX8_mean_44 : decode cX8_mean 44 = .ok (.bipush 8, 2) := by decide +kernel
theorem dX8_mean_46 : decode cX8_mean 46 = .ok (.invokevirtual 110, 3) := by decide +kernel
theorem dX8_mean_49 : decode cX8_mean 49 = .ok (.iadd, 1) := by decide +kernel
theorem dX8_mean_50 : decode cX8_mean 50 = .ok (.istore_n 1, 1) := by decide +kernel
theorem dX8_mean_51 : decode cX8_mean 51 = .ok (.iinc 2 1, 3) := by decide +kernel
theorem dX8_mean_54 : decode cX8_mean 54 = .ok (.iinc 3 1, 3) := by decide +kernel
theorem dX8_mean_57 : decode cX8_mean 57 = .ok (.goto (-46), 3) := by decide +kernel
theorem dX8_mean_60 : decode cX8_mean 60 = .ok (.iload_n 2, 1) := by decide +kernel
theorem dX8_mean_61 : decode cX8_mean 61 = .ok (.ifCond .ne 7, 3) := by decide +kernel
theorem dX8_mean_64 : decode cX8_mean 64 = .ok (.dconst 0, 1) := by decide +kernel
theorem dX8_mean_65 : decode cX8_mean 65 = .ok (.goto 8, 3) := by decide +kernel
theorem dX8_mean_68 : decode cX8_mean 68 = .ok (.iload_n 1, 1) := by decide +kernel
theorem dX8_mean_69 : decode cX8_mean 69 = .ok (.i2d, 1) := by decide +kernel
theorem dX8_mean_70 : decode cX8_mean 70 = .ok (.iload_n 2, 1) := by decide +kernel
theorem dX8_mean_71 : decode cX8_mean 71 = .ok (.i2d, 1) := by decide +kernel
theorem dX8_mean_72 : decode cX8_mean 72 = .ok (.ddiv, 1) := by decide +kernel
theorem dX8_mean_73 : decode cX8_mean 73 = .ok (.dreturn, 1) := by decide +kernel
theorem dX8_digest_0 : decode cX8_digest 0 = .ok (.aload_n 0, 1) := by decide +kernel
theorem dX8_digest_1 : decode cX8_digest 1 = .ok (.iconst 0, 1) := by decide +kernel
theorem dX8_digest_2 : decode cX8_digest 2 = .ok (.putfield 41, 3) := by decide +kernel
theorem dX8_digest_5 : decode cX8_digest 5 = .ok (.ldc2_w 139, 3) := by decide +kernel
theorem dX8_digest_8 : decode cX8_digest 8 = .ok (.lstore_n 1, 1) := by decide +kernel
theorem dX8_digest_9 : decode cX8_digest 9 = .ok (.iconst 0, 1) := by decide +kernel
theorem dX8_digest_10 : decode cX8_digest 10 = .ok (.istore_n 3, 1) := by decide +kernel
theorem dX8_digest_11 : decode cX8_digest 11 = .ok (.iload_n 3, 1) := by decide +kernel
theorem dX8_digest_12 : decode cX8_digest 12 = .ok (.bipush 10, 2) := by decide +kernel
theorem dX8_digest_14 : decode cX8_digest 14 = .ok (.if_icmp .gt 22, 3) := by decide +kernel
theorem dX8_digest_17 : decode cX8_digest 17 = .ok (.lload_n 1, 1) := by decide +kernel
theorem dX8_digest_18 : decode cX8_digest 18 = .ok (.ldc2_w 141, 3) := by decide +kernel
theorem dX8_digest_21 : decode cX8_digest 21 = .ok (.lmul, 1) := by decide +kernel
theorem dX8_digest_22 : decode cX8_digest 22 = .ok (.aload_n 0, 1) := by decide +kernel
theorem dX8_digest_23 : decode cX8_digest 23 = .ok (.iload_n 3, 1) := by decide +kernel
theorem dX8_digest_24 : decode cX8_digest 24 = .ok (.invokevirtual 129, 3) := by decide +kernel
theorem dX8_digest_27 : decode cX8_digest 27 = .ok (.i2l, 1) := by decide +kernel
theorem dX8_digest_28 : decode cX8_digest 28 = .ok (.ladd, 1) := by decide +kernel
theorem dX8_digest_29 : decode cX8_digest 29 = .ok (.lstore_n 1, 1) := by decide +kernel
theorem dX8_digest_30 : decode cX8_digest 30 = .ok (.iinc 3 1, 3) := by decide +kernel
theorem dX8_digest_33 : decode cX8_digest 33 = .ok (.goto (-22), 3) := by decide +kernel
theorem dX8_digest_36 : decode cX8_digest 36 = .ok (.iconst 0, 1) := by decide +kernel
theorem dX8_digest_37 : decode cX8_digest 37 = .ok (.istore_n 3, 1) := by decide +kernel
theorem dX8_digest_38 : decode cX8_digest 38 = .ok (.iload_n 3, 1) := by decide +kernel
theorem dX8_digest_39 : decode cX8_digest 39 = .ok (.aload_n 0, 1) := by decide +kernel
theorem dX8_digest_40 : decode cX8_digest 40 = .ok (.getfield 62, 3) := by decide +kernel
theorem dX8_digest_43 : decode cX8_digest 43 = .ok (.if_icmp .ge 23, 3) := by decide +kernel
theorem dX8_digest_46 : decode cX8_digest 46 = .ok (.lload_n 1, 1) := by decide +kernel
theorem dX8_digest_47 : decode cX8_digest 47 = .ok (.ldc2_w 141, 3) := by decide +kernel
theorem dX8_digest_50 : decode cX8_digest 50 = .ok (.lmul, 1) := by decide +kernel
theorem dX8_digest_51 : decode cX8_digest 51 = .ok (.aload_n 0, 1) := by decide +kernel
theorem dX8_digest_52 : decode cX8_digest 52 = .ok (.getfield 9, 3) := by decide +kernel
theorem dX8_digest_55 : decode cX8_digest 55 = .ok (.iload_n 3, 1) := by decide +kernel
theorem dX8_digest_56 : decode cX8_digest 56 = .ok (.iaload, 1) := by decide +kernel
theorem dX8_digest_57 : decode cX8_digest 57 = .ok (.i2l, 1) := by decide +kernel
theorem dX8_digest_58 : decode cX8_digest 58 = .ok (.ladd, 1) := by decide +kernel
theorem dX8_digest_59 : decode cX8_digest 59 = .ok (.lstore_n 1, 1) := by decide +kernel
theorem dX8_digest_60 : decode cX8_digest 60 = .ok (.iinc 3 1, 3) := by decide +kernel
theorem dX8_digest_63 : decode cX8_digest 63 = .ok (.goto (-25), 3) := by decide +kernel
theorem dX8_digest_66 : decode cX8_digest 66 = .ok (.iconst 0, 1) := by decide +kernel
theorem dX8_digest_67 : decode cX8_digest 67 = .ok (.istore_n 3, 1) := by decide +kernel
theorem dX8_digest_68 : decode cX8_digest 68 = .ok (.iload_n 3, 1) := by decide +kernel
theorem dX8_digest_69 : decode cX8_digest 69 = .ok (.bipush 20, 2) := by decide +kernel
theorem dX8_digest_71 : decode cX8_digest 71 = .ok (.if_icmp .ge 23, 3) := by decide +kernel
theorem dX8_digest_74 : decode cX8_digest 74 = .ok (.lload_n 1, 1) := by decide +kernel
theorem dX8_digest_75 : decode cX8_digest 75 = .ok (.ldc2_w 141, 3) := by decide +kernel
theorem dX8_digest_78 : decode cX8_digest 78 = .ok (.lmul, 1) := by decide +kernel
theorem dX8_digest_79 : decode cX8_digest 79 = .ok (.aload_n 0, 1) := by decide +kernel
theorem dX8_digest_80 : decode cX8_digest 80 = .ok (.getfield 13, 3) := by decide +kernel
theorem dX8_digest_83 : decode cX8_digest 83 = .ok (.iload_n 3, 1) := by decide +kernel
theorem dX8_digest_84 : decode cX8_digest 84 = .ok (.iaload, 1) := by decide +kernel
theorem dX8_digest_85 : decode cX8_digest 85 = .ok (.i2l, 1) := by decide +kernel
theorem dX8_digest_86 : decode cX8_digest 86 = .ok (.ladd, 1) := by decide +kernel
theorem dX8_digest_87 : decode cX8_digest 87 = .ok (.lstore_n 1, 1) := by decide +kernel
theorem dX8_digest_88 : decode cX8_digest 88 = .ok (.iinc 3 1, 3) := by decide +kernel
theorem dX8_digest_91 : decode cX8_digest 91 = .ok (.goto (-23), 3) := by decide +kernel
theorem dX8_digest_94 : decode cX8_digest 94 = .ok (.iconst 0, 1) := by decide +kernel
theorem dX8_digest_95 : decode cX8_digest 95 = .ok (.istore_n 3, 1) := by decide +kernel
theorem dX8_digest_96 : decode cX8_digest 96 = .ok (.iload_n 3, 1) := by decide +kernel
theorem dX8_digest_97 : decode cX8_digest 97 = .ok (.iconst 2, 1) := by decide +kernel
theorem dX8_digest_98 : decode cX8_digest 98 = .ok (.if_icmp .ge 96, 3) := by decide +kernel
theorem dX8_digest_101 : decode cX8_digest 101 = .ok (.iconst 0, 1) := by decide +kernel
theorem dX8_digest_102 : decode cX8_digest 102 = .ok (.istore 4, 2) := by decide +kernel
theorem dX8_digest_104 : decode cX8_digest 104 = .ok (.iload 4, 2) := by decide +kernel
theorem dX8_digest_106 : decode cX8_digest 106 = .ok (.iconst 4, 1) := by decide +kernel
theorem dX8_digest_107 : decode cX8_digest 107 = .ok (.if_icmp .ge 31, 3) := by decide +kernel
theorem dX8_digest_110 : decode cX8_digest 110 = .ok (.lload_n 1, 1) := by decide +kernel
theorem dX8_digest_111 : decode cX8_digest 111 = .ok (.ldc2_w 141, 3) := by decide +kernel
theorem dX8_digest_114 : decode cX8_digest 114 = .ok (.lmul, 1) := by decide +kernel
theorem dX8_digest_115 : decode cX8_digest 115 = .ok (.aload_n 0, 1) := by decide +kernel
theorem dX8_digest_116 : decode cX8_digest 116 = .ok (.getfield 34, 3) := by decide +kernel
theorem dX8_digest_119 : decode cX8_digest 119 = .ok (.getfield 103, 3) := by decide +kernel
theorem dX8_digest_122 : decode cX8_digest 122 = .ok (.iconst 5, 1) := by decide +kernel
theorem dX8_digest_123 : decode cX8_digest 123 = .ok (.iload_n 3, 1) := by decide +kernel
theorem dX8_digest_124 : decode cX8_digest 124 = .ok (.imul, 1) := by decide +kernel
theorem dX8_digest_125 : decode cX8_digest 125 = .ok (.iload 4, 2) := by decide +kernel
theorem dX8_digest_127 : decode cX8_digest 127 = .ok (.iadd, 1) := by decide +kernel
theorem dX8_digest_128 : decode cX8_digest 128 = .ok (.iaload, 1) := by decide +kernel
theorem dX8_digest_129 : decode cX8_digest 129 = .ok (.i2l, 1) := by decide +kernel
theorem dX8_digest_130 : decode cX8_digest 130 = .ok (.ladd, 1) := by decide +kernel
theorem dX8_digest_131 : decode cX8_digest 131 = .ok (.lstore_n 1, 1) := by decide +kernel
theorem dX8_digest_132 : decode cX8_digest 132 = .ok (.iinc 4 1, 3) := by decide +kernel
theorem dX8_digest_135 : decode cX8_digest 135 = .ok (.goto (-31), 3) := by decide +kernel
theorem dX8_digest_138 : decode cX8_digest 138 = .ok (.iconst 0, 1) := by decide +kernel
theorem dX8_digest_139 : decode cX8_digest 139 = .ok (.istore 4, 2) := by decide +kernel
theorem dX8_digest_141 : decode cX8_digest 141 = .ok (.iload 4, 2) := by decide +kernel
theorem dX8_digest_143 : decode cX8_digest 143 = .ok (.aload_n 0, 1) := by decide +kernel
theorem dX8_digest_144 : decode cX8_digest 144 = .ok (.getfield 34, 3) := by decide +kernel
theorem dX8_digest_147 : decode cX8_digest 147 = .ok (.getfield 103, 3) := by decide +kernel
theorem dX8_digest_150 : decode cX8_digest 150 = .ok (.iconst 5, 1) := by decide +kernel
theorem dX8_digest_151 : decode cX8_digest 151 = .ok (.iload_n 3, 1) := by decide +kernel
theorem dX8_digest_152 : decode cX8_digest 152 = .ok (.imul, 1) := by decide +kernel
theorem dX8_digest_153 : decode cX8_digest 153 = .ok (.iconst 3, 1) := by decide +kernel
theorem dX8_digest_154 : decode cX8_digest 154 = .ok (.iadd, 1) := by decide +kernel
theorem dX8_digest_155 : decode cX8_digest 155 = .ok (.iaload, 1) := by decide +kernel
theorem dX8_digest_156 : decode cX8_digest 156 = .ok (.if_icmp .ge 32, 3) := by decide +kernel
theorem dX8_digest_159 : decode cX8_digest 159 = .ok (.lload_n 1, 1) := by decide +kernel
theorem dX8_digest_160 : decode cX8_digest 160 = .ok (.ldc2_w 141, 3) := by decide +kernel
theorem dX8_digest_163 : decode cX8_digest 163 = .ok (.lmul, 1) := by decide +kernel
theorem dX8_digest_164 : decode cX8_digest 164 = .ok (.aload_n 0, 1) := by decide +kernel
theorem dX8_digest_165 : decode cX8_digest 165 = .ok (.getfield 34, 3) := by decide +kernel
theorem dX8_digest_168 : decode cX8_digest 168 = .ok (.getfield 119, 3) := by decide +kernel
theorem dX8_digest_171 : decode cX8_digest 171 = .ok (.bipush 16, 2) := by decide +kernel
theorem dX8_digest_173 : decode cX8_digest 173 = .ok (.iload_n 3, 1) := by decide +kernel
theorem dX8_digest_174 : decode cX8_digest 174 = .ok (.imul, 1) := by decide +kernel
theorem dX8_digest_175 : decode cX8_digest 175 = .ok (.iload 4, 2) := by decide +kernel
theorem dX8_digest_177 : decode cX8_digest 177 = .ok (.iadd, 1) := by decide +kernel
theorem dX8_digest_178 : decode cX8_digest 178 = .ok (.iaload, 1) := by decide +kernel
theorem dX8_digest_179 : decode cX8_digest 179 = .ok (.i2l, 1) := by decide +kernel
theorem dX8_digest_180 : decode cX8_digest 180 = .ok (.ladd, 1) := by decide +kernel
theorem dX8_digest_181 : decode cX8_digest 181 = .ok (.lstore_n 1, 1) := by decide +kernel
theorem dX8_digest_182 : decode cX8_digest 182 = .ok (.iinc 4 1, 3) := by decide +kernel
theorem dX8_digest_185 : decode cX8_digest 185 = .ok (.goto (-44), 3) := by decide +kernel
theorem dX8_digest_188 : decode cX8_digest 188 = .ok (.iinc 3 1, 3) := by decide +kernel
theorem dX8_digest_191 : decode cX8_digest 191 = .ok (.goto (-95), 3) := by decide +kernel
theorem dX8_digest_194 : decode cX8_digest 194 = .ok (.iconst 0, 1) := by decide +kernel
theorem dX8_digest_195 : decode cX8_digest 195 = .ok (.istore_n 3, 1) := by decide +kernel
theorem dX8_digest_196 : decode cX8_digest 196 = .ok (.iload_n 3, 1) := by decide +kernel
theorem dX8_digest_197 : decode cX8_digest 197 = .ok (.aload_n 0, 1) := by decide +kernel
theorem dX8_digest_198 : decode cX8_digest 198 = .ok (.getfield 34, 3) := by decide +kernel
theorem dX8_digest_201 : decode cX8_digest 201 = .ok (.getfield 91, 3) := by decide +kernel
theorem dX8_digest_204 : decode cX8_digest 204 = .ok (.if_icmp .ge 40, 3) := by decide +kernel
theorem dX8_digest_207 : decode cX8_digest 207 = .ok (.iconst 0, 1) := by decide +kernel
theorem dX8_digest_208 : decode cX8_digest 208 = .ok (.istore 4, 2) := by decide +kernel
theorem dX8_digest_210 : decode cX8_digest 210 = .ok (.iload 4, 2) := by decide +kernel
theorem dX8_digest_212 : decode cX8_digest 212 = .ok (.bipush 8, 2) := by decide +kernel
theorem dX8_digest_214 : decode cX8_digest 214 = .ok (.if_icmp .gt 24, 3) := by decide +kernel
theorem dX8_digest_217 : decode cX8_digest 217 = .ok (.lload_n 1, 1) := by decide +kernel
theorem dX8_digest_218 : decode cX8_digest 218 = .ok (.ldc2_w 141, 3) := by decide +kernel
theorem dX8_digest_221 : decode cX8_digest 221 = .ok (.lmul, 1) := by decide +kernel
theorem dX8_digest_222 : decode cX8_digest 222 = .ok (.aload_n 0, 1) := by decide +kernel
theorem dX8_digest_223 : decode cX8_digest 223 = .ok (.iload_n 3, 1) := by decide +kernel
theorem dX8_digest_224 : decode cX8_digest 224 = .ok (.iload 4, 2) := by decide +kernel
theorem dX8_digest_226 : decode cX8_digest 226 = .ok (.invokevirtual 116, 3) := by decide +kernel
theorem dX8_digest_229 : decode cX8_digest 229 = .ok (.i2l, 1) := by decide +kernel
theorem dX8_digest_230 : decode cX8_digest 230 = .ok (.ladd, 1) := by decide +kernel
theorem dX8_digest_231 : decode cX8_digest 231 = .ok (.lstore_n 1, 1) := by decide +kernel
theorem dX8_digest_232 : decode cX8_digest 232 = .ok (.iinc 4 1, 3) := by decide +kernel
theorem dX8_digest_235 : decode cX8_digest 235 = .ok (.goto (-25), 3) := by decide +kernel
theorem dX8_digest_238 : decode cX8_digest 238 = .ok (.iinc 3 1, 3) := by decide +kernel
theorem dX8_digest_241 : decode cX8_digest 241 = .ok (.goto (-45), 3) := by decide +kernel
theorem dX8_digest_244 : decode cX8_digest 244 = .ok (.lload_n 1, 1) := by decide +kernel
theorem dX8_digest_245 : decode cX8_digest 245 = .ok (.lreturn, 1) := by decide +kernel
end
section
theorem dL_addSignal_0 : decode cL_addSignal 0 = .ok (.aload_n 2, 1) := by decide +kernel
theorem dL_addSignal_1 : decode cL_addSignal 1 = .ok (.iconst 0, 1) := by decide +kernel
theorem dL_addSignal_2 : decode cL_addSignal 2 = .ok (.aload_n 0, 1) := by decide +kernel
theorem dL_addSignal_3 : decode cL_addSignal 3 = .ok (.iload_n 1, 1) := by decide +kernel
theorem dL_addSignal_4 : decode cL_addSignal 4 = .ok (.invokevirtual 7, 3) := by decide +kernel
theorem dL_addSignal_7 : decode cL_addSignal 7 = .ok (.i2l, 1) := by decide +kernel
theorem dL_addSignal_8 : decode cL_addSignal 8 = .ok (.lastore, 1) := by decide +kernel
theorem dL_addSignal_9 : decode cL_addSignal 9 = .ok (.goto 9, 3) := by decide +kernel
theorem dL_addSignal_12 : decode cL_addSignal 12 = .ok (.astore_n 3, 1) := by decide +kernel
theorem dL_addSignal_13 : decode cL_addSignal 13 = .ok (.iconst 1, 1) := by decide +kernel
theorem dL_addSignal_14 : decode cL_addSignal 14 = .ok (.ireturn, 1) := by decide +kernel
theorem dL_addSignal_15 : decode cL_addSignal 15 = .ok (.astore_n 3, 1) := by decide +kernel
theorem dL_addSignal_16 : decode cL_addSignal 16 = .ok (.iconst 2, 1) := by decide +kernel
theorem dL_addSignal_17 : decode cL_addSignal 17 = .ok (.ireturn, 1) := by decide +kernel
theorem dL_addSignal_18 : decode cL_addSignal 18 = .ok (.iconst 0, 1) := by decide +kernel
theorem dL_addSignal_19 : decode cL_addSignal 19 = .ok (.ireturn, 1) := by decide +kernel
theorem dL_read_0 : decode cL_read 0 = .ok (.aload_n 3, 1) := by decide +kernel
theorem dL_read_1 : decode cL_read 1 = .ok (.iconst 0, 1) := by decide +kernel
theorem dL_read_2 : decode cL_read 2 = .ok (.aload_n 0, 1) := by decide +kernel
theorem dL_read_3 : decode cL_read 3 = .ok (.iload_n 1, 1) := by decide +kernel
theorem dL_read_4 : decode cL_read 4 = .ok (.iload_n 2, 1) := by decide +kernel
theorem dL_read_5 : decode cL_read 5 = .ok (.invokevirtual 17, 3) := by decide +kernel
theorem dL_read_8 : decode cL_read 8 = .ok (.i2l, 1) := by decide +kernel
theorem dL_read_9 : decode cL_read 9 = .ok (.lastore, 1) := by decide +kernel
theorem dL_read_10 : decode cL_read 10 = .ok (.goto 11, 3) := by decide +kernel
theorem dL_read_13 : decode cL_read 13 = .ok (.astore 4, 2) := by decide +kernel
theorem dL_read_15 : decode cL_read 15 = .ok (.iconst 1, 1) := by decide +kernel
theorem dL_read_16 : decode cL_read 16 = .ok (.ireturn, 1) := by decide +kernel
theorem dL_read_17 : decode cL_read 17 = .ok (.astore 4, 2) := by decide +kernel
theorem dL_read_19 : decode cL_read 19 = .ok (.iconst 2, 1) := by decide +kernel
theorem dL_read_20 : decode cL_read 20 = .ok (.ireturn, 1) := by decide +kernel
theorem dL_read_21 : decode cL_read 21 = .ok (.iconst 0, 1) := by decide +kernel
theorem dL_read_22 : decode cL_read 22 = .ok (.ireturn, 1) := by decide +kernel
theorem dL_heard_0 : decode cL_heard 0 = .ok (.aload_n 2, 1) := by decide +kernel
theorem dL_heard_1 : decode cL_heard 1 = .ok (.iconst 0, 1) := by decide +kernel
theorem dL_heard_2 : decode cL_heard 2 = .ok (.aload_n 0, 1) := by decide +kernel
theorem dL_heard_3 : decode cL_heard 3 = .ok (.iload_n 1, 1) := by decide +kernel
theorem dL_heard_4 : decode cL_heard 4 = .ok (.invokevirtual 23, 3) := by decide +kernel
theorem dL_heard_7 : decode cL_heard 7 = .ok (.i2l, 1) := by decide +kernel
theorem dL_heard_8 : decode cL_heard 8 = .ok (.lastore, 1) := by decide +kernel
theorem dL_heard_9 : decode cL_heard 9 = .ok (.goto 6, 3) := by decide +kernel
theorem dL_heard_12 : decode cL_heard 12 = .ok (.astore_n 3, 1) := by decide +kernel
theorem dL_heard_13 : decode cL_heard 13 = .ok (.iconst 1, 1) := by decide +kernel
theorem dL_heard_14 : decode cL_heard 14 = .ok (.ireturn, 1) := by decide +kernel
theorem dL_heard_15 : decode cL_heard 15 = .ok (.iconst 0, 1) := by decide +kernel
theorem dL_heard_16 : decode cL_heard 16 = .ok (.ireturn, 1) := by decide +kernel
theorem dL_safe_0 : decode cL_safe 0 = .ok (.aload_n 2, 1) := by decide +kernel
theorem dL_safe_1 : decode cL_safe 1 = .ok (.iconst 0, 1) := by decide +kernel
theorem dL_safe_2 : decode cL_safe 2 = .ok (.aload_n 0, 1) := by decide +kernel
theorem dL_safe_3 : decode cL_safe 3 = .ok (.iload_n 1, 1) := by decide +kernel
theorem dL_safe_4 : decode cL_safe 4 = .ok (.invokevirtual 26, 3) := by decide +kernel
theorem dL_safe_7 : decode cL_safe 7 = .ok (.i2l, 1) := by decide +kernel
theorem dL_safe_8 : decode cL_safe 8 = .ok (.lastore, 1) := by decide +kernel
theorem dL_safe_9 : decode cL_safe 9 = .ok (.goto 6, 3) := by decide +kernel
theorem dL_safe_12 : decode cL_safe 12 = .ok (.astore_n 3, 1) := by decide +kernel
theorem dL_safe_13 : decode cL_safe 13 = .ok (.iconst 1, 1) := by decide +kernel
theorem dL_safe_14 : decode cL_safe 14 = .ok (.ireturn, 1) := by decide +kernel
theorem dL_safe_15 : decode cL_safe 15 = .ok (.iconst 0, 1) := by decide +kernel
theorem dL_safe_16 : decode cL_safe 16 = .ok (.ireturn, 1) := by decide +kernel
theorem dL_rows_0 : decode cL_rows 0 = .ok (.aload_n 2, 1) := by decide +kernel
theorem dL_rows_1 : decode cL_rows 1 = .ok (.iconst 0, 1) := by decide +kernel
theorem dL_rows_2 : decode cL_rows 2 = .ok (.aload_n 0, 1) := by decide +kernel
theorem dL_rows_3 : decode cL_rows 3 = .ok (.iload_n 1, 1) := by decide +kernel
theorem dL_rows_4 : decode cL_rows 4 = .ok (.invokevirtual 29, 3) := by decide +kernel
theorem dL_rows_7 : decode cL_rows 7 = .ok (.i2l, 1) := by decide +kernel
theorem dL_rows_8 : decode cL_rows 8 = .ok (.lastore, 1) := by decide +kernel
theorem dL_rows_9 : decode cL_rows 9 = .ok (.goto 6, 3) := by decide +kernel
theorem dL_rows_12 : decode cL_rows 12 = .ok (.astore_n 3, 1) := by decide +kernel
theorem dL_rows_13 : decode cL_rows 13 = .ok (.iconst 1, 1) := by decide +kernel
theorem dL_rows_14 : decode cL_rows 14 = .ok (.ireturn, 1) := by decide +kernel
theorem dL_rows_15 : decode cL_rows 15 = .ok (.iconst 0, 1) := by decide +kernel
theorem dL_rows_16 : decode cL_rows 16 = .ok (.ireturn, 1) := by decide +kernel
theorem dL_setFog_0 : decode cL_setFog 0 = .ok (.aload_n 3, 1) := by decide +kernel
theorem dL_setFog_1 : decode cL_setFog 1 = .ok (.iconst 0, 1) := by decide +kernel
theorem dL_setFog_2 : decode cL_setFog 2 = .ok (.aload_n 0, 1) := by decide +kernel
theorem dL_setFog_3 : decode cL_setFog 3 = .ok (.iload_n 1, 1) := by decide +kernel
theorem dL_setFog_4 : decode cL_setFog 4 = .ok (.iload_n 2, 1) := by decide +kernel
theorem dL_setFog_5 : decode cL_setFog 5 = .ok (.invokevirtual 32, 3) := by decide +kernel
theorem dL_setFog_8 : decode cL_setFog 8 = .ok (.i2l, 1) := by decide +kernel
theorem dL_setFog_9 : decode cL_setFog 9 = .ok (.lastore, 1) := by decide +kernel
theorem dL_setFog_10 : decode cL_setFog 10 = .ok (.goto 11, 3) := by decide +kernel
theorem dL_setFog_13 : decode cL_setFog 13 = .ok (.astore 4, 2) := by decide +kernel
theorem dL_setFog_15 : decode cL_setFog 15 = .ok (.iconst 1, 1) := by decide +kernel
theorem dL_setFog_16 : decode cL_setFog 16 = .ok (.ireturn, 1) := by decide +kernel
theorem dL_setFog_17 : decode cL_setFog 17 = .ok (.astore 4, 2) := by decide +kernel
theorem dL_setFog_19 : decode cL_setFog 19 = .ok (.iconst 2, 1) := by decide +kernel
theorem dL_setFog_20 : decode cL_setFog 20 = .ok (.ireturn, 1) := by decide +kernel
theorem dL_setFog_21 : decode cL_setFog 21 = .ok (.iconst 0, 1) := by decide +kernel
theorem dL_setFog_22 : decode cL_setFog 22 = .ok (.ireturn, 1) := by decide +kernel
theorem dL_rebuild_0 : decode cL_rebuild 0 = .ok (.aload_n 3, 1) := by decide +kernel
theorem dL_rebuild_1 : decode cL_rebuild 1 = .ok (.iconst 0, 1) := by decide +kernel
theorem dL_rebuild_2 : decode cL_rebuild 2 = .ok (.aload_n 0, 1) := by decide +kernel
theorem dL_rebuild_3 : decode cL_rebuild 3 = .ok (.iload_n 1, 1) := by decide +kernel
theorem dL_rebuild_4 : decode cL_rebuild 4 = .ok (.iload_n 2, 1) := by decide +kernel
theorem dL_rebuild_5 : decode cL_rebuild 5 = .ok (.invokevirtual 35, 3) := by decide +kernel
theorem dL_rebuild_8 : decode cL_rebuild 8 = .ok (.i2l, 1) := by decide +kernel
theorem dL_rebuild_9 : decode cL_rebuild 9 = .ok (.lastore, 1) := by decide +kernel
theorem dL_rebuild_10 : decode cL_rebuild 10 = .ok (.goto 11, 3) := by decide +kernel
theorem dL_rebuild_13 : decode cL_rebuild 13 = .ok (.astore 4, 2) := by decide +kernel
theorem dL_rebuild_15 : decode cL_rebuild 15 = .ok (.iconst 1, 1) := by decide +kernel
theorem dL_rebuild_16 : decode cL_rebuild 16 = .ok (.ireturn, 1) := by decide +kernel
theorem dL_rebuild_17 : decode cL_rebuild 17 = .ok (.astore 4, 2) := by decide +kernel
theorem dL_rebuild_19 : decode cL_rebuild 19 = .ok (.iconst 2, 1) := by decide +kernel
theorem dL_rebuild_20 : decode cL_rebuild 20 = .ok (.ireturn, 1) := by decide +kernel
theorem dL_rebuild_21 : decode cL_rebuild 21 = .ok (.iconst 0, 1) := by decide +kernel
theorem dL_rebuild_22 : decode cL_rebuild 22 = .ok (.ireturn, 1) := by decide +kernel
theorem dL_setToll_0 : decode cL_setToll 0 = .ok (.aload_n 3, 1) := by decide +kernel
theorem dL_setToll_1 : decode cL_setToll 1 = .ok (.iconst 0, 1) := by decide +kernel
theorem dL_setToll_2 : decode cL_setToll 2 = .ok (.aload_n 0, 1) := by decide +kernel
theorem dL_setToll_3 : decode cL_setToll 3 = .ok (.iload_n 1, 1) := by decide +kernel
theorem dL_setToll_4 : decode cL_setToll 4 = .ok (.iload_n 2, 1) := by decide +kernel
theorem dL_setToll_5 : decode cL_setToll 5 = .ok (.invokevirtual 38, 3) := by decide +kernel
theorem dL_setToll_8 : decode cL_setToll 8 = .ok (.i2l, 1) := by decide +kernel
theorem dL_setToll_9 : decode cL_setToll 9 = .ok (.lastore, 1) := by decide +kernel
theorem dL_setToll_10 : decode cL_setToll 10 = .ok (.goto 7, 3) := by decide +kernel
theorem dL_setToll_13 : decode cL_setToll 13 = .ok (.astore 4, 2) := by decide +kernel
theorem dL_setToll_15 : decode cL_setToll 15 = .ok (.iconst 1, 1) := by decide +kernel
theorem dL_setToll_16 : decode cL_setToll 16 = .ok (.ireturn, 1) := by decide +kernel
theorem dL_setToll_17 : decode cL_setToll 17 = .ok (.iconst 0, 1) := by decide +kernel
theorem dL_setToll_18 : decode cL_setToll 18 = .ok (.ireturn, 1) := by decide +kernel
theorem dL_come_0 : decode cL_come 0 = .ok (.aload 7, 2) := by decide +kernel
theorem dL_come_2 : decode cL_come 2 = .ok (.iconst 0, 1) := by decide +kernel
theorem dL_come_3 : decode cL_come 3 = .ok (.aload_n 0, 1) := by decide +kernel
theorem dL_come_4 : decode cL_come 4 = .ok (.iload_n 1, 1) := by decide +kernel
theorem dL_come_5 : decode cL_come 5 = .ok (.iload_n 2, 1) := by decide +kernel
theorem dL_come_6 : decode cL_come 6 = .ok (.iload_n 3, 1) := by decide +kernel
theorem dL_come_7 : decode cL_come 7 = .ok (.iload 4, 2) := by decide +kernel
theorem dL_come_9 : decode cL_come 9 = .ok (.iload 5, 2) := by decide +kernel
theorem dL_come_11 : decode cL_come 11 = .ok (.iload 6, 2) := by decide +kernel
theorem dL_come_13 : decode cL_come 13 = .ok (.invokevirtual 41, 3) := by decide +kernel
theorem dL_come_16 : decode cL_come 16 = .ok (.i2l, 1) := by decide +kernel
theorem dL_come_17 : decode cL_come 17 = .ok (.lastore, 1) := by decide +kernel
theorem dL_come_18 : decode cL_come 18 = .ok (.goto 11, 3) := by decide +kernel
theorem dL_come_21 : decode cL_come 21 = .ok (.astore 8, 2) := by decide +kernel
theorem dL_come_23 : decode cL_come 23 = .ok (.iconst 1, 1) := by decide +kernel
theorem dL_come_24 : decode cL_come 24 = .ok (.ireturn, 1) := by decide +kernel
theorem dL_come_25 : decode cL_come 25 = .ok (.astore 8, 2) := by decide +kernel
theorem dL_come_27 : decode cL_come 27 = .ok (.iconst 2, 1) := by decide +kernel
theorem dL_come_28 : decode cL_come 28 = .ok (.ireturn, 1) := by decide +kernel
theorem dL_come_29 : decode cL_come 29 = .ok (.iconst 0, 1) := by decide +kernel
theorem dL_come_30 : decode cL_come 30 = .ok (.ireturn, 1) := by decide +kernel
theorem dL_cart_0 : decode cL_cart 0 = .ok (.aload_n 3, 1) := by decide +kernel
theorem dL_cart_1 : decode cL_cart 1 = .ok (.iconst 0, 1) := by decide +kernel
theorem dL_cart_2 : decode cL_cart 2 = .ok (.aload_n 0, 1) := by decide +kernel
theorem dL_cart_3 : decode cL_cart 3 = .ok (.iload_n 1, 1) := by decide +kernel
theorem dL_cart_4 : decode cL_cart 4 = .ok (.iload_n 2, 1) := by decide +kernel
theorem dL_cart_5 : decode cL_cart 5 = .ok (.invokevirtual 45, 3) := by decide +kernel
theorem dL_cart_8 : decode cL_cart 8 = .ok (.i2l, 1) := by decide +kernel
theorem dL_cart_9 : decode cL_cart 9 = .ok (.lastore, 1) := by decide +kernel
theorem dL_cart_10 : decode cL_cart 10 = .ok (.goto 7, 3) := by decide +kernel
theorem dL_cart_13 : decode cL_cart 13 = .ok (.astore 4, 2) := by decide +kernel
theorem dL_cart_15 : decode cL_cart 15 = .ok (.iconst 1, 1) := by decide +kernel
theorem dL_cart_16 : decode cL_cart 16 = .ok (.ireturn, 1) := by decide +kernel
theorem dL_cart_17 : decode cL_cart 17 = .ok (.iconst 0, 1) := by decide +kernel
theorem dL_cart_18 : decode cL_cart 18 = .ok (.ireturn, 1) := by decide +kernel
theorem dL_queue_0 : decode cL_queue 0 = .ok (.aload_n 3, 1) := by decide +kernel
theorem dL_queue_1 : decode cL_queue 1 = .ok (.iconst 0, 1) := by decide +kernel
theorem dL_queue_2 : decode cL_queue 2 = .ok (.aload_n 0, 1) := by decide +kernel
theorem dL_queue_3 : decode cL_queue 3 = .ok (.iload_n 1, 1) := by decide +kernel
theorem dL_queue_4 : decode cL_queue 4 = .ok (.iload_n 2, 1) := by decide +kernel
theorem dL_queue_5 : decode cL_queue 5 = .ok (.invokevirtual 48, 3) := by decide +kernel
theorem dL_queue_8 : decode cL_queue 8 = .ok (.i2l, 1) := by decide +kernel
theorem dL_queue_9 : decode cL_queue 9 = .ok (.lastore, 1) := by decide +kernel
theorem dL_queue_10 : decode cL_queue 10 = .ok (.goto 7, 3) := by decide +kernel
theorem dL_queue_13 : decode cL_queue 13 = .ok (.astore 4, 2) := by decide +kernel
theorem dL_queue_15 : decode cL_queue 15 = .ok (.iconst 1, 1) := by decide +kernel
theorem dL_queue_16 : decode cL_queue 16 = .ok (.ireturn, 1) := by decide +kernel
theorem dL_queue_17 : decode cL_queue 17 = .ok (.iconst 0, 1) := by decide +kernel
theorem dL_queue_18 : decode cL_queue 18 = .ok (.ireturn, 1) := by decide +kernel
theorem dL_box_0 : decode cL_box 0 = .ok (.aload_n 3, 1) := by decide +kernel
theorem dL_box_1 : decode cL_box 1 = .ok (.iconst 0, 1) := by decide +kernel
theorem dL_box_2 : decode cL_box 2 = .ok (.aload_n 0, 1) := by decide +kernel
theorem dL_box_3 : decode cL_box 3 = .ok (.iload_n 1, 1) := by decide +kernel
theorem dL_box_4 : decode cL_box 4 = .ok (.iload_n 2, 1) := by decide +kernel
theorem dL_box_5 : decode cL_box 5 = .ok (.invokevirtual 51, 3) := by decide +kernel
theorem dL_box_8 : decode cL_box 8 = .ok (.i2l, 1) := by decide +kernel
theorem dL_box_9 : decode cL_box 9 = .ok (.lastore, 1) := by decide +kernel
theorem dL_box_10 : decode cL_box 10 = .ok (.goto 7, 3) := by decide +kernel
theorem dL_box_13 : decode cL_box 13 = .ok (.astore 4, 2) := by decide +kernel
theorem dL_box_15 : decode cL_box 15 = .ok (.iconst 1, 1) := by decide +kernel
theorem dL_box_16 : decode cL_box 16 = .ok (.ireturn, 1) := by decide +kernel
theorem dL_box_17 : decode cL_box 17 = .ok (.iconst 0, 1) := by decide +kernel
theorem dL_box_18 : decode cL_box 18 = .ok (.ireturn, 1) := by decide +kernel
theorem dL_empty_0 : decode cL_empty 0 = .ok (.aload_n 2, 1) := by decide +kernel
theorem dL_empty_1 : decode cL_empty 1 = .ok (.iconst 0, 1) := by decide +kernel
theorem dL_empty_2 : decode cL_empty 2 = .ok (.aload_n 0, 1) := by decide +kernel
theorem dL_empty_3 : decode cL_empty 3 = .ok (.iload_n 1, 1) := by decide +kernel
theorem dL_empty_4 : decode cL_empty 4 = .ok (.invokevirtual 54, 3) := by decide +kernel
theorem dL_empty_7 : decode cL_empty 7 = .ok (.i2l, 1) := by decide +kernel
theorem dL_empty_8 : decode cL_empty 8 = .ok (.lastore, 1) := by decide +kernel
theorem dL_empty_9 : decode cL_empty 9 = .ok (.goto 6, 3) := by decide +kernel
theorem dL_empty_12 : decode cL_empty 12 = .ok (.astore_n 3, 1) := by decide +kernel
theorem dL_empty_13 : decode cL_empty 13 = .ok (.iconst 1, 1) := by decide +kernel
theorem dL_empty_14 : decode cL_empty 14 = .ok (.ireturn, 1) := by decide +kernel
theorem dL_empty_15 : decode cL_empty 15 = .ok (.iconst 0, 1) := by decide +kernel
theorem dL_empty_16 : decode cL_empty 16 = .ok (.ireturn, 1) := by decide +kernel
theorem dL_pass_0 : decode cL_pass 0 = .ok (.aload_n 2, 1) := by decide +kernel
theorem dL_pass_1 : decode cL_pass 1 = .ok (.iconst 0, 1) := by decide +kernel
theorem dL_pass_2 : decode cL_pass 2 = .ok (.aload_n 0, 1) := by decide +kernel
theorem dL_pass_3 : decode cL_pass 3 = .ok (.iload_n 1, 1) := by decide +kernel
theorem dL_pass_4 : decode cL_pass 4 = .ok (.invokevirtual 57, 3) := by decide +kernel
theorem dL_pass_7 : decode cL_pass 7 = .ok (.i2l, 1) := by decide +kernel
theorem dL_pass_8 : decode cL_pass 8 = .ok (.lastore, 1) := by decide +kernel
theorem dL_pass_9 : decode cL_pass 9 = .ok (.goto 6, 3) := by decide +kernel
theorem dL_pass_12 : decode cL_pass 12 = .ok (.astore_n 3, 1) := by decide +kernel
theorem dL_pass_13 : decode cL_pass 13 = .ok (.iconst 1, 1) := by decide +kernel
theorem dL_pass_14 : decode cL_pass 14 = .ok (.ireturn, 1) := by decide +kernel
theorem dL_pass_15 : decode cL_pass 15 = .ok (.iconst 0, 1) := by decide +kernel
theorem dL_pass_16 : decode cL_pass 16 = .ok (.ireturn, 1) := by decide +kernel
theorem dL_count_0 : decode cL_count 0 = .ok (.aload_n 2, 1) := by decide +kernel
theorem dL_count_1 : decode cL_count 1 = .ok (.iconst 0, 1) := by decide +kernel
theorem dL_count_2 : decode cL_count 2 = .ok (.aload_n 0, 1) := by decide +kernel
theorem dL_count_3 : decode cL_count 3 = .ok (.iload_n 1, 1) := by decide +kernel
theorem dL_count_4 : decode cL_count 4 = .ok (.invokevirtual 60, 3) := by decide +kernel
theorem dL_count_7 : decode cL_count 7 = .ok (.i2l, 1) := by decide +kernel
theorem dL_count_8 : decode cL_count 8 = .ok (.lastore, 1) := by decide +kernel
theorem dL_count_9 : decode cL_count 9 = .ok (.goto 6, 3) := by decide +kernel
theorem dL_count_12 : decode cL_count 12 = .ok (.astore_n 3, 1) := by decide +kernel
theorem dL_count_13 : decode cL_count 13 = .ok (.iconst 1, 1) := by decide +kernel
theorem dL_count_14 : decode cL_count 14 = .ok (.ireturn, 1) := by decide +kernel
theorem dL_count_15 : decode cL_count 15 = .ok (.iconst 0, 1) := by decide +kernel
theorem dL_count_16 : decode cL_count 16 = .ok (.ireturn, 1) := by decide +kernel
theorem dL_over_0 : decode cL_over 0 = .ok (.aload_n 2, 1) := by decide +kernel
theorem dL_over_1 : decode cL_over 1 = .ok (.iconst 0, 1) := by decide +kernel
theorem dL_over_2 : decode cL_over 2 = .ok (.aload_n 0, 1) := by decide +kernel
theorem dL_over_3 : decode cL_over 3 = .ok (.iload_n 1, 1) := by decide +kernel
theorem dL_over_4 : decode cL_over 4 = .ok (.invokevirtual 63, 3) := by decide +kernel
theorem dL_over_7 : decode cL_over 7 = .ok (.i2l, 1) := by decide +kernel
theorem dL_over_8 : decode cL_over 8 = .ok (.lastore, 1) := by decide +kernel
theorem dL_over_9 : decode cL_over 9 = .ok (.goto 6, 3) := by decide +kernel
theorem dL_over_12 : decode cL_over 12 = .ok (.astore_n 3, 1) := by decide +kernel
theorem dL_over_13 : decode cL_over 13 = .ok (.iconst 1, 1) := by decide +kernel
theorem dL_over_14 : decode cL_over 14 = .ok (.ireturn, 1) := by decide +kernel
theorem dL_over_15 : decode cL_over 15 = .ok (.iconst 0, 1) := by decide +kernel
theorem dL_over_16 : decode cL_over 16 = .ok (.ireturn, 1) := by decide +kernel
theorem dL_foresee_0 : decode cL_foresee 0 = .ok (.aload_n 3, 1) := by decide +kernel
theorem dL_foresee_1 : decode cL_foresee 1 = .ok (.iconst 0, 1) := by decide +kernel
theorem dL_foresee_2 : decode cL_foresee 2 = .ok (.aload_n 0, 1) := by decide +kernel
theorem dL_foresee_3 : decode cL_foresee 3 = .ok (.iload_n 1, 1) := by decide +kernel
theorem dL_foresee_4 : decode cL_foresee 4 = .ok (.iload_n 2, 1) := by decide +kernel
theorem dL_foresee_5 : decode cL_foresee 5 = .ok (.invokevirtual 66, 3) := by decide +kernel
theorem dL_foresee_8 : decode cL_foresee 8 = .ok (.i2l, 1) := by decide +kernel
theorem dL_foresee_9 : decode cL_foresee 9 = .ok (.lastore, 1) := by decide +kernel
theorem dL_foresee_10 : decode cL_foresee 10 = .ok (.goto 11, 3) := by decide +kernel
theorem dL_foresee_13 : decode cL_foresee 13 = .ok (.astore 4, 2) := by decide +kernel
theorem dL_foresee_15 : decode cL_foresee 15 = .ok (.iconst 1, 1) := by decide +kernel
theorem dL_foresee_16 : decode cL_foresee 16 = .ok (.ireturn, 1) := by decide +kernel
theorem dL_foresee_17 : decode cL_foresee 17 = .ok (.astore 4, 2) := by decide +kernel
theorem dL_foresee_19 : decode cL_foresee 19 = .ok (.iconst 2, 1) := by decide +kernel
theorem dL_foresee_20 : decode cL_foresee 20 = .ok (.ireturn, 1) := by decide +kernel
theorem dL_foresee_21 : decode cL_foresee 21 = .ok (.iconst 0, 1) := by decide +kernel
theorem dL_foresee_22 : decode cL_foresee 22 = .ok (.ireturn, 1) := by decide +kernel
theorem dL_law_0 : decode cL_law 0 = .ok (.new 8, 3) := by decide +kernel
theorem dL_law_3 : decode cL_law 3 = .ok (.dup, 1) := by decide +kernel
theorem dL_law_4 : decode cL_law 4 = .ok (.invokespecial 69, 3) := by decide +kernel
theorem dL_law_7 : decode cL_law 7 = .ok (.astore_n 1, 1) := by decide +kernel
theorem dL_law_8 : decode cL_law 8 = .ok (.new 70, 3) := by decide +kernel
theorem dL_law_11 : decode cL_law 11 = .ok (.dup, 1) := by decide +kernel
theorem dL_law_12 : decode cL_law 12 = .ok (.invokespecial 72, 3) := by decide +kernel
theorem dL_law_15 : decode cL_law 15 = .ok (.astore_n 2, 1) := by decide +kernel
theorem dL_law_16 : decode cL_law 16 = .ok (.iconst 1, 1) := by decide +kernel
theorem dL_law_17 : decode cL_law 17 = .ok (.newarray .long, 2) := by decide +kernel
theorem dL_law_19 : decode cL_law 19 = .ok (.astore_n 3, 1) := by decide +kernel
theorem dL_law_20 : decode cL_law 20 = .ok (.iconst 0, 1) := by decide +kernel
theorem dL_law_21 : decode cL_law 21 = .ok (.istore 4, 2) := by decide +kernel
theorem dL_law_23 : decode cL_law 23 = .ok (.iload 4, 2) := by decide +kernel
theorem dL_law_25 : decode cL_law 25 = .ok (.aload_n 0, 1) := by decide +kernel
theorem dL_law_26 : decode cL_law 26 = .ok (.arraylength, 1) := by decide +kernel
theorem dL_law_27 : decode cL_law 27 = .ok (.bipush 7, 2) := by decide +kernel
theorem dL_law_29 : decode cL_law 29 = .ok (.isub, 1) := by decide +kernel
theorem dL_law_30 : decode cL_law 30 = .ok (.if_icmp .gt 1323, 3) := by decide +kernel
theorem dL_law_33 : decode cL_law 33 = .ok (.aload_n 0, 1) := by decide +kernel
theorem dL_law_34 : decode cL_law 34 = .ok (.iload 4, 2) := by decide +kernel
theorem dL_law_36 : decode cL_law 36 = .ok (.iaload, 1) := by decide +kernel
theorem dL_law_37 : decode cL_law 37 = .ok (.bipush 31, 2) := by decide +kernel
theorem dL_law_39 : decode cL_law 39 = .ok (.iand, 1) := by decide +kernel
theorem dL_law_40 : decode cL_law 40 = .ok (.tableswitch 1307 0 20 #[100, 156, 224, 280, 336, 392, 460, 528, 596, 609, 743, 811, 879, 947, 1003, 1059, 1115, 1171, 1184, 1252, 1293], 100) := by decide +kernel
theorem dL_law_140 : decode cL_law 140 = .ok (.aload_n 1, 1) := by decide +kernel
theorem dL_law_141 : decode cL_law 141 = .ok (.aload_n 0, 1) := by decide +kernel
theorem dL_law_142 : decode cL_law 142 = .ok (.iload 4, 2) := by decide +kernel
theorem dL_law_144 : decode cL_law 144 = .ok (.iconst 1, 1) := by decide +kernel
theorem dL_law_145 : decode cL_law 145 = .ok (.iadd, 1) := by decide +kernel
theorem dL_law_146 : decode cL_law 146 = .ok (.iaload, 1) := by decide +kernel
theorem dL_law_147 : decode cL_law 147 = .ok (.aload_n 3, 1) := by decide +kernel
theorem dL_law_148 : decode cL_law 148 = .ok (.invokestatic 73, 3) := by decide +kernel
theorem dL_law_151 : decode cL_law 151 = .ok (.istore 5, 2) := by decide +kernel
theorem dL_law_153 : decode cL_law 153 = .ok (.aload_n 2, 1) := by decide +kernel
theorem dL_law_154 : decode cL_law 154 = .ok (.aload_n 0, 1) := by decide +kernel
theorem dL_law_155 : decode cL_law 155 = .ok (.iload 4, 2) := by decide +kernel
theorem dL_law_157 : decode cL_law 157 = .ok (.iconst 1, 1) := by decide +kernel
theorem dL_law_158 : decode cL_law 158 = .ok (.iadd, 1) := by decide +kernel
theorem dL_law_159 : decode cL_law 159 = .ok (.iaload, 1) := by decide +kernel
theorem dL_law_160 : decode cL_law 160 = .ok (.invokevirtual 78, 3) := by decide +kernel
theorem dL_law_163 : decode cL_law 163 = .ok (.istore 6, 2) := by decide +kernel
theorem dL_law_165 : decode cL_law 165 = .ok (.aload_n 2, 1) := by decide +kernel
theorem dL_law_166 : decode cL_law 166 = .ok (.invokevirtual 79, 3) := by decide +kernel
theorem dL_law_169 : decode cL_law 169 = .ok (.iload 5, 2) := by decide +kernel
theorem dL_law_171 : decode cL_law 171 = .ok (.if_icmp .eq 5, 3) := by decide +kernel
theorem dL_law_174 : decode cL_law 174 = .ok (.iconst 0, 1) := by decide +kernel
theorem dL_law_175 : decode cL_law 175 = .ok (.ireturn, 1) := by decide +kernel
theorem dL_law_176 : decode cL_law 176 = .ok (.iload 5, 2) := by decide +kernel
theorem dL_law_178 : decode cL_law 178 = .ok (.ifCond .ne 15, 3) := by decide +kernel
theorem dL_law_181 : decode cL_law 181 = .ok (.aload_n 3, 1) := by decide +kernel
theorem dL_law_182 : decode cL_law 182 = .ok (.iconst 0, 1) := by decide +kernel
theorem dL_law_183 : decode cL_law 183 = .ok (.laload, 1) := by decide +kernel
theorem dL_law_184 : decode cL_law 184 = .ok (.iload 6, 2) := by decide +kernel
theorem dL_law_186 : decode cL_law 186 = .ok (.i2l, 1) := by decide +kernel
theorem dL_law_187 : decode cL_law 187 = .ok (.lcmp, 1) := by decide +kernel
theorem dL_law_188 : decode cL_law 188 = .ok (.ifCond .eq 5, 3) := by decide +kernel
theorem dL_law_191 : decode cL_law 191 = .ok (.iconst 0, 1) := by decide +kernel
theorem dL_law_192 : decode cL_law 192 = .ok (.ireturn, 1) := by decide +kernel
theorem dL_law_193 : decode cL_law 193 = .ok (.goto 1154, 3) := by decide +kernel
theorem dL_law_196 : decode cL_law 196 = .ok (.aload_n 1, 1) := by decide +kernel
theorem dL_law_197 : decode cL_law 197 = .ok (.aload_n 0, 1) := by decide +kernel
theorem dL_law_198 : decode cL_law 198 = .ok (.iload 4, 2) := by decide +kernel
theorem dL_law_200 : decode cL_law 200 = .ok (.iconst 1, 1) := by decide +kernel
theorem dL_law_201 : decode cL_law 201 = .ok (.iadd, 1) := by decide +kernel
theorem dL_law_202 : decode cL_law 202 = .ok (.iaload, 1) := by decide +kernel
theorem dL_law_203 : decode cL_law 203 = .ok (.aload_n 0, 1) := by decide +kernel
theorem dL_law_204 : decode cL_law 204 = .ok (.iload 4, 2) := by decide +kernel
theorem dL_law_206 : decode cL_law 206 = .ok (.iconst 2, 1) := by decide +kernel
theorem dL_law_207 : decode cL_law 207 = .ok (.iadd, 1) := by decide +kernel
theorem dL_law_208 : decode cL_law 208 = .ok (.iaload, 1) := by decide +kernel
theorem dL_law_209 : decode cL_law 209 = .ok (.aload_n 3, 1) := by decide +kernel
theorem dL_law_210 : decode cL_law 210 = .ok (.invokestatic 83, 3) := by decide +kernel
theorem dL_law_213 : decode cL_law 213 = .ok (.istore 5, 2) := by decide +kernel
theorem dL_law_215 : decode cL_law 215 = .ok (.aload_n 2, 1) := by decide +kernel
theorem dL_law_216 : decode cL_law 216 = .ok (.aload_n 0, 1) := by decide +kernel
theorem dL_law_217 : decode cL_law 217 = .ok (.iload 4, 2) := by decide +kernel
theorem dL_law_219 : decode cL_law 219 = .ok (.iconst 1, 1) := by decide +kernel
theorem dL_law_220 : decode cL_law 220 = .ok (.iadd, 1) := by decide +kernel
theorem dL_law_221 : decode cL_law 221 = .ok (.iaload, 1) := by decide +kernel
theorem dL_law_222 : decode cL_law 222 = .ok (.aload_n 0, 1) := by decide +kernel
theorem dL_law_223 : decode cL_law 223 = .ok (.iload 4, 2) := by decide +kernel
theorem dL_law_225 : decode cL_law 225 = .ok (.iconst 2, 1) := by decide +kernel
theorem dL_law_226 : decode cL_law 226 = .ok (.iadd, 1) := by decide +kernel
theorem dL_law_227 : decode cL_law 227 = .ok (.iaload, 1) := by decide +kernel
theorem dL_law_228 : decode cL_law 228 = .ok (.invokevirtual 86, 3) := by decide +kernel
theorem dL_law_231 : decode cL_law 231 = .ok (.istore 6, 2) := by decide +kernel
theorem dL_law_233 : decode cL_law 233 = .ok (.aload_n 2, 1) := by decide +kernel
theorem dL_law_234 : decode cL_law 234 = .ok (.invokevirtual 79, 3) := by decide +kernel
theorem dL_law_237 : decode cL_law 237 = .ok (.iload 5, 2) := by decide +kernel
theorem dL_law_239 : decode cL_law 239 = .ok (.if_icmp .eq 5, 3) := by decide +kernel
theorem dL_law_242 : decode cL_law 242 = .ok (.iconst 0, 1) := by decide +kernel
theorem dL_law_243 : decode cL_law 243 = .ok (.ireturn, 1) := by decide +kernel
theorem dL_law_244 : decode cL_law 244 = .ok (.iload 5, 2) := by decide +kernel
theorem dL_law_246 : decode cL_law 246 = .ok (.ifCond .ne 15, 3) := by decide +kernel
theorem dL_law_249 : decode cL_law 249 = .ok (.aload_n 3, 1) := by decide +kernel
theorem dL_law_250 : decode cL_law 250 = .ok (.iconst 0, 1) := by decide +kernel
theorem dL_law_251 : decode cL_law 251 = .ok (.laload, 1) := by decide +kernel
theorem dL_law_252 : decode cL_law 252 = .ok (.iload 6, 2) := by decide +kernel
theorem dL_law_254 : decode cL_law 254 = .ok (.i2l, 1) := by decide +kernel
theorem dL_law_255 : decode cL_law 255 = .ok (.lcmp, 1) := by decide +kernel
theorem dL_law_256 : decode cL_law 256 = .ok (.ifCond .eq 5, 3) := by decide +kernel
theorem dL_law_259 : decode cL_law 259 = .ok (.iconst 0, 1) := by decide +kernel
theorem dL_law_260 : decode cL_law 260 = .ok (.ireturn, 1) := by decide +kernel
theorem dL_law_261 : decode cL_law 261 = .ok (.goto 1086, 3) := by decide +kernel
theorem dL_law_264 : decode cL_law 264 = .ok (.aload_n 1, 1) := by decide +kernel
theorem dL_law_265 : decode cL_law 265 = .ok (.aload_n 0, 1) := by decide +kernel
theorem dL_law_266 : decode cL_law 266 = .ok (.iload 4, 2) := by decide +kernel
theorem dL_law_268 : decode cL_law 268 = .ok (.iconst 1, 1) := by decide +kernel
theorem dL_law_269 : decode cL_law 269 = .ok (.iadd, 1) := by decide +kernel
theorem dL_law_270 : decode cL_law 270 = .ok (.iaload, 1) := by decide +kernel
theorem dL_law_271 : decode cL_law 271 = .ok (.aload_n 3, 1) := by decide +kernel
theorem dL_law_272 : decode cL_law 272 = .ok (.invokestatic 87, 3) := by decide +kernel
theorem dL_law_275 : decode cL_law 275 = .ok (.istore 5, 2) := by decide +kernel
theorem dL_law_277 : decode cL_law 277 = .ok (.aload_n 2, 1) := by decide +kernel
theorem dL_law_278 : decode cL_law 278 = .ok (.aload_n 0, 1) := by decide +kernel
theorem dL_law_279 : decode cL_law 279 = .ok (.iload 4, 2) := by decide +kernel
theorem dL_law_281 : decode cL_law 281 = .ok (.iconst 1, 1) := by decide +kernel
theorem dL_law_282 : decode cL_law 282 = .ok (.iadd, 1) := by decide +kernel
theorem dL_law_283 : decode cL_law 283 = .ok (.iaload, 1) := by decide +kernel
theorem dL_law_284 : decode cL_law 284 = .ok (.invokevirtual 89, 3) := by decide +kernel
theorem dL_law_287 : decode cL_law 287 = .ok (.istore 6, 2) := by decide +kernel
theorem dL_law_289 : decode cL_law 289 = .ok (.aload_n 2, 1) := by decide +kernel
theorem dL_law_290 : decode cL_law 290 = .ok (.invokevirtual 79, 3) := by decide +kernel
theorem dL_law_293 : decode cL_law 293 = .ok (.iload 5, 2) := by decide +kernel
theorem dL_law_295 : decode cL_law 295 = .ok (.if_icmp .eq 5, 3) := by decide +kernel
theorem dL_law_298 : decode cL_law 298 = .ok (.iconst 0, 1) := by decide +kernel
theorem dL_law_299 : decode cL_law 299 = .ok (.ireturn, 1) := by decide +kernel
theorem dL_law_300 : decode cL_law 300 = .ok (.iload 5, 2) := by decide +kernel
theorem dL_law_302 : decode cL_law 302 = .ok (.ifCond .ne 15, 3) := by decide +kernel
theorem dL_law_305 : decode cL_law 305 = .ok (.aload_n 3, 1) := by decide +kernel
theorem dL_law_306 : decode cL_law 306 = .ok (.iconst 0, 1) := by decide +kernel
theorem dL_law_307 : decode cL_law 307 = .ok (.laload, 1) := by decide +kernel
theorem dL_law_308 : decode cL_law 308 = .ok (.iload 6, 2) := by decide +kernel
theorem dL_law_310 : decode cL_law 310 = .ok (.i2l, 1) := by decide +kernel
theorem dL_law_311 : decode cL_law 311 = .ok (.lcmp, 1) := by decide +kernel
theorem dL_law_312 : decode cL_law 312 = .ok (.ifCond .eq 5, 3) := by decide +kernel
theorem dL_law_315 : decode cL_law 315 = .ok (.iconst 0, 1) := by decide +kernel
theorem dL_law_316 : decode cL_law 316 = .ok (.ireturn, 1) := by decide +kernel
theorem dL_law_317 : decode cL_law 317 = .ok (.goto 1030, 3) := by decide +kernel
theorem dL_law_320 : decode cL_law 320 = .ok (.aload_n 1, 1) := by decide +kernel
theorem dL_law_321 : decode cL_law 321 = .ok (.aload_n 0, 1) := by decide +kernel
theorem dL_law_322 : decode cL_law 322 = .ok (.iload 4, 2) := by decide +kernel
theorem dL_law_324 : decode cL_law 324 = .ok (.iconst 1, 1) := by decide +kernel
theorem dL_law_325 : decode cL_law 325 = .ok (.iadd, 1) := by decide +kernel
theorem dL_law_326 : decode cL_law 326 = .ok (.iaload, 1) := by decide +kernel
theorem dL_law_327 : decode cL_law 327 = .ok (.aload_n 3, 1) := by decide +kernel
theorem dL_law_328 : decode cL_law 328 = .ok (.invokestatic 90, 3) := by decide +kernel
theorem dL_law_331 : decode cL_law 331 = .ok (.istore 5, 2) := by decide +kernel
theorem dL_law_333 : decode cL_law 333 = .ok (.aload_n 2, 1) := by decide +kernel
theorem dL_law_334 : decode cL_law 334 = .ok (.aload_n 0, 1) := by decide +kernel
theorem dL_law_335 : decode cL_law 335 = .ok (.iload 4, 2) := by decide +kernel
theorem dL_law_337 : decode cL_law 337 = .ok (.iconst 1, 1) := by decide +kernel
theorem dL_law_338 : decode cL_law 338 = .ok (.iadd, 1) := by decide +kernel
theorem dL_law_339 : decode cL_law 339 = .ok (.iaload, 1) := by decide +kernel
theorem dL_law_340 : decode cL_law 340 = .ok (.invokevirtual 92, 3) := by decide +kernel
theorem dL_law_343 : decode cL_law 343 = .ok (.istore 6, 2) := by decide +kernel
theorem dL_law_345 : decode cL_law 345 = .ok (.aload_n 2, 1) := by decide +kernel
theorem dL_law_346 : decode cL_law 346 = .ok (.invokevirtual 79, 3) := by decide +kernel
theorem dL_law_349 : decode cL_law 349 = .ok (.iload 5, 2) := by decide +kernel
theorem dL_law_351 : decode cL_law 351 = .ok (.if_icmp .eq 5, 3) := by decide +kernel
theorem dL_law_354 : decode cL_law 354 = .ok (.iconst 0, 1) := by decide +kernel
theorem dL_law_355 : decode cL_law 355 = .ok (.ireturn, 1) := by decide +kernel
theorem dL_law_356 : decode cL_law 356 = .ok (.iload 5, 2) := by decide +kernel
theorem dL_law_358 : decode cL_law 358 = .ok (.ifCond .ne 15, 3) := by decide +kernel
theorem dL_law_361 : decode cL_law 361 = .ok (.aload_n 3, 1) := by decide +kernel
theorem dL_law_362 : decode cL_law 362 = .ok (.iconst 0, 1) := by decide +kernel
theorem dL_law_363 : decode cL_law 363 = .ok (.laload, 1) := by decide +kernel
theorem dL_law_364 : decode cL_law 364 = .ok (.iload 6, 2) := by decide +kernel
theorem dL_law_366 : decode cL_law 366 = .ok (.i2l, 1) := by decide +kernel
theorem dL_law_367 : decode cL_law 367 = .ok (.lcmp, 1) := by decide +kernel
theorem dL_law_368 : decode cL_law 368 = .ok (.ifCond .eq 5, 3) := by decide +kernel
theorem dL_law_371 : decode cL_law 371 = .ok (.iconst 0, 1) := by decide +kernel
theorem dL_law_372 : decode cL_law 372 = .ok (.ireturn, 1) := by decide +kernel
theorem dL_law_373 : decode cL_law 373 = .ok (.goto 974, 3) := by decide +kernel
theorem dL_law_376 : decode cL_law 376 = .ok (.aload_n 1, 1) := by decide +kernel
theorem dL_law_377 : decode cL_law 377 = .ok (.aload_n 0, 1) := by decide +kernel
theorem dL_law_378 : decode cL_law 378 = .ok (.iload 4, 2) := by decide +kernel
theorem dL_law_380 : decode cL_law 380 = .ok (.iconst 1, 1) := by decide +kernel
theorem dL_law_381 : decode cL_law 381 = .ok (.iadd, 1) := by decide +kernel
theorem dL_law_382 : decode cL_law 382 = .ok (.iaload, 1) := by decide +kernel
theorem dL_law_383 : decode cL_law 383 = .ok (.aload_n 3, 1) := by decide +kernel
theorem dL_law_384 : decode cL_law 384 = .ok (.invokestatic 93, 3) := by decide +kernel
theorem dL_law_387 : decode cL_law 387 = .ok (.istore 5, 2) := by decide +kernel
theorem dL_law_389 : decode cL_law 389 = .ok (.aload_n 2, 1) := by decide +kernel
theorem dL_law_390 : decode cL_law 390 = .ok (.aload_n 0, 1) := by decide +kernel
theorem dL_law_391 : decode cL_law 391 = .ok (.iload 4, 2) := by decide +kernel
theorem dL_law_393 : decode cL_law 393 = .ok (.iconst 1, 1) := by decide +kernel
theorem dL_law_394 : decode cL_law 394 = .ok (.iadd, 1) := by decide +kernel
theorem dL_law_395 : decode cL_law 395 = .ok (.iaload, 1) := by decide +kernel
theorem dL_law_396 : decode cL_law 396 = .ok (.invokevirtual 95, 3) := by decide +kernel
theorem dL_law_399 : decode cL_law 399 = .ok (.istore 6, 2) := by decide +kernel
theorem dL_law_401 : decode cL_law 401 = .ok (.aload_n 2, 1) := by decide +kernel
theorem dL_law_402 : decode cL_law 402 = .ok (.invokevirtual 79, 3) := by decide +kernel
theorem dL_law_405 : decode cL_law 405 = .ok (.iload 5, 2) := by decide +kernel
theorem dL_law_407 : decode cL_law 407 = .ok (.if_icmp .eq 5, 3) := by decide +kernel
theorem dL_law_410 : decode cL_law 410 = .ok (.iconst 0, 1) := by decide +kernel
theorem dL_law_411 : decode cL_law 411 = .ok (.ireturn, 1) := by decide +kernel
theorem dL_law_412 : decode cL_law 412 = .ok (.iload 5, 2) := by decide +kernel
theorem dL_law_414 : decode cL_law 414 = .ok (.ifCond .ne 15, 3) := by decide +kernel
theorem dL_law_417 : decode cL_law 417 = .ok (.aload_n 3, 1) := by decide +kernel
theorem dL_law_418 : decode cL_law 418 = .ok (.iconst 0, 1) := by decide +kernel
theorem dL_law_419 : decode cL_law 419 = .ok (.laload, 1) := by decide +kernel
theorem dL_law_420 : decode cL_law 420 = .ok (.iload 6, 2) := by decide +kernel
theorem dL_law_422 : decode cL_law 422 = .ok (.i2l, 1) := by decide +kernel
theorem dL_law_423 : decode cL_law 423 = .ok (.lcmp, 1) := by decide +kernel
theorem dL_law_424 : decode cL_law 424 = .ok (.ifCond .eq 5, 3) := by decide +kernel
theorem dL_law_427 : decode cL_law 427 = .ok (.iconst 0, 1) := by decide +kernel
theorem dL_law_428 : decode cL_law 428 = .ok (.ireturn, 1) := by decide +kernel
theorem dL_law_429 : decode cL_law 429 = .ok (.goto 918, 3) := by decide +kernel
theorem dL_law_432 : decode cL_law 432 = .ok (.aload_n 1, 1) := by decide +kernel
theorem dL_law_433 : decode cL_law 433 = .ok (.aload_n 0, 1) := by decide +kernel
theorem dL_law_434 : decode cL_law 434 = .ok (.iload 4, 2) := by decide +kernel
theorem dL_law_436 : decode cL_law 436 = .ok (.iconst 1, 1) := by decide +kernel
theorem dL_law_437 : decode cL_law 437 = .ok (.iadd, 1) := by decide +kernel
theorem dL_law_438 : decode cL_law 438 = .ok (.iaload, 1) := by decide +kernel
theorem dL_law_439 : decode cL_law 439 = .ok (.aload_n 0, 1) := by decide +kernel
theorem dL_law_440 : decode cL_law 440 = .ok (.iload 4, 2) := by decide +kernel
theorem dL_law_442 : decode cL_law 442 = .ok (.iconst 2, 1) := by decide +kernel
theorem dL_law_443 : decode cL_law 443 = .ok (.iadd, 1) := by decide +kernel
theorem dL_law_444 : decode cL_law 444 = .ok (.iaload, 1) := by decide +kernel
theorem dL_law_445 : decode cL_law 445 = .ok (.aload_n 3, 1) := by decide +kernel
theorem dL_law_446 : decode cL_law 446 = .ok (.invokestatic 96, 3) := by decide +kernel
theorem dL_law_449 : decode cL_law 449 = .ok (.istore 5, 2) := by decide +kernel
theorem dL_law_451 : decode cL_law 451 = .ok (.aload_n 2, 1) := by decide +kernel
theorem dL_law_452 : decode cL_law 452 = .ok (.aload_n 0, 1) := by decide +kernel
theorem dL_law_453 : decode cL_law 453 = .ok (.iload 4, 2) := by decide +kernel
theorem dL_law_455 : decode cL_law 455 = .ok (.iconst 1, 1) := by decide +kernel
theorem dL_law_456 : decode cL_law 456 = .ok (.iadd, 1) := by decide +kernel
theorem dL_law_457 : decode cL_law 457 = .ok (.iaload, 1) := by decide +kernel
theorem dL_law_458 : decode cL_law 458 = .ok (.aload_n 0, 1) := by decide +kernel
theorem dL_law_459 : decode cL_law 459 = .ok (.iload 4, 2) := by decide +kernel
theorem dL_law_461 : decode cL_law 461 = .ok (.iconst 2, 1) := by decide +kernel
theorem dL_law_462 : decode cL_law 462 = .ok (.iadd, 1) := by decide +kernel
theorem dL_law_463 : decode cL_law 463 = .ok (.iaload, 1) := by decide +kernel
theorem dL_law_464 : decode cL_law 464 = .ok (.invokevirtual 98, 3) := by decide +kernel
theorem dL_law_467 : decode cL_law 467 = .ok (.istore 6, 2) := by decide +kernel
theorem dL_law_469 : decode cL_law 469 = .ok (.aload_n 2, 1) := by decide +kernel
theorem dL_law_470 : decode cL_law 470 = .ok (.invokevirtual 79, 3) := by decide +kernel
theorem dL_law_473 : decode cL_law 473 = .ok (.iload 5, 2) := by decide +kernel
theorem dL_law_475 : decode cL_law 475 = .ok (.if_icmp .eq 5, 3) := by decide +kernel
theorem dL_law_478 : decode cL_law 478 = .ok (.iconst 0, 1) := by decide +kernel
theorem dL_law_479 : decode cL_law 479 = .ok (.ireturn, 1) := by decide +kernel
theorem dL_law_480 : decode cL_law 480 = .ok (.iload 5, 2) := by decide +kernel
theorem dL_law_482 : decode cL_law 482 = .ok (.ifCond .ne 15, 3) := by decide +kernel
theorem dL_law_485 : decode cL_law 485 = .ok (.aload_n 3, 1) := by decide +kernel
theorem dL_law_486 : decode cL_law 486 = .ok (.iconst 0, 1) := by decide +kernel
theorem dL_law_487 : decode cL_law 487 = .ok (.laload, 1) := by decide +kernel
theorem dL_law_488 : decode cL_law 488 = .ok (.iload 6, 2) := by decide +kernel
theorem dL_law_490 : decode cL_law 490 = .ok (.i2l, 1) := by decide +kernel
theorem dL_law_491 : decode cL_law 491 = .ok (.lcmp, 1) := by decide +kernel
theorem dL_law_492 : decode cL_law 492 = .ok (.ifCond .eq 5, 3) := by decide +kernel
theorem dL_law_495 : decode cL_law 495 = .ok (.iconst 0, 1) := by decide +kernel
theorem dL_law_496 : decode cL_law 496 = .ok (.ireturn, 1) := by decide +kernel
theorem dL_law_497 : decode cL_law 497 = .ok (.goto 850, 3) := by decide +kernel
theorem dL_law_500 : decode cL_law 500 = .ok (.aload_n 1, 1) := by decide +kernel
theorem dL_law_501 : decode cL_law 501 = .ok (.aload_n 0, 1) := by decide +kernel
theorem dL_law_502 : decode cL_law 502 = .ok (.iload 4, 2) := by decide +kernel
theorem dL_law_504 : decode cL_law 504 = .ok (.iconst 1, 1) := by decide +kernel
theorem dL_law_505 : decode cL_law 505 = .ok (.iadd, 1) := by decide +kernel
theorem dL_law_506 : decode cL_law 506 = .ok (.iaload, 1) := by decide +kernel
theorem dL_law_507 : decode cL_law 507 = .ok (.aload_n 0, 1) := by decide +kernel
theorem dL_law_508 : decode cL_law 508 = .ok (.iload 4, 2) := by decide +kernel
theorem dL_law_510 : decode cL_law 510 = .ok (.iconst 2, 1) := by decide +kernel
theorem dL_law_511 : decode cL_law 511 = .ok (.iadd, 1) := by decide +kernel
theorem dL_law_512 : decode cL_law 512 = .ok (.iaload, 1) := by decide +kernel
theorem dL_law_513 : decode cL_law 513 = .ok (.aload_n 3, 1) := by decide +kernel
theorem dL_law_514 : decode cL_law 514 = .ok (.invokestatic 99, 3) := by decide +kernel
theorem dL_law_517 : decode cL_law 517 = .ok (.istore 5, 2) := by decide +kernel
theorem dL_law_519 : decode cL_law 519 = .ok (.aload_n 2, 1) := by decide +kernel
theorem dL_law_520 : decode cL_law 520 = .ok (.aload_n 0, 1) := by decide +kernel
theorem dL_law_521 : decode cL_law 521 = .ok (.iload 4, 2) := by decide +kernel
theorem dL_law_523 : decode cL_law 523 = .ok (.iconst 1, 1) := by decide +kernel
theorem dL_law_524 : decode cL_law 524 = .ok (.iadd, 1) := by decide +kernel
theorem dL_law_525 : decode cL_law 525 = .ok (.iaload, 1) := by decide +kernel
theorem dL_law_526 : decode cL_law 526 = .ok (.aload_n 0, 1) := by decide +kernel
theorem dL_law_527 : decode cL_law 527 = .ok (.iload 4, 2) := by decide +kernel
theorem dL_law_529 : decode cL_law 529 = .ok (.iconst 2, 1) := by decide +kernel
theorem dL_law_530 : decode cL_law 530 = .ok (.iadd, 1) := by decide +kernel
theorem dL_law_531 : decode cL_law 531 = .ok (.iaload, 1) := by decide +kernel
theorem dL_law_532 : decode cL_law 532 = .ok (.invokevirtual 101, 3) := by decide +kernel
theorem dL_law_535 : decode cL_law 535 = .ok (.istore 6, 2) := by decide +kernel
theorem dL_law_537 : decode cL_law 537 = .ok (.aload_n 2, 1) := by decide +kernel
theorem dL_law_538 : decode cL_law 538 = .ok (.invokevirtual 79, 3) := by decide +kernel
theorem dL_law_541 : decode cL_law 541 = .ok (.iload 5, 2) := by decide +kernel
theorem dL_law_543 : decode cL_law 543 = .ok (.if_icmp .eq 5, 3) := by decide +kernel
theorem dL_law_546 : decode cL_law 546 = .ok (.iconst 0, 1) := by decide +kernel
theorem dL_law_547 : decode cL_law 547 = .ok (.ireturn, 1) := by decide +kernel
theorem dL_law_548 : decode cL_law 548 = .ok (.iload 5, 2) := by decide +kernel
theorem dL_law_550 : decode cL_law 550 = .ok (.ifCond .ne 15, 3) := by decide +kernel
theorem dL_law_553 : decode cL_law 553 = .ok (.aload_n 3, 1) := by decide +kernel
theorem dL_law_554 : decode cL_law 554 = .ok (.iconst 0, 1) := by decide +kernel
theorem dL_law_555 : decode cL_law 555 = .ok (.laload, 1) := by decide +kernel
theorem dL_law_556 : decode cL_law 556 = .ok (.iload 6, 2) := by decide +kernel
theorem dL_law_558 : decode cL_law 558 = .ok (.i2l, 1) := by decide +kernel
theorem dL_law_559 : decode cL_law 559 = .ok (.lcmp, 1) := by decide +kernel
theorem dL_law_560 : decode cL_law 560 = .ok (.ifCond .eq 5, 3) := by decide +kernel
theorem dL_law_563 : decode cL_law 563 = .ok (.iconst 0, 1) := by decide +kernel
theorem dL_law_564 : decode cL_law 564 = .ok (.ireturn, 1) := by decide +kernel
theorem dL_law_565 : decode cL_law 565 = .ok (.goto 782, 3) := by decide +kernel
theorem dL_law_568 : decode cL_law 568 = .ok (.aload_n 1, 1) := by decide +kernel
theorem dL_law_569 : decode cL_law 569 = .ok (.aload_n 0, 1) := by decide +kernel
theorem dL_law_570 : decode cL_law 570 = .ok (.iload 4, 2) := by decide +kernel
theorem dL_law_572 : decode cL_law 572 = .ok (.iconst 1, 1) := by decide +kernel
theorem dL_law_573 : decode cL_law 573 = .ok (.iadd, 1) := by decide +kernel
theorem dL_law_574 : decode cL_law 574 = .ok (.iaload, 1) := by decide +kernel
theorem dL_law_575 : decode cL_law 575 = .ok (.aload_n 0, 1) := by decide +kernel
theorem dL_law_576 : decode cL_law 576 = .ok (.iload 4, 2) := by decide +kernel
theorem dL_law_578 : decode cL_law 578 = .ok (.iconst 2, 1) := by decide +kernel
theorem dL_law_579 : decode cL_law 579 = .ok (.iadd, 1) := by decide +kernel
theorem dL_law_580 : decode cL_law 580 = .ok (.iaload, 1) := by decide +kernel
theorem dL_law_581 : decode cL_law 581 = .ok (.aload_n 3, 1) := by decide +kernel
theorem dL_law_582 : decode cL_law 582 = .ok (.invokestatic 102, 3) := by decide +kernel
theorem dL_law_585 : decode cL_law 585 = .ok (.istore 5, 2) := by decide +kernel
theorem dL_law_587 : decode cL_law 587 = .ok (.aload_n 2, 1) := by decide +kernel
theorem dL_law_588 : decode cL_law 588 = .ok (.aload_n 0, 1) := by decide +kernel
theorem dL_law_589 : decode cL_law 589 = .ok (.iload 4, 2) := by decide +kernel
theorem dL_law_591 : decode cL_law 591 = .ok (.iconst 1, 1) := by decide +kernel
theorem dL_law_592 : decode cL_law 592 = .ok (.iadd, 1) := by decide +kernel
theorem dL_law_593 : decode cL_law 593 = .ok (.iaload, 1) := by decide +kernel
theorem dL_law_594 : decode cL_law 594 = .ok (.aload_n 0, 1) := by decide +kernel
theorem dL_law_595 : decode cL_law 595 = .ok (.iload 4, 2) := by decide +kernel
theorem dL_law_597 : decode cL_law 597 = .ok (.iconst 2, 1) := by decide +kernel
theorem dL_law_598 : decode cL_law 598 = .ok (.iadd, 1) := by decide +kernel
theorem dL_law_599 : decode cL_law 599 = .ok (.iaload, 1) := by decide +kernel
theorem dL_law_600 : decode cL_law 600 = .ok (.invokevirtual 104, 3) := by decide +kernel
theorem dL_law_603 : decode cL_law 603 = .ok (.istore 6, 2) := by decide +kernel
theorem dL_law_605 : decode cL_law 605 = .ok (.aload_n 2, 1) := by decide +kernel
theorem dL_law_606 : decode cL_law 606 = .ok (.invokevirtual 79, 3) := by decide +kernel
theorem dL_law_609 : decode cL_law 609 = .ok (.iload 5, 2) := by decide +kernel
theorem dL_law_611 : decode cL_law 611 = .ok (.if_icmp .eq 5, 3) := by decide +kernel
theorem dL_law_614 : decode cL_law 614 = .ok (.iconst 0, 1) := by decide +kernel
theorem dL_law_615 : decode cL_law 615 = .ok (.ireturn, 1) := by decide +kernel
theorem dL_law_616 : decode cL_law 616 = .ok (.iload 5, 2) := by decide +kernel
theorem dL_law_618 : decode cL_law 618 = .ok (.ifCond .ne 15, 3) := by decide +kernel
theorem dL_law_621 : decode cL_law 621 = .ok (.aload_n 3, 1) := by decide +kernel
theorem dL_law_622 : decode cL_law 622 = .ok (.iconst 0, 1) := by decide +kernel
theorem dL_law_623 : decode cL_law 623 = .ok (.laload, 1) := by decide +kernel
theorem dL_law_624 : decode cL_law 624 = .ok (.iload 6, 2) := by decide +kernel
theorem dL_law_626 : decode cL_law 626 = .ok (.i2l, 1) := by decide +kernel
theorem dL_law_627 : decode cL_law 627 = .ok (.lcmp, 1) := by decide +kernel
theorem dL_law_628 : decode cL_law 628 = .ok (.ifCond .eq 5, 3) := by decide +kernel
theorem dL_law_631 : decode cL_law 631 = .ok (.iconst 0, 1) := by decide +kernel
theorem dL_law_632 : decode cL_law 632 = .ok (.ireturn, 1) := by decide +kernel
theorem dL_law_633 : decode cL_law 633 = .ok (.goto 714, 3) := by decide +kernel
theorem dL_law_636 : decode cL_law 636 = .ok (.aload_n 1, 1) := by decide +kernel
theorem dL_law_637 : decode cL_law 637 = .ok (.invokevirtual 105, 3) := by decide +kernel
theorem dL_law_640 : decode cL_law 640 = .ok (.aload_n 2, 1) := by decide +kernel
theorem dL_law_641 : decode cL_law 641 = .ok (.invokevirtual 108, 3) := by decide +kernel
theorem dL_law_644 : decode cL_law 644 = .ok (.if_icmp .eq 703, 3) := by decide +kernel
theorem dL_law_647 : decode cL_law 647 = .ok (.iconst 0, 1) := by decide +kernel
theorem dL_law_648 : decode cL_law 648 = .ok (.ireturn, 1) := by decide +kernel
theorem dL_law_649 : decode cL_law 649 = .ok (.aload_n 1, 1) := by decide +kernel
theorem dL_law_650 : decode cL_law 650 = .ok (.aload_n 0, 1) := by decide +kernel
theorem dL_law_651 : decode cL_law 651 = .ok (.iload 4, 2) := by decide +kernel
theorem dL_law_653 : decode cL_law 653 = .ok (.iconst 1, 1) := by decide +kernel
theorem dL_law_654 : decode cL_law 654 = .ok (.iadd, 1) := by decide +kernel
theorem dL_law_655 : decode cL_law 655 = .ok (.iaload, 1) := by decide +kernel
theorem dL_law_656 : decode cL_law 656 = .ok (.aload_n 0, 1) := by decide +kernel
theorem dL_law_657 : decode cL_law 657 = .ok (.iload 4, 2) := by decide +kernel
theorem dL_law_659 : decode cL_law 659 = .ok (.iconst 2, 1) := by decide +kernel
theorem dL_law_660 : decode cL_law 660 = .ok (.iadd, 1) := by decide +kernel
theorem dL_law_661 : decode cL_law 661 = .ok (.iaload, 1) := by decide +kernel
theorem dL_law_662 : decode cL_law 662 = .ok (.aload_n 0, 1) := by decide +kernel
theorem dL_law_663 : decode cL_law 663 = .ok (.iload 4, 2) := by decide +kernel
theorem dL_law_665 : decode cL_law 665 = .ok (.iconst 3, 1) := by decide +kernel
theorem dL_law_666 : decode cL_law 666 = .ok (.iadd, 1) := by decide +kernel
theorem dL_law_667 : decode cL_law 667 = .ok (.iaload, 1) := by decide +kernel
theorem dL_law_668 : decode cL_law 668 = .ok (.aload_n 0, 1) := by decide +kernel
theorem dL_law_669 : decode cL_law 669 = .ok (.iload 4, 2) := by decide +kernel
theorem dL_law_671 : decode cL_law 671 = .ok (.iconst 4, 1) := by decide +kernel
theorem dL_law_672 : decode cL_law 672 = .ok (.iadd, 1) := by decide +kernel
theorem dL_law_673 : decode cL_law 673 = .ok (.iaload, 1) := by decide +kernel
theorem dL_law_674 : decode cL_law 674 = .ok (.aload_n 0, 1) := by decide +kernel
theorem dL_law_675 : decode cL_law 675 = .ok (.iload 4, 2) := by decide +kernel
theorem dL_law_677 : decode cL_law 677 = .ok (.iconst 5, 1) := by decide +kernel
theorem dL_law_678 : decode cL_law 678 = .ok (.iadd, 1) := by decide +kernel
theorem dL_law_679 : decode cL_law 679 = .ok (.iaload, 1) := by decide +kernel
theorem dL_law_680 : decode cL_law 680 = .ok (.aload_n 0, 1) := by decide +kernel
theorem dL_law_681 : decode cL_law 681 = .ok (.iload 4, 2) := by decide +kernel
theorem dL_law_683 : decode cL_law 683 = .ok (.bipush 6, 2) := by decide +kernel
theorem dL_law_685 : decode cL_law 685 = .ok (.iadd, 1) := by decide +kernel
theorem dL_law_686 : decode cL_law 686 = .ok (.iaload, 1) := by decide +kernel
theorem dL_law_687 : decode cL_law 687 = .ok (.ifCond .eq 7, 3) := by decide +kernel
theorem dL_law_690 : decode cL_law 690 = .ok (.iconst 1, 1) := by decide +kernel
theorem dL_law_691 : decode cL_law 691 = .ok (.goto 4, 3) := by decide +kernel
theorem dL_law_694 : decode cL_law 694 = .ok (.iconst 0, 1) := by decide +kernel
theorem dL_law_695 : decode cL_law 695 = .ok (.aload_n 3, 1) := by decide +kernel
theorem dL_law_696 : decode cL_law 696 = .ok (.invokestatic 109, 3) := by decide +kernel
theorem dL_law_699 : decode cL_law 699 = .ok (.istore 5, 2) := by decide +kernel
theorem dL_law_701 : decode cL_law 701 = .ok (.aload_n 2, 1) := by decide +kernel
theorem dL_law_702 : decode cL_law 702 = .ok (.aload_n 0, 1) := by decide +kernel
theorem dL_law_703 : decode cL_law 703 = .ok (.iload 4, 2) := by decide +kernel
theorem dL_law_705 : decode cL_law 705 = .ok (.iconst 1, 1) := by decide +kernel
theorem dL_law_706 : decode cL_law 706 = .ok (.iadd, 1) := by decide +kernel
theorem dL_law_707 : decode cL_law 707 = .ok (.iaload, 1) := by decide +kernel
theorem dL_law_708 : decode cL_law 708 = .ok (.aload_n 0, 1) := by decide +kernel
theorem dL_law_709 : decode cL_law 709 = .ok (.iload 4, 2) := by decide +kernel
theorem dL_law_711 : decode cL_law 711 = .ok (.iconst 2, 1) := by decide +kernel
theorem dL_law_712 : decode cL_law 712 = .ok (.iadd, 1) := by decide +kernel
theorem dL_law_713 : decode cL_law 713 = .ok (.iaload, 1) := by decide +kernel
theorem dL_law_714 : decode cL_law 714 = .ok (.aload_n 0, 1) := by decide +kernel
theorem dL_law_715 : decode cL_law 715 = .ok (.iload 4, 2) := by decide +kernel
theorem dL_law_717 : decode cL_law 717 = .ok (.iconst 3, 1) := by decide +kernel
theorem dL_law_718 : decode cL_law 718 = .ok (.iadd, 1) := by decide +kernel
theorem dL_law_719 : decode cL_law 719 = .ok (.iaload, 1) := by decide +kernel
theorem dL_law_720 : decode cL_law 720 = .ok (.aload_n 0, 1) := by decide +kernel
theorem dL_law_721 : decode cL_law 721 = .ok (.iload 4, 2) := by decide +kernel
theorem dL_law_723 : decode cL_law 723 = .ok (.iconst 4, 1) := by decide +kernel
theorem dL_law_724 : decode cL_law 724 = .ok (.iadd, 1) := by decide +kernel
theorem dL_law_725 : decode cL_law 725 = .ok (.iaload, 1) := by decide +kernel
theorem dL_law_726 : decode cL_law 726 = .ok (.aload_n 0, 1) := by decide +kernel
theorem dL_law_727 : decode cL_law 727 = .ok (.iload 4, 2) := by decide +kernel
theorem dL_law_729 : decode cL_law 729 = .ok (.iconst 5, 1) := by decide +kernel
theorem dL_law_730 : decode cL_law 730 = .ok (.iadd, 1) := by decide +kernel
theorem dL_law_731 : decode cL_law 731 = .ok (.iaload, 1) := by decide +kernel
theorem dL_law_732 : decode cL_law 732 = .ok (.aload_n 0, 1) := by decide +kernel
theorem dL_law_733 : decode cL_law 733 = .ok (.iload 4, 2) := by decide +kernel
theorem dL_law_735 : decode cL_law 735 = .ok (.bipush 6, 2) := by decide +kernel
theorem dL_law_737 : decode cL_law 737 = .ok (.iadd, 1) := by decide +kernel
theorem dL_law_738 : decode cL_law 738 = .ok (.iaload, 1) := by decide +kernel
theorem dL_law_739 : decode cL_law 739 = .ok (.ifCond .eq 7, 3) := by decide +kernel
theorem dL_law_742 : decode cL_law 742 = .ok (.iconst 1, 1) := by decide +kernel
theorem dL_law_743 : decode cL_law 743 = .ok (.goto 4, 3) := by decide +kernel
theorem dL_law_746 : decode cL_law 746 = .ok (.iconst 0, 1) := by decide +kernel
theorem dL_law_747 : decode cL_law 747 = .ok (.invokevirtual 112, 3) := by decide +kernel
theorem dL_law_750 : decode cL_law 750 = .ok (.istore 6, 2) := by decide +kernel
theorem dL_law_752 : decode cL_law 752 = .ok (.aload_n 2, 1) := by decide +kernel
theorem dL_law_753 : decode cL_law 753 = .ok (.invokevirtual 79, 3) := by decide +kernel
theorem dL_law_756 : decode cL_law 756 = .ok (.iload 5, 2) := by decide +kernel
theorem dL_law_758 : decode cL_law 758 = .ok (.if_icmp .eq 5, 3) := by decide +kernel
theorem dL_law_761 : decode cL_law 761 = .ok (.iconst 0, 1) := by decide +kernel
theorem dL_law_762 : decode cL_law 762 = .ok (.ireturn, 1) := by decide +kernel
theorem dL_law_763 : decode cL_law 763 = .ok (.iload 5, 2) := by decide +kernel
theorem dL_law_765 : decode cL_law 765 = .ok (.ifCond .ne 15, 3) := by decide +kernel
theorem dL_law_768 : decode cL_law 768 = .ok (.aload_n 3, 1) := by decide +kernel
theorem dL_law_769 : decode cL_law 769 = .ok (.iconst 0, 1) := by decide +kernel
theorem dL_law_770 : decode cL_law 770 = .ok (.laload, 1) := by decide +kernel
theorem dL_law_771 : decode cL_law 771 = .ok (.iload 6, 2) := by decide +kernel
theorem dL_law_773 : decode cL_law 773 = .ok (.i2l, 1) := by decide +kernel
theorem dL_law_774 : decode cL_law 774 = .ok (.lcmp, 1) := by decide +kernel
theorem dL_law_775 : decode cL_law 775 = .ok (.ifCond .eq 5, 3) := by decide +kernel
theorem dL_law_778 : decode cL_law 778 = .ok (.iconst 0, 1) := by decide +kernel
theorem dL_law_779 : decode cL_law 779 = .ok (.ireturn, 1) := by decide +kernel
theorem dL_law_780 : decode cL_law 780 = .ok (.goto 567, 3) := by decide +kernel
theorem dL_law_783 : decode cL_law 783 = .ok (.aload_n 1, 1) := by decide +kernel
theorem dL_law_784 : decode cL_law 784 = .ok (.aload_n 0, 1) := by decide +kernel
theorem dL_law_785 : decode cL_law 785 = .ok (.iload 4, 2) := by decide +kernel
theorem dL_law_787 : decode cL_law 787 = .ok (.iconst 1, 1) := by decide +kernel
theorem dL_law_788 : decode cL_law 788 = .ok (.iadd, 1) := by decide +kernel
theorem dL_law_789 : decode cL_law 789 = .ok (.iaload, 1) := by decide +kernel
theorem dL_law_790 : decode cL_law 790 = .ok (.aload_n 0, 1) := by decide +kernel
theorem dL_law_791 : decode cL_law 791 = .ok (.iload 4, 2) := by decide +kernel
theorem dL_law_793 : decode cL_law 793 = .ok (.iconst 2, 1) := by decide +kernel
theorem dL_law_794 : decode cL_law 794 = .ok (.iadd, 1) := by decide +kernel
theorem dL_law_795 : decode cL_law 795 = .ok (.iaload, 1) := by decide +kernel
theorem dL_law_796 : decode cL_law 796 = .ok (.aload_n 3, 1) := by decide +kernel
theorem dL_law_797 : decode cL_law 797 = .ok (.invokestatic 113, 3) := by decide +kernel
theorem dL_law_800 : decode cL_law 800 = .ok (.istore 5, 2) := by decide +kernel
theorem dL_law_802 : decode cL_law 802 = .ok (.aload_n 2, 1) := by decide +kernel
theorem dL_law_803 : decode cL_law 803 = .ok (.aload_n 0, 1) := by decide +kernel
theorem dL_law_804 : decode cL_law 804 = .ok (.iload 4, 2) := by decide +kernel
theorem dL_law_806 : decode cL_law 806 = .ok (.iconst 1, 1) := by decide +kernel
theorem dL_law_807 : decode cL_law 807 = .ok (.iadd, 1) := by decide +kernel
theorem dL_law_808 : decode cL_law 808 = .ok (.iaload, 1) := by decide +kernel
theorem dL_law_809 : decode cL_law 809 = .ok (.aload_n 0, 1) := by decide +kernel
theorem dL_law_810 : decode cL_law 810 = .ok (.iload 4, 2) := by decide +kernel
theorem dL_law_812 : decode cL_law 812 = .ok (.iconst 2, 1) := by decide +kernel
theorem dL_law_813 : decode cL_law 813 = .ok (.iadd, 1) := by decide +kernel
theorem dL_law_814 : decode cL_law 814 = .ok (.iaload, 1) := by decide +kernel
theorem dL_law_815 : decode cL_law 815 = .ok (.invokevirtual 115, 3) := by decide +kernel
theorem dL_law_818 : decode cL_law 818 = .ok (.istore 6, 2) := by decide +kernel
theorem dL_law_820 : decode cL_law 820 = .ok (.aload_n 2, 1) := by decide +kernel
theorem dL_law_821 : decode cL_law 821 = .ok (.invokevirtual 79, 3) := by decide +kernel
theorem dL_law_824 : decode cL_law 824 = .ok (.iload 5, 2) := by decide +kernel
theorem dL_law_826 : decode cL_law 826 = .ok (.if_icmp .eq 5, 3) := by decide +kernel
theorem dL_law_829 : decode cL_law 829 = .ok (.iconst 0, 1) := by decide +kernel
theorem dL_law_830 : decode cL_law 830 = .ok (.ireturn, 1) := by decide +kernel
theorem dL_law_831 : decode cL_law 831 = .ok (.iload 5, 2) := by decide +kernel
theorem dL_law_833 : decode cL_law 833 = .ok (.ifCond .ne 15, 3) := by decide +kernel
theorem dL_law_836 : decode cL_law 836 = .ok (.aload_n 3, 1) := by decide +kernel
theorem dL_law_837 : decode cL_law 837 = .ok (.iconst 0, 1) := by decide +kernel
theorem dL_law_838 : decode cL_law 838 = .ok (.laload, 1) := by decide +kernel
theorem dL_law_839 : decode cL_law 839 = .ok (.iload 6, 2) := by decide +kernel
theorem dL_law_841 : decode cL_law 841 = .ok (.i2l, 1) := by decide +kernel
theorem dL_law_842 : decode cL_law 842 = .ok (.lcmp, 1) := by decide +kernel
theorem dL_law_843 : decode cL_law 843 = .ok (.ifCond .eq 5, 3) := by decide +kernel
theorem dL_law_846 : decode cL_law 846 = .ok (.iconst 0, 1) := by decide +kernel
theorem dL_law_847 : decode cL_law 847 = .ok (.ireturn, 1) := by decide +kernel
theorem dL_law_848 : decode cL_law 848 = .ok (.goto 499, 3) := by decide +kernel
theorem dL_law_851 : decode cL_law 851 = .ok (.aload_n 1, 1) := by decide +kernel
theorem dL_law_852 : decode cL_law 852 = .ok (.aload_n 0, 1) := by decide +kernel
theorem dL_law_853 : decode cL_law 853 = .ok (.iload 4, 2) := by decide +kernel
theorem dL_law_855 : decode cL_law 855 = .ok (.iconst 1, 1) := by decide +kernel
theorem dL_law_856 : decode cL_law 856 = .ok (.iadd, 1) := by decide +kernel
theorem dL_law_857 : decode cL_law 857 = .ok (.iaload, 1) := by decide +kernel
theorem dL_law_858 : decode cL_law 858 = .ok (.aload_n 0, 1) := by decide +kernel
theorem dL_law_859 : decode cL_law 859 = .ok (.iload 4, 2) := by decide +kernel
theorem dL_law_861 : decode cL_law 861 = .ok (.iconst 2, 1) := by decide +kernel
theorem dL_law_862 : decode cL_law 862 = .ok (.iadd, 1) := by decide +kernel
theorem dL_law_863 : decode cL_law 863 = .ok (.iaload, 1) := by decide +kernel
theorem dL_law_864 : decode cL_law 864 = .ok (.aload_n 3, 1) := by decide +kernel
theorem dL_law_865 : decode cL_law 865 = .ok (.invokestatic 116, 3) := by decide +kernel
theorem dL_law_868 : decode cL_law 868 = .ok (.istore 5, 2) := by decide +kernel
theorem dL_law_870 : decode cL_law 870 = .ok (.aload_n 2, 1) := by decide +kernel
theorem dL_law_871 : decode cL_law 871 = .ok (.aload_n 0, 1) := by decide +kernel
theorem dL_law_872 : decode cL_law 872 = .ok (.iload 4, 2) := by decide +kernel
theorem dL_law_874 : decode cL_law 874 = .ok (.iconst 1, 1) := by decide +kernel
theorem dL_law_875 : decode cL_law 875 = .ok (.iadd, 1) := by decide +kernel
theorem dL_law_876 : decode cL_law 876 = .ok (.iaload, 1) := by decide +kernel
theorem dL_law_877 : decode cL_law 877 = .ok (.aload_n 0, 1) := by decide +kernel
theorem dL_law_878 : decode cL_law 878 = .ok (.iload 4, 2) := by decide +kernel
theorem dL_law_880 : decode cL_law 880 = .ok (.iconst 2, 1) := by decide +kernel
theorem dL_law_881 : decode cL_law 881 = .ok (.iadd, 1) := by decide +kernel
theorem dL_law_882 : decode cL_law 882 = .ok (.iaload, 1) := by decide +kernel
theorem dL_law_883 : decode cL_law 883 = .ok (.invokevirtual 118, 3) := by decide +kernel
theorem dL_law_886 : decode cL_law 886 = .ok (.istore 6, 2) := by decide +kernel
theorem dL_law_888 : decode cL_law 888 = .ok (.aload_n 2, 1) := by decide +kernel
theorem dL_law_889 : decode cL_law 889 = .ok (.invokevirtual 79, 3) := by decide +kernel
theorem dL_law_892 : decode cL_law 892 = .ok (.iload 5, 2) := by decide +kernel
theorem dL_law_894 : decode cL_law 894 = .ok (.if_icmp .eq 5, 3) := by decide +kernel
theorem dL_law_897 : decode cL_law 897 = .ok (.iconst 0, 1) := by decide +kernel
theorem dL_law_898 : decode cL_law 898 = .ok (.ireturn, 1) := by decide +kernel
theorem dL_law_899 : decode cL_law 899 = .ok (.iload 5, 2) := by decide +kernel
theorem dL_law_901 : decode cL_law 901 = .ok (.ifCond .ne 15, 3) := by decide +kernel
theorem dL_law_904 : decode cL_law 904 = .ok (.aload_n 3, 1) := by decide +kernel
theorem dL_law_905 : decode cL_law 905 = .ok (.iconst 0, 1) := by decide +kernel
theorem dL_law_906 : decode cL_law 906 = .ok (.laload, 1) := by decide +kernel
theorem dL_law_907 : decode cL_law 907 = .ok (.iload 6, 2) := by decide +kernel
theorem dL_law_909 : decode cL_law 909 = .ok (.i2l, 1) := by decide +kernel
theorem dL_law_910 : decode cL_law 910 = .ok (.lcmp, 1) := by decide +kernel
theorem dL_law_911 : decode cL_law 911 = .ok (.ifCond .eq 5, 3) := by decide +kernel
theorem dL_law_914 : decode cL_law 914 = .ok (.iconst 0, 1) := by decide +kernel
theorem dL_law_915 : decode cL_law 915 = .ok (.ireturn, 1) := by decide +kernel
theorem dL_law_916 : decode cL_law 916 = .ok (.goto 431, 3) := by decide +kernel
theorem dL_law_919 : decode cL_law 919 = .ok (.aload_n 1, 1) := by decide +kernel
theorem dL_law_920 : decode cL_law 920 = .ok (.aload_n 0, 1) := by decide +kernel
theorem dL_law_921 : decode cL_law 921 = .ok (.iload 4, 2) := by decide +kernel
theorem dL_law_923 : decode cL_law 923 = .ok (.iconst 1, 1) := by decide +kernel
theorem dL_law_924 : decode cL_law 924 = .ok (.iadd, 1) := by decide +kernel
theorem dL_law_925 : decode cL_law 925 = .ok (.iaload, 1) := by decide +kernel
theorem dL_law_926 : decode cL_law 926 = .ok (.aload_n 0, 1) := by decide +kernel
theorem dL_law_927 : decode cL_law 927 = .ok (.iload 4, 2) := by decide +kernel
theorem dL_law_929 : decode cL_law 929 = .ok (.iconst 2, 1) := by decide +kernel
theorem dL_law_930 : decode cL_law 930 = .ok (.iadd, 1) := by decide +kernel
theorem dL_law_931 : decode cL_law 931 = .ok (.iaload, 1) := by decide +kernel
theorem dL_law_932 : decode cL_law 932 = .ok (.aload_n 3, 1) := by decide +kernel
theorem dL_law_933 : decode cL_law 933 = .ok (.invokestatic 119, 3) := by decide +kernel
theorem dL_law_936 : decode cL_law 936 = .ok (.istore 5, 2) := by decide +kernel
theorem dL_law_938 : decode cL_law 938 = .ok (.aload_n 2, 1) := by decide +kernel
theorem dL_law_939 : decode cL_law 939 = .ok (.aload_n 0, 1) := by decide +kernel
theorem dL_law_940 : decode cL_law 940 = .ok (.iload 4, 2) := by decide +kernel
theorem dL_law_942 : decode cL_law 942 = .ok (.iconst 1, 1) := by decide +kernel
theorem dL_law_943 : decode cL_law 943 = .ok (.iadd, 1) := by decide +kernel
theorem dL_law_944 : decode cL_law 944 = .ok (.iaload, 1) := by decide +kernel
theorem dL_law_945 : decode cL_law 945 = .ok (.aload_n 0, 1) := by decide +kernel
theorem dL_law_946 : decode cL_law 946 = .ok (.iload 4, 2) := by decide +kernel
theorem dL_law_948 : decode cL_law 948 = .ok (.iconst 2, 1) := by decide +kernel
theorem dL_law_949 : decode cL_law 949 = .ok (.iadd, 1) := by decide +kernel
theorem dL_law_950 : decode cL_law 950 = .ok (.iaload, 1) := by decide +kernel
theorem dL_law_951 : decode cL_law 951 = .ok (.invokevirtual 121, 3) := by decide +kernel
theorem dL_law_954 : decode cL_law 954 = .ok (.istore 6, 2) := by decide +kernel
theorem dL_law_956 : decode cL_law 956 = .ok (.aload_n 2, 1) := by decide +kernel
theorem dL_law_957 : decode cL_law 957 = .ok (.invokevirtual 79, 3) := by decide +kernel
theorem dL_law_960 : decode cL_law 960 = .ok (.iload 5, 2) := by decide +kernel
theorem dL_law_962 : decode cL_law 962 = .ok (.if_icmp .eq 5, 3) := by decide +kernel
theorem dL_law_965 : decode cL_law 965 = .ok (.iconst 0, 1) := by decide +kernel
theorem dL_law_966 : decode cL_law 966 = .ok (.ireturn, 1) := by decide +kernel
theorem dL_law_967 : decode cL_law 967 = .ok (.iload 5, 2) := by decide +kernel
theorem dL_law_969 : decode cL_law 969 = .ok (.ifCond .ne 15, 3) := by decide +kernel
theorem dL_law_972 : decode cL_law 972 = .ok (.aload_n 3, 1) := by decide +kernel
theorem dL_law_973 : decode cL_law 973 = .ok (.iconst 0, 1) := by decide +kernel
theorem dL_law_974 : decode cL_law 974 = .ok (.laload, 1) := by decide +kernel
theorem dL_law_975 : decode cL_law 975 = .ok (.iload 6, 2) := by decide +kernel
theorem dL_law_977 : decode cL_law 977 = .ok (.i2l, 1) := by decide +kernel
theorem dL_law_978 : decode cL_law 978 = .ok (.lcmp, 1) := by decide +kernel
theorem dL_law_979 : decode cL_law 979 = .ok (.ifCond .eq 5, 3) := by decide +kernel
theorem dL_law_982 : decode cL_law 982 = .ok (.iconst 0, 1) := by decide +kernel
theorem dL_law_983 : decode cL_law 983 = .ok (.ireturn, 1) := by decide +kernel
theorem dL_law_984 : decode cL_law 984 = .ok (.goto 363, 3) := by decide +kernel
theorem dL_law_987 : decode cL_law 987 = .ok (.aload_n 1, 1) := by decide +kernel
theorem dL_law_988 : decode cL_law 988 = .ok (.aload_n 0, 1) := by decide +kernel
theorem dL_law_989 : decode cL_law 989 = .ok (.iload 4, 2) := by decide +kernel
theorem dL_law_991 : decode cL_law 991 = .ok (.iconst 1, 1) := by decide +kernel
theorem dL_law_992 : decode cL_law 992 = .ok (.iadd, 1) := by decide +kernel
theorem dL_law_993 : decode cL_law 993 = .ok (.iaload, 1) := by decide +kernel
theorem dL_law_994 : decode cL_law 994 = .ok (.aload_n 3, 1) := by decide +kernel
theorem dL_law_995 : decode cL_law 995 = .ok (.invokestatic 122, 3) := by decide +kernel
theorem dL_law_998 : decode cL_law 998 = .ok (.istore 5, 2) := by decide +kernel
theorem dL_law_1000 : decode cL_law 1000 = .ok (.aload_n 2, 1) := by decide +kernel
theorem dL_law_1001 : decode cL_law 1001 = .ok (.aload_n 0, 1) := by decide +kernel
theorem dL_law_1002 : decode cL_law 1002 = .ok (.iload 4, 2) := by decide +kernel
theorem dL_law_1004 : decode cL_law 1004 = .ok (.iconst 1, 1) := by decide +kernel
theorem dL_law_1005 : decode cL_law 1005 = .ok (.iadd, 1) := by decide +kernel
theorem dL_law_1006 : decode cL_law 1006 = .ok (.iaload, 1) := by decide +kernel
theorem dL_law_1007 : decode cL_law 1007 = .ok (.invokevirtual 124, 3) := by decide +kernel
theorem dL_law_1010 : decode cL_law 1010 = .ok (.istore 6, 2) := by decide +kernel
theorem dL_law_1012 : decode cL_law 1012 = .ok (.aload_n 2, 1) := by decide +kernel
theorem dL_law_1013 : decode cL_law 1013 = .ok (.invokevirtual 79, 3) := by decide +kernel
theorem dL_law_1016 : decode cL_law 1016 = .ok (.iload 5, 2) := by decide +kernel
theorem dL_law_1018 : decode cL_law 1018 = .ok (.if_icmp .eq 5, 3) := by decide +kernel
theorem dL_law_1021 : decode cL_law 1021 = .ok (.iconst 0, 1) := by decide +kernel
theorem dL_law_1022 : decode cL_law 1022 = .ok (.ireturn, 1) := by decide +kernel
theorem dL_law_1023 : decode cL_law 1023 = .ok (.iload 5, 2) := by decide +kernel
theorem dL_law_1025 : decode cL_law 1025 = .ok (.ifCond .ne 15, 3) := by decide +kernel
theorem dL_law_1028 : decode cL_law 1028 = .ok (.aload_n 3, 1) := by decide +kernel
theorem dL_law_1029 : decode cL_law 1029 = .ok (.iconst 0, 1) := by decide +kernel
theorem dL_law_1030 : decode cL_law 1030 = .ok (.laload, 1) := by decide +kernel
theorem dL_law_1031 : decode cL_law 1031 = .ok (.iload 6, 2) := by decide +kernel
theorem dL_law_1033 : decode cL_law 1033 = .ok (.i2l, 1) := by decide +kernel
theorem dL_law_1034 : decode cL_law 1034 = .ok (.lcmp, 1) := by decide +kernel
theorem dL_law_1035 : decode cL_law 1035 = .ok (.ifCond .eq 5, 3) := by decide +kernel
theorem dL_law_1038 : decode cL_law 1038 = .ok (.iconst 0, 1) := by decide +kernel
theorem dL_law_1039 : decode cL_law 1039 = .ok (.ireturn, 1) := by decide +kernel
theorem dL_law_1040 : decode cL_law 1040 = .ok (.goto 307, 3) := by decide +kernel
theorem dL_law_1043 : decode cL_law 1043 = .ok (.aload_n 1, 1) := by decide +kernel
theorem dL_law_1044 : decode cL_law 1044 = .ok (.aload_n 0, 1) := by decide +kernel
theorem dL_law_1045 : decode cL_law 1045 = .ok (.iload 4, 2) := by decide +kernel
theorem dL_law_1047 : decode cL_law 1047 = .ok (.iconst 1, 1) := by decide +kernel
theorem dL_law_1048 : decode cL_law 1048 = .ok (.iadd, 1) := by decide +kernel
theorem dL_law_1049 : decode cL_law 1049 = .ok (.iaload, 1) := by decide +kernel
theorem dL_law_1050 : decode cL_law 1050 = .ok (.aload_n 3, 1) := by decide +kernel
theorem dL_law_1051 : decode cL_law 1051 = .ok (.invokestatic 125, 3) := by decide +kernel
theorem dL_law_1054 : decode cL_law 1054 = .ok (.istore 5, 2) := by decide +kernel
theorem dL_law_1056 : decode cL_law 1056 = .ok (.aload_n 2, 1) := by decide +kernel
theorem dL_law_1057 : decode cL_law 1057 = .ok (.aload_n 0, 1) := by decide +kernel
theorem dL_law_1058 : decode cL_law 1058 = .ok (.iload 4, 2) := by decide +kernel
theorem dL_law_1060 : decode cL_law 1060 = .ok (.iconst 1, 1) := by decide +kernel
theorem dL_law_1061 : decode cL_law 1061 = .ok (.iadd, 1) := by decide +kernel
theorem dL_law_1062 : decode cL_law 1062 = .ok (.iaload, 1) := by decide +kernel
theorem dL_law_1063 : decode cL_law 1063 = .ok (.invokevirtual 127, 3) := by decide +kernel
theorem dL_law_1066 : decode cL_law 1066 = .ok (.istore 6, 2) := by decide +kernel
theorem dL_law_1068 : decode cL_law 1068 = .ok (.aload_n 2, 1) := by decide +kernel
theorem dL_law_1069 : decode cL_law 1069 = .ok (.invokevirtual 79, 3) := by decide +kernel
theorem dL_law_1072 : decode cL_law 1072 = .ok (.iload 5, 2) := by decide +kernel
theorem dL_law_1074 : decode cL_law 1074 = .ok (.if_icmp .eq 5, 3) := by decide +kernel
theorem dL_law_1077 : decode cL_law 1077 = .ok (.iconst 0, 1) := by decide +kernel
theorem dL_law_1078 : decode cL_law 1078 = .ok (.ireturn, 1) := by decide +kernel
theorem dL_law_1079 : decode cL_law 1079 = .ok (.iload 5, 2) := by decide +kernel
theorem dL_law_1081 : decode cL_law 1081 = .ok (.ifCond .ne 15, 3) := by decide +kernel
theorem dL_law_1084 : decode cL_law 1084 = .ok (.aload_n 3, 1) := by decide +kernel
theorem dL_law_1085 : decode cL_law 1085 = .ok (.iconst 0, 1) := by decide +kernel
theorem dL_law_1086 : decode cL_law 1086 = .ok (.laload, 1) := by decide +kernel
theorem dL_law_1087 : decode cL_law 1087 = .ok (.iload 6, 2) := by decide +kernel
theorem dL_law_1089 : decode cL_law 1089 = .ok (.i2l, 1) := by decide +kernel
theorem dL_law_1090 : decode cL_law 1090 = .ok (.lcmp, 1) := by decide +kernel
theorem dL_law_1091 : decode cL_law 1091 = .ok (.ifCond .eq 5, 3) := by decide +kernel
theorem dL_law_1094 : decode cL_law 1094 = .ok (.iconst 0, 1) := by decide +kernel
theorem dL_law_1095 : decode cL_law 1095 = .ok (.ireturn, 1) := by decide +kernel
theorem dL_law_1096 : decode cL_law 1096 = .ok (.goto 251, 3) := by decide +kernel
theorem dL_law_1099 : decode cL_law 1099 = .ok (.aload_n 1, 1) := by decide +kernel
theorem dL_law_1100 : decode cL_law 1100 = .ok (.aload_n 0, 1) := by decide +kernel
theorem dL_law_1101 : decode cL_law 1101 = .ok (.iload 4, 2) := by decide +kernel
theorem dL_law_1103 : decode cL_law 1103 = .ok (.iconst 1, 1) := by decide +kernel
theorem dL_law_1104 : decode cL_law 1104 = .ok (.iadd, 1) := by decide +kernel
theorem dL_law_1105 : decode cL_law 1105 = .ok (.iaload, 1) := by decide +kernel
theorem dL_law_1106 : decode cL_law 1106 = .ok (.aload_n 3, 1) := by decide +kernel
theorem dL_law_1107 : decode cL_law 1107 = .ok (.invokestatic 128, 3) := by decide +kernel
theorem dL_law_1110 : decode cL_law 1110 = .ok (.istore 5, 2) := by decide +kernel
theorem dL_law_1112 : decode cL_law 1112 = .ok (.aload_n 2, 1) := by decide +kernel
theorem dL_law_1113 : decode cL_law 1113 = .ok (.aload_n 0, 1) := by decide +kernel
theorem dL_law_1114 : decode cL_law 1114 = .ok (.iload 4, 2) := by decide +kernel
theorem dL_law_1116 : decode cL_law 1116 = .ok (.iconst 1, 1) := by decide +kernel
theorem dL_law_1117 : decode cL_law 1117 = .ok (.iadd, 1) := by decide +kernel
theorem dL_law_1118 : decode cL_law 1118 = .ok (.iaload, 1) := by decide +kernel
theorem dL_law_1119 : decode cL_law 1119 = .ok (.invokevirtual 130, 3) := by decide +kernel
theorem dL_law_1122 : decode cL_law 1122 = .ok (.istore 6, 2) := by decide +kernel
theorem dL_law_1124 : decode cL_law 1124 = .ok (.aload_n 2, 1) := by decide +kernel
theorem dL_law_1125 : decode cL_law 1125 = .ok (.invokevirtual 79, 3) := by decide +kernel
theorem dL_law_1128 : decode cL_law 1128 = .ok (.iload 5, 2) := by decide +kernel
theorem dL_law_1130 : decode cL_law 1130 = .ok (.if_icmp .eq 5, 3) := by decide +kernel
theorem dL_law_1133 : decode cL_law 1133 = .ok (.iconst 0, 1) := by decide +kernel
theorem dL_law_1134 : decode cL_law 1134 = .ok (.ireturn, 1) := by decide +kernel
theorem dL_law_1135 : decode cL_law 1135 = .ok (.iload 5, 2) := by decide +kernel
theorem dL_law_1137 : decode cL_law 1137 = .ok (.ifCond .ne 15, 3) := by decide +kernel
theorem dL_law_1140 : decode cL_law 1140 = .ok (.aload_n 3, 1) := by decide +kernel
theorem dL_law_1141 : decode cL_law 1141 = .ok (.iconst 0, 1) := by decide +kernel
theorem dL_law_1142 : decode cL_law 1142 = .ok (.laload, 1) := by decide +kernel
theorem dL_law_1143 : decode cL_law 1143 = .ok (.iload 6, 2) := by decide +kernel
theorem dL_law_1145 : decode cL_law 1145 = .ok (.i2l, 1) := by decide +kernel
theorem dL_law_1146 : decode cL_law 1146 = .ok (.lcmp, 1) := by decide +kernel
theorem dL_law_1147 : decode cL_law 1147 = .ok (.ifCond .eq 5, 3) := by decide +kernel
theorem dL_law_1150 : decode cL_law 1150 = .ok (.iconst 0, 1) := by decide +kernel
theorem dL_law_1151 : decode cL_law 1151 = .ok (.ireturn, 1) := by decide +kernel
theorem dL_law_1152 : decode cL_law 1152 = .ok (.goto 195, 3) := by decide +kernel
theorem dL_law_1155 : decode cL_law 1155 = .ok (.aload_n 1, 1) := by decide +kernel
theorem dL_law_1156 : decode cL_law 1156 = .ok (.aload_n 0, 1) := by decide +kernel
theorem dL_law_1157 : decode cL_law 1157 = .ok (.iload 4, 2) := by decide +kernel
theorem dL_law_1159 : decode cL_law 1159 = .ok (.iconst 1, 1) := by decide +kernel
theorem dL_law_1160 : decode cL_law 1160 = .ok (.iadd, 1) := by decide +kernel
theorem dL_law_1161 : decode cL_law 1161 = .ok (.iaload, 1) := by decide +kernel
theorem dL_law_1162 : decode cL_law 1162 = .ok (.aload_n 3, 1) := by decide +kernel
theorem dL_law_1163 : decode cL_law 1163 = .ok (.invokestatic 131, 3) := by decide +kernel
theorem dL_law_1166 : decode cL_law 1166 = .ok (.istore 5, 2) := by decide +kernel
theorem dL_law_1168 : decode cL_law 1168 = .ok (.aload_n 2, 1) := by decide +kernel
theorem dL_law_1169 : decode cL_law 1169 = .ok (.aload_n 0, 1) := by decide +kernel
theorem dL_law_1170 : decode cL_law 1170 = .ok (.iload 4, 2) := by decide +kernel
theorem dL_law_1172 : decode cL_law 1172 = .ok (.iconst 1, 1) := by decide +kernel
theorem dL_law_1173 : decode cL_law 1173 = .ok (.iadd, 1) := by decide +kernel
theorem dL_law_1174 : decode cL_law 1174 = .ok (.iaload, 1) := by decide +kernel
theorem dL_law_1175 : decode cL_law 1175 = .ok (.invokevirtual 133, 3) := by decide +kernel
theorem dL_law_1178 : decode cL_law 1178 = .ok (.istore 6, 2) := by decide +kernel
theorem dL_law_1180 : decode cL_law 1180 = .ok (.aload_n 2, 1) := by decide +kernel
theorem dL_law_1181 : decode cL_law 1181 = .ok (.invokevirtual 79, 3) := by decide +kernel
theorem dL_law_1184 : decode cL_law 1184 = .ok (.iload 5, 2) := by decide +kernel
theorem dL_law_1186 : decode cL_law 1186 = .ok (.if_icmp .eq 5, 3) := by decide +kernel
theorem dL_law_1189 : decode cL_law 1189 = .ok (.iconst 0, 1) := by decide +kernel
theorem dL_law_1190 : decode cL_law 1190 = .ok (.ireturn, 1) := by decide +kernel
theorem dL_law_1191 : decode cL_law 1191 = .ok (.iload 5, 2) := by decide +kernel
theorem dL_law_1193 : decode cL_law 1193 = .ok (.ifCond .ne 15, 3) := by decide +kernel
theorem dL_law_1196 : decode cL_law 1196 = .ok (.aload_n 3, 1) := by decide +kernel
theorem dL_law_1197 : decode cL_law 1197 = .ok (.iconst 0, 1) := by decide +kernel
theorem dL_law_1198 : decode cL_law 1198 = .ok (.laload, 1) := by decide +kernel
theorem dL_law_1199 : decode cL_law 1199 = .ok (.iload 6, 2) := by decide +kernel
theorem dL_law_1201 : decode cL_law 1201 = .ok (.i2l, 1) := by decide +kernel
theorem dL_law_1202 : decode cL_law 1202 = .ok (.lcmp, 1) := by decide +kernel
theorem dL_law_1203 : decode cL_law 1203 = .ok (.ifCond .eq 5, 3) := by decide +kernel
theorem dL_law_1206 : decode cL_law 1206 = .ok (.iconst 0, 1) := by decide +kernel
theorem dL_law_1207 : decode cL_law 1207 = .ok (.ireturn, 1) := by decide +kernel
theorem dL_law_1208 : decode cL_law 1208 = .ok (.goto 139, 3) := by decide +kernel
theorem dL_law_1211 : decode cL_law 1211 = .ok (.aload_n 1, 1) := by decide +kernel
theorem dL_law_1212 : decode cL_law 1212 = .ok (.invokevirtual 134, 3) := by decide +kernel
theorem dL_law_1215 : decode cL_law 1215 = .ok (.aload_n 2, 1) := by decide +kernel
theorem dL_law_1216 : decode cL_law 1216 = .ok (.invokevirtual 137, 3) := by decide +kernel
theorem dL_law_1219 : decode cL_law 1219 = .ok (.if_icmp .eq 128, 3) := by decide +kernel
theorem dL_law_1222 : decode cL_law 1222 = .ok (.iconst 0, 1) := by decide +kernel
theorem dL_law_1223 : decode cL_law 1223 = .ok (.ireturn, 1) := by decide +kernel
theorem dL_law_1224 : decode cL_law 1224 = .ok (.aload_n 1, 1) := by decide +kernel
theorem dL_law_1225 : decode cL_law 1225 = .ok (.aload_n 0, 1) := by decide +kernel
theorem dL_law_1226 : decode cL_law 1226 = .ok (.iload 4, 2) := by decide +kernel
theorem dL_law_1228 : decode cL_law 1228 = .ok (.iconst 1, 1) := by decide +kernel
theorem dL_law_1229 : decode cL_law 1229 = .ok (.iadd, 1) := by decide +kernel
theorem dL_law_1230 : decode cL_law 1230 = .ok (.iaload, 1) := by decide +kernel
theorem dL_law_1231 : decode cL_law 1231 = .ok (.aload_n 0, 1) := by decide +kernel
theorem dL_law_1232 : decode cL_law 1232 = .ok (.iload 4, 2) := by decide +kernel
theorem dL_law_1234 : decode cL_law 1234 = .ok (.iconst 2, 1) := by decide +kernel
theorem dL_law_1235 : decode cL_law 1235 = .ok (.iadd, 1) := by decide +kernel
theorem dL_law_1236 : decode cL_law 1236 = .ok (.iaload, 1) := by decide +kernel
theorem dL_law_1237 : decode cL_law 1237 = .ok (.aload_n 3, 1) := by decide +kernel
theorem dL_law_1238 : decode cL_law 1238 = .ok (.invokestatic 138, 3) := by decide +kernel
theorem dL_law_1241 : decode cL_law 1241 = .ok (.istore 5, 2) := by decide +kernel
theorem dL_law_1243 : decode cL_law 1243 = .ok (.aload_n 2, 1) := by decide +kernel
theorem dL_law_1244 : decode cL_law 1244 = .ok (.aload_n 0, 1) := by decide +kernel
theorem dL_law_1245 : decode cL_law 1245 = .ok (.iload 4, 2) := by decide +kernel
theorem dL_law_1247 : decode cL_law 1247 = .ok (.iconst 1, 1) := by decide +kernel
theorem dL_law_1248 : decode cL_law 1248 = .ok (.iadd, 1) := by decide +kernel
theorem dL_law_1249 : decode cL_law 1249 = .ok (.iaload, 1) := by decide +kernel
theorem dL_law_1250 : decode cL_law 1250 = .ok (.aload_n 0, 1) := by decide +kernel
theorem dL_law_1251 : decode cL_law 1251 = .ok (.iload 4, 2) := by decide +kernel
theorem dL_law_1253 : decode cL_law 1253 = .ok (.iconst 2, 1) := by decide +kernel
theorem dL_law_1254 : decode cL_law 1254 = .ok (.iadd, 1) := by decide +kernel
theorem dL_law_1255 : decode cL_law 1255 = .ok (.iaload, 1) := by decide +kernel
theorem dL_law_1256 : decode cL_law 1256 = .ok (.invokevirtual 140, 3) := by decide +kernel
theorem dL_law_1259 : decode cL_law 1259 = .ok (.istore 6, 2) := by decide +kernel
theorem dL_law_1261 : decode cL_law 1261 = .ok (.aload_n 2, 1) := by decide +kernel
theorem dL_law_1262 : decode cL_law 1262 = .ok (.invokevirtual 79, 3) := by decide +kernel
theorem dL_law_1265 : decode cL_law 1265 = .ok (.iload 5, 2) := by decide +kernel
theorem dL_law_1267 : decode cL_law 1267 = .ok (.if_icmp .eq 5, 3) := by decide +kernel
theorem dL_law_1270 : decode cL_law 1270 = .ok (.iconst 0, 1) := by decide +kernel
theorem dL_law_1271 : decode cL_law 1271 = .ok (.ireturn, 1) := by decide +kernel
theorem dL_law_1272 : decode cL_law 1272 = .ok (.iload 5, 2) := by decide +kernel
theorem dL_law_1274 : decode cL_law 1274 = .ok (.ifCond .ne 15, 3) := by decide +kernel
theorem dL_law_1277 : decode cL_law 1277 = .ok (.aload_n 3, 1) := by decide +kernel
theorem dL_law_1278 : decode cL_law 1278 = .ok (.iconst 0, 1) := by decide +kernel
theorem dL_law_1279 : decode cL_law 1279 = .ok (.laload, 1) := by decide +kernel
theorem dL_law_1280 : decode cL_law 1280 = .ok (.iload 6, 2) := by decide +kernel
theorem dL_law_1282 : decode cL_law 1282 = .ok (.i2l, 1) := by decide +kernel
theorem dL_law_1283 : decode cL_law 1283 = .ok (.lcmp, 1) := by decide +kernel
theorem dL_law_1284 : decode cL_law 1284 = .ok (.ifCond .eq 5, 3) := by decide +kernel
theorem dL_law_1287 : decode cL_law 1287 = .ok (.iconst 0, 1) := by decide +kernel
theorem dL_law_1288 : decode cL_law 1288 = .ok (.ireturn, 1) := by decide +kernel
theorem dL_law_1289 : decode cL_law 1289 = .ok (.goto 58, 3) := by decide +kernel
theorem dL_law_1292 : decode cL_law 1292 = .ok (.aload_n 1, 1) := by decide +kernel
theorem dL_law_1293 : decode cL_law 1293 = .ok (.invokevirtual 141, 3) := by decide +kernel
theorem dL_law_1296 : decode cL_law 1296 = .ok (.dstore 5, 2) := by decide +kernel
theorem dL_law_1298 : decode cL_law 1298 = .ok (.aload_n 2, 1) := by decide +kernel
theorem dL_law_1299 : decode cL_law 1299 = .ok (.invokevirtual 145, 3) := by decide +kernel
theorem dL_law_1302 : decode cL_law 1302 = .ok (.dstore 7, 2) := by decide +kernel
theorem dL_law_1304 : decode cL_law 1304 = .ok (.dload 5, 2) := by decide +kernel
theorem dL_law_1306 : decode cL_law 1306 = .ok (.dload 7, 2) := by decide +kernel
theorem dL_law_1308 : decode cL_law 1308 = .ok (.dcmp .l, 1) := by decide +kernel
theorem dL_law_1309 : decode cL_law 1309 = .ok (.ifCond .eq 21, 3) := by decide +kernel
theorem dL_law_1312 : decode cL_law 1312 = .ok (.dload 5, 2) := by decide +kernel
theorem dL_law_1314 : decode cL_law 1314 = .ok (.dload 5, 2) := by decide +kernel
theorem dL_law_1316 : decode cL_law 1316 = .ok (.dcmp .l, 1) := by decide +kernel
theorem dL_law_1317 : decode cL_law 1317 = .ok (.ifCond .eq 11, 3) := by decide +kernel
theorem dL_law_1320 : decode cL_law 1320 = .ok (.dload 7, 2) := by decide +kernel
theorem dL_law_1322 : decode cL_law 1322 = .ok (.dload 7, 2) := by decide +kernel
theorem dL_law_1324 : decode cL_law 1324 = .ok (.dcmp .l, 1) := by decide +kernel
theorem dL_law_1325 : decode cL_law 1325 = .ok (.ifCond .ne 5, 3) := by decide +kernel
theorem dL_law_1328 : decode cL_law 1328 = .ok (.iconst 0, 1) := by decide +kernel
theorem dL_law_1329 : decode cL_law 1329 = .ok (.ireturn, 1) := by decide +kernel
theorem dL_law_1330 : decode cL_law 1330 = .ok (.goto 17, 3) := by decide +kernel
theorem dL_law_1333 : decode cL_law 1333 = .ok (.aload_n 1, 1) := by decide +kernel
theorem dL_law_1334 : decode cL_law 1334 = .ok (.invokevirtual 146, 3) := by decide +kernel
theorem dL_law_1337 : decode cL_law 1337 = .ok (.aload_n 2, 1) := by decide +kernel
theorem dL_law_1338 : decode cL_law 1338 = .ok (.invokevirtual 150, 3) := by decide +kernel
theorem dL_law_1341 : decode cL_law 1341 = .ok (.lcmp, 1) := by decide +kernel
theorem dL_law_1342 : decode cL_law 1342 = .ok (.ifCond .eq 5, 3) := by decide +kernel
theorem dL_law_1345 : decode cL_law 1345 = .ok (.iconst 0, 1) := by decide +kernel
theorem dL_law_1346 : decode cL_law 1346 = .ok (.ireturn, 1) := by decide +kernel
theorem dL_law_1347 : decode cL_law 1347 = .ok (.iinc 4 7, 3) := by decide +kernel
theorem dL_law_1350 : decode cL_law 1350 = .ok (.goto (-1327), 3) := by decide +kernel
theorem dL_law_1353 : decode cL_law 1353 = .ok (.iconst 1, 1) := by decide +kernel
theorem dL_law_1354 : decode cL_law 1354 = .ok (.ireturn, 1) := by decide +kernel
end
section
/-! THE MEMORY: every int of class and reference by four numbers: kind K of the cell, number b of its bridge or state, number i in its kind, slot j. THE WORLD: the cells at the places, each at its address. -/
abbrev gMem : Type := Nat → Nat → Nat → Nat → Int32
def gup (V : gMem) (K b i j : Nat) (x : Int32) : gMem := fun K' b' i' j' => if K' = K ∧ b' = b ∧ i' = i ∧ j' = j then x else V K' b' i' j'
abbrev gB : Type := va_G × (Nat → Nat → Nat → Nat) × (ClassId × ClassId × ClassId) × Int64
def gN (K : Nat) : Nat × Nat := match K with
  | 0 => (1, 1)
  | 1 => (1, 1)
  | 2 => (1, 1)
  | 3 => (1, 1)
  | 4 => (1, 1)
  | 10 => (3, 1)
  | 11 => (3, 1)
  | 12 => (3, 2)
  | 13 => (3, 3)
  | 14 => (3, 3)
  | 15 => (3, 16)
  | 20 => (1, 1)
  | 21 => (1, 1)
  | 22 => (1, 1)
  | 23 => (2, 1)
  | 24 => (2, 1)
  | 25 => (2, 1)
  | 26 => (2, 1)
  | 27 => (2, 1)
  | 28 => (1, 1)
  | _ => (0, 0)
def gP (K b i : Nat) : Prop := b < (gN K).1 ∧ i < (gN K).2
def gPL : List (Nat × Nat × Nat) := (List.range 29).flatMap fun K => (List.range (gN K).1).flatMap fun b => (List.range (gN K).2).map fun i => (K, b, i)
theorem gP_K {K b i : Nat} (h : gP K b i) : K < 29 := by
  rcases Nat.lt_or_ge K 29 with q | q
  · exact q
  · obtain ⟨n, rfl⟩ : ∃ n, K = n + 29 := ⟨K - 29, by omega⟩
    exact absurd h.1 (Nat.not_lt_zero b)
theorem gPL_in {K b i : Nat} (h : gP K b i) : (K, b, i) ∈ gPL := by
  simp only [gPL, List.mem_flatMap, List.mem_map, List.mem_range]
  exact ⟨K, gP_K h, b, h.1, i, h.2, rfl⟩
theorem gPL_of {q : Nat × Nat × Nat} (h : q ∈ gPL) : gP q.1 q.2.1 q.2.2 := by
  simp only [gPL, List.mem_flatMap, List.mem_map, List.mem_range] at h
  obtain ⟨K, -, b, hb, i, hi, rfl⟩ := h
  exact ⟨hb, hi⟩
theorem gP_10 {b : Nat} (h : b < 3) : gP 10 b 0 := ⟨h, Nat.zero_lt_one⟩
theorem gP_11 {b : Nat} (h : b < 3) : gP 11 b 0 := ⟨h, Nat.zero_lt_one⟩
theorem gP_12 {b i : Nat} (h : b < 3) (h2 : i < 2) : gP 12 b i := ⟨h, h2⟩
theorem gP_13 {b i : Nat} (h : b < 3) (h2 : i < 3) : gP 13 b i := ⟨h, h2⟩
theorem gP_14 {b i : Nat} (h : b < 3) (h2 : i < 3) : gP 14 b i := ⟨h, h2⟩
theorem gP_15 {b i : Nat} (h : b < 3) (h2 : i < 16) : gP 15 b i := ⟨h, h2⟩
theorem gP_23 {b : Nat} (h : b < 2) : gP 23 b 0 := ⟨h, Nat.zero_lt_one⟩
theorem gP_24 {b : Nat} (h : b < 2) : gP 24 b 0 := ⟨h, Nat.zero_lt_one⟩
theorem gP_25 {b : Nat} (h : b < 2) : gP 25 b 0 := ⟨h, Nat.zero_lt_one⟩
theorem gP_26 {b : Nat} (h : b < 2) : gP 26 b 0 := ⟨h, Nat.zero_lt_one⟩
theorem gP_27 {b : Nat} (h : b < 2) : gP 27 b 0 := ⟨h, Nat.zero_lt_one⟩
theorem gPL_nd : gPL.Nodup := by decide +kernel
/-- what the cell at a place is -/
def gE (B : gB) (K b i : Nat) (f : Nat → Int32) : va_E := match K with
  | 0 => .inr (5, [.ref (B.2.1 1 0 0), .ref (B.2.1 4 0 0), .ref (B.2.1 10 0 0), .ref (B.2.1 10 1 0), .ref (B.2.1 10 2 0)])
  | 1 => .inr (2, [.ref (B.2.1 2 0 0), .ref (B.2.1 3 0 0), .int (f 2)])
  | 2 => .inl (B.2.2.1.1, 8, .inl f)
  | 3 => .inl (B.2.2.1.1, 21, .inl f)
  | 4 => .inl (B.2.2.1.1, 20, .inl f)
  | 10 => .inr (0, [.int (f 0), .int (f 1), .int (f 2), .int (f 3), .int (f 4), .int (f 5), .int (f 6), .ref (B.2.1 11 b 0), .ref (B.2.1 12 b 0), .ref (B.2.1 12 b 1), .ref (B.2.1 13 b 2)])
  | 11 => .inl (B.2.2.1.2.1, 16, .inr (.inr (.inr (.inr (fun j => some (B.2.1 15 b j))))))
  | 12 => .inr (3, [.ref (B.2.1 13 b i), .int (f 1), .int (f 2), .int (f 3), .int (f 4)])
  | 13 => .inr (4, [.ref (B.2.1 14 b i), .int (f 1)])
  | 14 => .inl (B.2.2.1.1, 16, .inl f)
  | 15 => .inr (1, [.int (f 0), .int (f 1), .int (f 2), .int (f 3), .int (f 4), .int (f 5), .int (f 6), .int (f 7), .int (f 8), .int (f 9), .int (f 10)])
  | 20 => .inr (7, [.int (f 0), .int (f 1), .ref (B.2.1 21 0 0), .ref (B.2.1 22 0 0), .int (f 4), .int (f 5), .int (f 6), .int (f 7), .ref (B.2.1 23 0 0), .ref (B.2.1 23 1 0)])
  | 21 => .inl (B.2.2.1.1, 8, .inl f)
  | 22 => .inl (B.2.2.1.1, 20, .inl f)
  | 23 => .inr (6, [.int (f 0), .int (f 1), .int (f 2), .ref (B.2.1 24 b 0), .ref (B.2.1 25 b 0), .ref (B.2.1 26 b 0), .ref (B.2.1 27 b 0), .ref (B.2.1 20 0 0)])
  | 24 => .inl (B.2.2.1.1, 160, .inl f)
  | 25 => .inl (B.2.2.1.1, 30, .inl f)
  | 26 => .inl (B.2.2.1.1, 32, .inl f)
  | 27 => .inl (B.2.2.1.1, 10, .inl f)
  | _ => .inl (B.2.2.1.2.2, 1, .inr (.inl (fun _ => B.2.2.2)))
def gAt (B : gB) (V : gMem) (q : Nat × Nat × Nat) : Nat × va_E := (B.2.1 q.1 q.2.1 q.2.2, gE B q.1 q.2.1 q.2.2 (V q.1 q.2.1 q.2.2))
def gws (B : gB) (V : gMem) : va_W := gPL.map (gAt B V)
def gI (B : gB) : Prop := ∀ p ∈ gPL, ∀ q ∈ gPL, B.2.1 p.1 p.2.1 p.2.2 = B.2.1 q.1 q.2.1 q.2.2 → p = q
def gA (B : gB) (sz : Nat) : Nat → Prop := fun a => (∃ q ∈ gPL, a = B.2.1 q.1 q.2.1 q.2.2) ∨ sz ≤ a
def gty (B : gB) : List (ClassId × FieldType) := [(B.2.2.1.1, .int), (B.2.2.1.2.1, .object RX1), (B.2.2.1.2.2, .long)]
def gT (U : State) : Prop := ∀ w, gW w → ∀ a' : Array Value, w.before a' U = true
def gS (B : gB) (U : State) : Prop := gT U ∧ va_K B.1 vwCl (gty B) U
theorem gT.warm {s U : State} (hW : s.WarmedH U.vm) (h : gT s) : gT U := by
  intro w hw a'
  have h0 := h w hw #[]
  have hg := hw.2
  unfold gok at hg
  cases hq : goodWord w with
  | true => exact word_at hW (good_of_word hq) h0
  | false =>
    rw [hq, Bool.false_or] at hg
    split at hg
    · exact va_Nw.use rfl (va_Nw.warmF hW h0)
    · exact va_Nw.use rfl (va_Nw.warmM hW h0)
    · cases hg
theorem gS.warm {B : gB} {s U : State} (hW : s.WarmedH U.vm) (h : gS B s) : gS B U := ⟨h.1.warm hW, va_K.moved hW.alike h.2⟩
theorem gS.same {B : gB} {s U : State} (hv : U.vm = s.vm) (h : gS B s) : gS B U := h.warm (by rw [hv]; exact State.WarmedH.refl s)
theorem gws_at (B : gB) (V : gMem) {K b i : Nat} (h : gP K b i) : ∃ k : Nat, gPL[k]? = some (K, b, i) ∧ (gws B V)[k]? = some (B.2.1 K b i, gE B K b i (V K b i)) := by
  obtain ⟨k, hk⟩ := List.getElem?_of_mem (gPL_in h)
  exact ⟨k, hk, by simp [gws, gAt, hk]⟩
theorem gPL_one {j k : Nat} {q : Nat × Nat × Nat} (hj : gPL[j]? = some q) (hk : gPL[k]? = some q) : j = k := by
  have hjl := (List.getElem?_eq_some_iff.mp hj).1
  exact (List.getElem?_inj hjl gPL_nd).mp (hj.trans hk.symm)
theorem gws_D {B : gB} (V : gMem) (sz : Nat) (hI : gI B) : va_D (gA B sz) (gws B V) := by
  have key : ∀ (k : Nat) (p : Nat × va_E), (gws B V)[k]? = some p → ∃ q, gPL[k]? = some q ∧ p.1 = B.2.1 q.1 q.2.1 q.2.2 := by
    intro k p hp
    simp only [gws, List.getElem?_map] at hp
    cases hq : gPL[k]? with
    | none => rw [hq] at hp; cases hp
    | some q => rw [hq] at hp; cases hp; exact ⟨q, rfl, rfl⟩
  refine ⟨fun i j p q hp hq hpq => ?_, fun k p hp => ?_⟩
  · obtain ⟨x, h1, h2⟩ := key i p hp
    obtain ⟨y, h3, h4⟩ := key j q hq
    have := hI x (List.mem_of_getElem? h1) y (List.mem_of_getElem? h3) (h2.symm.trans (hpq.trans h4))
    subst this
    exact gPL_one h1 h3
  · obtain ⟨x, h1, h2⟩ := key k p hp
    exact Or.inl ⟨x, List.mem_of_getElem? h1, h2⟩
theorem gup_row (V : gMem) (K b i j : Nat) (x : Int32) : gup V K b i j x K b i = upd (V K b i) j x := by
  funext k
  simp [gup, upd]
theorem gup_off (V : gMem) {K b i j K' b' i' : Nat} (x : Int32) (h : ¬ (K' = K ∧ b' = b ∧ i' = i)) : gup V K b i j x K' b' i' = V K' b' i' := by
  funext k
  simp only [gup]
  rw [if_neg (fun q => h ⟨q.1, q.2.1, q.2.2.1⟩)]
theorem gws_set {B : gB} {V : gMem} {K b i k : Nat} (j : Nat) (x : Int32) (hk : gPL[k]? = some (K, b, i)) {e : va_E} (he : e = gE B K b i (upd (V K b i) j x)) : (gws B V).set k (B.2.1 K b i, e) = gws B (gup V K b i j x) := by
  subst he
  have hl := (List.getElem?_eq_some_iff.mp hk).1
  apply List.ext_getElem?
  intro n
  by_cases hn : n = k
  · subst hn
    rw [List.getElem?_set_self (by simp [gws]; exact hl)]
    simp only [gws, List.getElem?_map, hk, Option.map_some, gAt, gup_row]
  · rw [List.getElem?_set_ne (Ne.symm hn)]
    simp only [gws, List.getElem?_map]
    cases hq : gPL[n]? with
    | none => rfl
    | some q =>
      have hne : ¬ (q.1 = K ∧ q.2.1 = b ∧ q.2.2 = i) := by
        rintro ⟨rfl, rfl, rfl⟩
        exact hn (gPL_one hq hk)
      simp only [Option.map_some, gAt, gup_off V x hne]
/-! the judgement -/
abbrev gZ : Type := Program × Launch × Env × Room × State × MethodId × Array Value × List Frame × Method × Code × Nat × (State → Prop)
def gG (Z : gZ) (B : gB) (n : Nat × Nat) (V : gMem) (pc : Nat) (L : List (Nat × Value)) (st : List Value) : Prop := match Z with
  | (p, l, e, R, s, m, args, below, meth, c, nL, Q) => ∀ (H : Heap) (locs : List Loc) (ls : Array Slot), va_P B.1 vwCl (gws B V) H → va_S (gA B s.heap.size) s.heap H locs → lv_has ls nL L → W p l e R s m args below meth c H locs n.1 n.2 Q (F0 m pc ls st)
def gX (Z : gZ) (B : gB) (cc : ByteArray) (own : String) : Prop := match Z with
  | (p, _, _, _, s, m, _, _, meth, c, nL, _) => p.tables.exec = Jvm.exec ∧ c.code = cc ∧ c.maxLocals = nL ∧ s.vm.findClass own = some m.cls ∧ gS B s ∧ gI B ∧ meth.locks = false
def gQ (B : gB) (post : Option Value → gMem → Prop) (sz : Nat) : Array Value → State → Outcome → State → Prop := fun _ st oc t => (∃ (v : Option Value) (V : gMem), oc = .returned v ∧ post v V ∧ va_P B.1 vwCl (gws B V) t.heap) ∧ va_F (gA B sz) st t
def gF (Z : gZ) (B : gB) (rm : Room) (ret : Option FieldType) (post : Option Value → gMem → Prop) : Prop := match Z with
  | (_, _, _, R, s, _, args, below, meth, _, _, Q) => R = rm ∧ meth.sig.returnType = ret ∧ Q = MQ below (gQ B post s.heap.size) args s rm.cells rm.slots (gA B s.heap.size)
def gl (Z : gZ) : Launch := Z.2.1
def gnL (Z : gZ) : Nat := Z.2.2.2.2.2.2.2.2.2.2.1
def gRm (Z : gZ) : Room := Z.2.2.2.1
theorem gnl_lt {Z : gZ} {k n : Nat} (h : gnL Z = n) (hk : k < n) : k < gnL Z := h ▸ hk
/-- a method's contract: from the memory V, with these arguments, it returns, with post -/
def gM (l : Launch) (B : gB) (y : MethodName) (bc : ByteArray) (nL : Nat) (ret : Option FieldType) (rm : Room) (av : List Value) (V : gMem) (post : Option Value → gMem → Prop) : Prop :=
  ∀ sz : Nat, Met l y [.code y bc nL ret] rm (va_Pc av (fun U => U.heap.size = sz ∧ va_P B.1 vwCl (gws B V) U.heap ∧ gS B U)) (gQ B post sz) rm.cells rm.slots (gA B sz)
theorem gM_of {l : Launch} {B : gB} {y : MethodName} {bc : ByteArray} {nL : Nat} {ret : Option FieldType} {rm : Room} {av : List Value} {V : gMem} {post : Option Value → gMem → Prop} {L : List (Nat × Value)} {own : String} (hy : plainName y.cls = true) (hown : y.cls = own) (hI : gI B) (hlen : (lg_sl av).length ≤ nL) (hL : lv_args 0 av = L)
    (body : ∀ Z : gZ, gnL Z = nL → gRm Z = rm → gX Z B bc own → gF Z B rm ret post → gG Z B (0, 0) V 0 L []) : gM l B y bc nL ret rm av V post := by
  intro sz
  refine Met.ofW (cc := bc) (maxL := nL) (ret := ret) hy rfl ?_
  intro p e s m args below meth c s₁ B' hml hv
  obtain ⟨rfl, hsz, hP, hS⟩ := hv
  subst hsz
  subst hown
  have h := body (p, l, e, rm, s, m, av.toArray, below, meth, c, nL, MQ below (gQ B post s.heap.size) av.toArray s rm.cells rm.slots (gA B s.heap.size)) rfl rfl ⟨B'.exec, B'.bytes, hml, findClass_of_methodNamed B'.named, hS, hI, B'.notSynchronized⟩ ⟨rfl, B'.returns, rfl⟩
  have hl := lv_entry av (n := nL) hlen
  rw [lg_entry_eq]
  rw [hL] at hl
  exact h s.heap [] _ hP va_S.rf hl
theorem gM.mono {l : Launch} {B : gB} {y : MethodName} {bc : ByteArray} {nL : Nat} {ret : Option FieldType} {rm : Room} {av : List Value} {V : gMem} {post post' : Option Value → gMem → Prop} (h : gM l B y bc nL ret rm av V post) (hp : ∀ v V', post v V' → post' v V') : gM l B y bc nL ret rm av V post' := by
  intro sz
  exact MetFree.mono (h sz) (fun _ _ q => q) (fun _ _ _ _ _ q => q) (fun a s o s' _ q => ⟨⟨q.1.1.elim fun v q => q.elim fun V' q => ⟨v, V', q.1, hp _ _ q.2.1, q.2.2⟩, q.1.2⟩, q.2⟩)
theorem gG_st {Z : gZ} {B : gB} {n : Nat × Nat} {V : gMem} {pc : Nat} {L : List (Nat × Value)} {st : List Value} (st' : List Value) (h : st = st') (k : gG Z B n V pc L st') : gG Z B n V pc L st := h ▸ k
theorem gG_V {Z : gZ} {B : gB} {n : Nat × Nat} {V : gMem} {pc : Nat} {L : List (Nat × Value)} {st : List Value} (V' : gMem) (h : V = V') (k : gG Z B n V' pc L st) : gG Z B n V pc L st := h ▸ k
theorem gG_L {Z : gZ} {B : gB} {n : Nat × Nat} {V : gMem} {pc : Nat} {L L' : List (Nat × Value)} {st : List Value} (ks : List Nat) (h : lv_pick L ks = L') (k : gG Z B n V pc L' st) : gG Z B n V pc L st := by
  obtain ⟨p, l, e, R, s, m, args, below, meth, c, nL, Q⟩ := Z
  exact fun H locs ls hP hS hl => k H locs ls hP hS (lv_sub hl ks h)
theorem gG_Le {Z : gZ} {B : gB} {n : Nat × Nat} {V : gMem} {pc : Nat} {L : List (Nat × Value)} {st : List Value} (L' : List (Nat × Value)) (h : L = L') (k : gG Z B n V pc L' st) : gG Z B n V pc L st := h ▸ k
theorem gG_ret {Z : gZ} {B : gB} {n : Nat × Nat} {V V' : gMem} {pc : Nat} {L : List (Nat × Value)} {rest : List Value} {v v0 : Option Value} (h1 : v = v0) (h2 : V' = V) (k : gG Z B n V pc L (v0.toList ++ rest)) : gG Z B n V' pc L (v.toList ++ rest) := by
  subst h1; subst h2
  exact k
theorem gG_rv {Z : gZ} {B : gB} {n : Nat × Nat} {V : gMem} {pc : Nat} {L : List (Nat × Value)} {rest : List Value} {v v0 : Option Value} (h1 : v = v0) (k : gG Z B n V pc L (v0.toList ++ rest)) : gG Z B n V pc L (v.toList ++ rest) := by
  subst h1
  exact k
theorem iinc_1 (k : Nat) : nI k + Int32.ofInt 1 = nI (k + 1) := nI_1 k
theorem iinc_m1 (k : Nat) : nI (k + 1) + Int32.ofInt (-1) = nI k := by
  have h : Int32.ofInt (-1) = -1 := by decide
  rw [h]
  exact pk_m1 k
theorem gG_nm {Z : gZ} {B : gB} {n : Nat × Nat} {V : gMem} {pc : Nat} {L : List (Nat × Value)} {st : List Value} (k : ∀ V1, V1 = V → gG Z B n V1 pc L st) : gG Z B n V pc L st := k V rfl
theorem gG_nmi {Z : gZ} {B : gB} {n : Nat × Nat} {V : gMem} {pc : Nat} {L : List (Nat × Value)} {st : List Value} {x : Int32} (k : ∀ y, y = x → gG Z B n V pc L (.int y :: st)) : gG Z B n V pc L (.int x :: st) := k x rfl
theorem gG_top {Z : gZ} {B : gB} {n : Nat × Nat} {V : gMem} {pc : Nat} {L : List (Nat × Value)} {st : List Value} {x : Int32} (y : Int32) (h : x = y) (k : gG Z B n V pc L (.int y :: st)) : gG Z B n V pc L (.int x :: st) := h ▸ k
section GR
variable {Z : gZ} {B : gB} {n : Nat × Nat} {V : gMem} {pc : Nat} {L L' : List (Nat × Value)} {st : List Value} {cc : ByteArray} {own : String}
theorem g_iload_n (X : gX Z B cc own) {k : Fin 4} {x : Int32} (j : Nat) (h : L[j]? = some ((k : Nat), .int x)) (d : decode cc pc = .ok (.iload_n k, 1)) (kk : gG Z B n V (pc + 1) L (.int x :: st)) : gG Z B n V pc L (st) := by
  obtain ⟨p, l, e, R, s, m, args, below, meth, c, nL, Q⟩ := Z
  exact fun H locs ls hP hS hl => lv_iload_n X.1 X.2.1 d rfl (lv_at hl j h) (kk H locs ls hP hS hl)
theorem g_iload (X : gX Z B cc own) {k : Nat} {x : Int32} (j : Nat) (h : L[j]? = some (k, .int x)) (d : decode cc pc = .ok (.iload k, 2)) (kk : gG Z B n V (pc + 2) L (.int x :: st)) : gG Z B n V pc L (st) := by
  obtain ⟨p, l, e, R, s, m, args, below, meth, c, nL, Q⟩ := Z
  exact fun H locs ls hP hS hl => lv_iload X.1 X.2.1 d (lv_at hl j h) (kk H locs ls hP hS hl)
theorem g_lload_n (X : gX Z B cc own) {k : Fin 4} {x : Int64} (j : Nat) (h : L[j]? = some ((k : Nat), .long x)) (d : decode cc pc = .ok (.lload_n k, 1)) (kk : gG Z B n V (pc + 1) L (.long x :: st)) : gG Z B n V pc L (st) := by
  obtain ⟨p, l, e, R, s, m, args, below, meth, c, nL, Q⟩ := Z
  exact fun H locs ls hP hS hl => lv_lload_n X.1 X.2.1 d rfl (lv_at hl j h) (kk H locs ls hP hS hl)
theorem g_lload (X : gX Z B cc own) {k : Nat} {x : Int64} (j : Nat) (h : L[j]? = some (k, .long x)) (d : decode cc pc = .ok (.lload k, 2)) (kk : gG Z B n V (pc + 2) L (.long x :: st)) : gG Z B n V pc L (st) := by
  obtain ⟨p, l, e, R, s, m, args, below, meth, c, nL, Q⟩ := Z
  exact fun H locs ls hP hS hl => lv_lload X.1 X.2.1 d (lv_at hl j h) (kk H locs ls hP hS hl)
theorem g_aload_n (X : gX Z B cc own) {k : Fin 4} {x : Nat} (j : Nat) (h : L[j]? = some ((k : Nat), .ref x)) (d : decode cc pc = .ok (.aload_n k, 1)) (kk : gG Z B n V (pc + 1) L (.ref x :: st)) : gG Z B n V pc L (st) := by
  obtain ⟨p, l, e, R, s, m, args, below, meth, c, nL, Q⟩ := Z
  exact fun H locs ls hP hS hl => lv_aload_n X.1 X.2.1 d rfl (lv_at hl j h) (kk H locs ls hP hS hl)
theorem g_aload (X : gX Z B cc own) {k : Nat} {x : Nat} (j : Nat) (h : L[j]? = some (k, .ref x)) (d : decode cc pc = .ok (.aload k, 2)) (kk : gG Z B n V (pc + 2) L (.ref x :: st)) : gG Z B n V pc L (st) := by
  obtain ⟨p, l, e, R, s, m, args, below, meth, c, nL, Q⟩ := Z
  exact fun H locs ls hP hS hl => lv_aload X.1 X.2.1 d (lv_at hl j h) (kk H locs ls hP hS hl)
theorem g_aload_nN (X : gX Z B cc own) {k : Fin 4} (j : Nat) (h : L[j]? = some ((k : Nat), .null)) (d : decode cc pc = .ok (.aload_n k, 1)) (kk : gG Z B n V (pc + 1) L (.null :: st)) : gG Z B n V pc L (st) := by
  obtain ⟨p, l, e, R, s, m, args, below, meth, c, nL, Q⟩ := Z
  exact fun H locs ls hP hS hl => lv_aload_nN X.1 X.2.1 d rfl (lv_at hl j h) (kk H locs ls hP hS hl)
theorem g_aloadN (X : gX Z B cc own) {k : Nat} (j : Nat) (h : L[j]? = some (k, .null)) (d : decode cc pc = .ok (.aload k, 2)) (kk : gG Z B n V (pc + 2) L (.null :: st)) : gG Z B n V pc L (st) := by
  obtain ⟨p, l, e, R, s, m, args, below, meth, c, nL, Q⟩ := Z
  exact fun H locs ls hP hS hl => lv_aloadN X.1 X.2.1 d (lv_at hl j h) (kk H locs ls hP hS hl)
theorem g_iconst (X : gX Z B cc own) {k : Int} (v : Int32) (h : Int32.ofInt k = v) (d : decode cc pc = .ok (.iconst k, 1)) (kk : gG Z B n V (pc + 1) L (.int v :: st)) : gG Z B n V pc L (st) := by
  obtain ⟨p, l, e, R, s, m, args, below, meth, c, nL, Q⟩ := Z
  exact fun H locs ls hP hS hl => lv_iconst X.1 X.2.1 d h (kk H locs ls hP hS hl)
theorem g_bipush (X : gX Z B cc own) {k : Int} (v : Int32) (h : (Int8.ofInt k).toInt32 = v) (d : decode cc pc = .ok (.bipush k, 2)) (kk : gG Z B n V (pc + 2) L (.int v :: st)) : gG Z B n V pc L (st) := by
  obtain ⟨p, l, e, R, s, m, args, below, meth, c, nL, Q⟩ := Z
  exact fun H locs ls hP hS hl => lv_bipush X.1 X.2.1 d h (kk H locs ls hP hS hl)
theorem g_sipush (X : gX Z B cc own) {k : Int} (v : Int32) (h : (Int16.ofInt k).toInt32 = v) (d : decode cc pc = .ok (.sipush k, 3)) (kk : gG Z B n V (pc + 3) L (.int v :: st)) : gG Z B n V pc L (st) := by
  obtain ⟨p, l, e, R, s, m, args, below, meth, c, nL, Q⟩ := Z
  exact fun H locs ls hP hS hl => lv_sipush X.1 X.2.1 d h (kk H locs ls hP hS hl)
theorem g_lconst (X : gX Z B cc own) {k : Fin 2} (v : Int64) (h : Int64.ofNat (k : Nat) = v) (d : decode cc pc = .ok (.lconst k, 1)) (kk : gG Z B n V (pc + 1) L (.long v :: st)) : gG Z B n V pc L (st) := by
  obtain ⟨p, l, e, R, s, m, args, below, meth, c, nL, Q⟩ := Z
  exact fun H locs ls hP hS hl => lv_lconst X.1 X.2.1 d h (kk H locs ls hP hS hl)
theorem g_ldc2 (X : gX Z B cc own) {index : Nat} (v : Int64) (h : gW (.constantLong own index v)) (d : decode cc pc = .ok (.ldc2_w index, 3)) (kk : gG Z B n V (pc + 3) L (.long v :: st)) : gG Z B n V pc L (st) := by
  obtain ⟨p, l, e, R, s, m, args, below, meth, c, nL, Q⟩ := Z
  exact fun H locs ls hP hS hl => lv_ldc2 X.1 X.2.1 X.2.2.2.1 (X.2.2.2.2.1.1 _ h _) d (kk H locs ls hP hS hl)
theorem g_null (X : gX Z B cc own) (d : decode cc pc = .ok (.aconst_null, 1)) (kk : gG Z B n V (pc + 1) L (.null :: st)) : gG Z B n V pc L (st) := by
  obtain ⟨p, l, e, R, s, m, args, below, meth, c, nL, Q⟩ := Z
  exact fun H locs ls hP hS hl => lv_null X.1 X.2.1 d (kk H locs ls hP hS hl)
theorem g_iadd (X : gX Z B cc own) {x y : Int32} (d : decode cc pc = .ok (.iadd, 1)) (kk : gG Z B n V (pc + 1) L (.int (x + y) :: st)) : gG Z B n V pc L (.int y :: .int x :: st) := by
  obtain ⟨p, l, e, R, s, m, args, below, meth, c, nL, Q⟩ := Z
  exact fun H locs ls hP hS hl => lv_iadd X.1 X.2.1 d (kk H locs ls hP hS hl)
theorem g_isub (X : gX Z B cc own) {x y : Int32} (d : decode cc pc = .ok (.isub, 1)) (kk : gG Z B n V (pc + 1) L (.int (x - y) :: st)) : gG Z B n V pc L (.int y :: .int x :: st) := by
  obtain ⟨p, l, e, R, s, m, args, below, meth, c, nL, Q⟩ := Z
  exact fun H locs ls hP hS hl => lv_isub X.1 X.2.1 d (kk H locs ls hP hS hl)
theorem g_imul (X : gX Z B cc own) {x y : Int32} (d : decode cc pc = .ok (.imul, 1)) (kk : gG Z B n V (pc + 1) L (.int (x * y) :: st)) : gG Z B n V pc L (.int y :: .int x :: st) := by
  obtain ⟨p, l, e, R, s, m, args, below, meth, c, nL, Q⟩ := Z
  exact fun H locs ls hP hS hl => lv_imul X.1 X.2.1 d (kk H locs ls hP hS hl)
theorem g_ior (X : gX Z B cc own) {x y : Int32} (d : decode cc pc = .ok (.ior, 1)) (kk : gG Z B n V (pc + 1) L (.int (x ||| y) :: st)) : gG Z B n V pc L (.int y :: .int x :: st) := by
  obtain ⟨p, l, e, R, s, m, args, below, meth, c, nL, Q⟩ := Z
  exact fun H locs ls hP hS hl => lv_ior X.1 X.2.1 d (kk H locs ls hP hS hl)
theorem g_iand (X : gX Z B cc own) {x y : Int32} (d : decode cc pc = .ok (.iand, 1)) (kk : gG Z B n V (pc + 1) L (.int (x &&& y) :: st)) : gG Z B n V pc L (.int y :: .int x :: st) := by
  obtain ⟨p, l, e, R, s, m, args, below, meth, c, nL, Q⟩ := Z
  exact fun H locs ls hP hS hl => lv_iand X.1 X.2.1 d (kk H locs ls hP hS hl)
theorem g_idiv (X : gX Z B cc own) {x y : Int32} (h : ¬ y = 0) (d : decode cc pc = .ok (.idiv, 1)) (kk : gG Z B n V (pc + 1) L (.int (x / y) :: st)) : gG Z B n V pc L (.int y :: .int x :: st) := by
  obtain ⟨p, l, e, R, s, m, args, below, meth, c, nL, Q⟩ := Z
  exact fun H locs ls hP hS hl => lv_idiv X.1 X.2.1 d h (kk H locs ls hP hS hl)
theorem g_irem (X : gX Z B cc own) {x y : Int32} (h : ¬ y = 0) (d : decode cc pc = .ok (.irem, 1)) (kk : gG Z B n V (pc + 1) L (.int (x - x / y * y) :: st)) : gG Z B n V pc L (.int y :: .int x :: st) := by
  obtain ⟨p, l, e, R, s, m, args, below, meth, c, nL, Q⟩ := Z
  exact fun H locs ls hP hS hl => lv_irem X.1 X.2.1 d h (kk H locs ls hP hS hl)
theorem g_ladd (X : gX Z B cc own) {x y : Int64} (d : decode cc pc = .ok (.ladd, 1)) (kk : gG Z B n V (pc + 1) L (.long (x + y) :: st)) : gG Z B n V pc L (.long y :: .long x :: st) := by
  obtain ⟨p, l, e, R, s, m, args, below, meth, c, nL, Q⟩ := Z
  exact fun H locs ls hP hS hl => lv_ladd X.1 X.2.1 d (kk H locs ls hP hS hl)
theorem g_lmul (X : gX Z B cc own) {x y : Int64} (d : decode cc pc = .ok (.lmul, 1)) (kk : gG Z B n V (pc + 1) L (.long (x * y) :: st)) : gG Z B n V pc L (.long y :: .long x :: st) := by
  obtain ⟨p, l, e, R, s, m, args, below, meth, c, nL, Q⟩ := Z
  exact fun H locs ls hP hS hl => lv_lmul X.1 X.2.1 d (kk H locs ls hP hS hl)
theorem g_i2l (X : gX Z B cc own) {x : Int32} (d : decode cc pc = .ok (.i2l, 1)) (kk : gG Z B n V (pc + 1) L (.long x.toInt64 :: st)) : gG Z B n V pc L (.int x :: st) := by
  obtain ⟨p, l, e, R, s, m, args, below, meth, c, nL, Q⟩ := Z
  exact fun H locs ls hP hS hl => lv_i2l X.1 X.2.1 d rfl (kk H locs ls hP hS hl)
theorem g_i2d (X : gX Z B cc own) {x : Int32} (d : decode cc pc = .ok (.i2d, 1)) (kk : gG Z B n V (pc + 1) L (.double (FP.i2d x) :: st)) : gG Z B n V pc L (.int x :: st) := by
  obtain ⟨p, l, e, R, s, m, args, below, meth, c, nL, Q⟩ := Z
  exact fun H locs ls hP hS hl => lv_i2d X.1 X.2.1 d (kk H locs ls hP hS hl)
theorem g_l2d (X : gX Z B cc own) {x : Int64} (d : decode cc pc = .ok (.l2d, 1)) (kk : gG Z B n V (pc + 1) L (.double (FP.l2d x) :: st)) : gG Z B n V pc L (.long x :: st) := by
  obtain ⟨p, l, e, R, s, m, args, below, meth, c, nL, Q⟩ := Z
  exact fun H locs ls hP hS hl => lv_l2d X.1 X.2.1 d (kk H locs ls hP hS hl)
theorem g_lcmp (X : gX Z B cc own) {x y : Int64} (d : decode cc pc = .ok (.lcmp, 1)) (kk : gG Z B n V (pc + 1) L (.int (lg_cmp x y) :: st)) : gG Z B n V pc L (.long y :: .long x :: st) := by
  obtain ⟨p, l, e, R, s, m, args, below, meth, c, nL, Q⟩ := Z
  exact fun H locs ls hP hS hl => W.lcmp X.1 X.2.1 d (kk H locs ls hP hS hl)
theorem g_dup (X : gX Z B cc own) {v : Value} (h : v.category = 1) (d : decode cc pc = .ok (.dup, 1)) (kk : gG Z B n V (pc + 1) L (v :: v :: st)) : gG Z B n V pc L (v :: st) := by
  obtain ⟨p, l, e, R, s, m, args, below, meth, c, nL, Q⟩ := Z
  exact fun H locs ls hP hS hl => lv_dup X.1 X.2.1 d h (kk H locs ls hP hS hl)
theorem g_dup2 (X : gX Z B cc own) {v w : Value} (h : v.category = 1) (h2 : w.category = 1) (d : decode cc pc = .ok (.dup2, 1)) (kk : gG Z B n V (pc + 1) L (v :: w :: v :: w :: st)) : gG Z B n V pc L (v :: w :: st) := by
  obtain ⟨p, l, e, R, s, m, args, below, meth, c, nL, Q⟩ := Z
  exact fun H locs ls hP hS hl => lv_dup2_11 X.1 X.2.1 d h h2 (kk H locs ls hP hS hl)
theorem g_pop (X : gX Z B cc own) {v : Value} (h : v.category = 1) (d : decode cc pc = .ok (.pop, 1)) (kk : gG Z B n V (pc + 1) L (st)) : gG Z B n V pc L (v :: st) := by
  obtain ⟨p, l, e, R, s, m, args, below, meth, c, nL, Q⟩ := Z
  exact fun H locs ls hP hS hl => lv_pop X.1 X.2.1 d h (kk H locs ls hP hS hl)
theorem g_goto (X : gX Z B cc own) {off : Int} (tgt : Nat) (h : (pc : Int) + off = (tgt : Int)) (d : decode cc pc = .ok (.goto off, 3)) (kk : gG Z B n V tgt L (st)) : gG Z B n V pc L (st) := by
  obtain ⟨p, l, e, R, s, m, args, below, meth, c, nL, Q⟩ := Z
  exact fun H locs ls hP hS hl => lv_goto X.1 X.2.1 d h (kk H locs ls hP hS hl)
theorem g_ifnull (X : gX Z B cc own) {off : Int} {x : Nat} (d : decode cc pc = .ok (.ifnull off, 3)) (kk : gG Z B n V (pc + 3) L (st)) : gG Z B n V pc L (.ref x :: st) := by
  obtain ⟨p, l, e, R, s, m, args, below, meth, c, nL, Q⟩ := Z
  exact fun H locs ls hP hS hl => lv_ifnull X.1 X.2.1 d (kk H locs ls hP hS hl)
theorem g_ifnullN (X : gX Z B cc own) {off : Int} (tgt : Nat) (h : (pc : Int) + off = (tgt : Int)) (d : decode cc pc = .ok (.ifnull off, 3)) (kk : gG Z B n V tgt L (st)) : gG Z B n V pc L (.null :: st) := by
  obtain ⟨p, l, e, R, s, m, args, below, meth, c, nL, Q⟩ := Z
  exact fun H locs ls hP hS hl => lv_ifnullN X.1 X.2.1 d h (kk H locs ls hP hS hl)
theorem g_ifnonnull (X : gX Z B cc own) {off : Int} {x : Nat} (tgt : Nat) (h : (pc : Int) + off = (tgt : Int)) (d : decode cc pc = .ok (.ifnonnull off, 3)) (kk : gG Z B n V tgt L (st)) : gG Z B n V pc L (.ref x :: st) := by
  obtain ⟨p, l, e, R, s, m, args, below, meth, c, nL, Q⟩ := Z
  exact fun H locs ls hP hS hl => lv_ifnonnull X.1 X.2.1 d h (kk H locs ls hP hS hl)
theorem g_ifnonnullN (X : gX Z B cc own) {off : Int} (d : decode cc pc = .ok (.ifnonnull off, 3)) (kk : gG Z B n V (pc + 3) L (st)) : gG Z B n V pc L (.null :: st) := by
  obtain ⟨p, l, e, R, s, m, args, below, meth, c, nL, Q⟩ := Z
  exact fun H locs ls hP hS hl => lv_ifnonnullN X.1 X.2.1 d (kk H locs ls hP hS hl)
theorem g_istore (X : gX Z B cc own) {k : Nat} {x : Int32} (d : decode cc pc = .ok (.istore k, 2)) (L2 : List (Nat × Value)) (h2 : (k, Value.int x) :: L.filter (fun q => !(q.1 == k) && !(q.1 + 1 == k && q.2.category == 2)) = L2) (hn : k < gnL Z) (kk : gG Z B n V (pc + 2) L2 st) : gG Z B n V pc L (Value.int x :: st) := by
  obtain ⟨p, l, e, R, s, m, args, below, meth, c, nL, Q⟩ := Z
  exact fun H locs ls hP hS hl => lv_istore X.1 X.2.1 d hl hn h2 (fun ls hl => kk H locs ls hP hS hl)
theorem g_istore_n (X : gX Z B cc own) {k0 : Fin 4} {k : Nat} {x : Int32} (hk : (k0 : Nat) = k) (d : decode cc pc = .ok (.istore_n k0, 1)) (L2 : List (Nat × Value)) (h2 : (k, Value.int x) :: L.filter (fun q => !(q.1 == k) && !(q.1 + 1 == k && q.2.category == 2)) = L2) (hn : k < gnL Z) (kk : gG Z B n V (pc + 1) L2 st) : gG Z B n V pc L (Value.int x :: st) := by
  obtain ⟨p, l, e, R, s, m, args, below, meth, c, nL, Q⟩ := Z
  exact fun H locs ls hP hS hl => lv_istore_n X.1 X.2.1 d hk hl hn h2 (fun ls hl => kk H locs ls hP hS hl)
theorem g_astore (X : gX Z B cc own) {k : Nat} {x : Nat} (d : decode cc pc = .ok (.astore k, 2)) (L2 : List (Nat × Value)) (h2 : (k, Value.ref x) :: L.filter (fun q => !(q.1 == k) && !(q.1 + 1 == k && q.2.category == 2)) = L2) (hn : k < gnL Z) (kk : gG Z B n V (pc + 2) L2 st) : gG Z B n V pc L (Value.ref x :: st) := by
  obtain ⟨p, l, e, R, s, m, args, below, meth, c, nL, Q⟩ := Z
  exact fun H locs ls hP hS hl => lv_astore X.1 X.2.1 d hl hn h2 (fun ls hl => kk H locs ls hP hS hl)
theorem g_astore_n (X : gX Z B cc own) {k0 : Fin 4} {k : Nat} {x : Nat} (hk : (k0 : Nat) = k) (d : decode cc pc = .ok (.astore_n k0, 1)) (L2 : List (Nat × Value)) (h2 : (k, Value.ref x) :: L.filter (fun q => !(q.1 == k) && !(q.1 + 1 == k && q.2.category == 2)) = L2) (hn : k < gnL Z) (kk : gG Z B n V (pc + 1) L2 st) : gG Z B n V pc L (Value.ref x :: st) := by
  obtain ⟨p, l, e, R, s, m, args, below, meth, c, nL, Q⟩ := Z
  exact fun H locs ls hP hS hl => lv_astore_n X.1 X.2.1 d hk hl hn h2 (fun ls hl => kk H locs ls hP hS hl)
theorem g_astoreN (X : gX Z B cc own) {k : Nat} (d : decode cc pc = .ok (.astore k, 2)) (L2 : List (Nat × Value)) (h2 : (k, Value.null) :: L.filter (fun q => !(q.1 == k) && !(q.1 + 1 == k && q.2.category == 2)) = L2) (hn : k < gnL Z) (kk : gG Z B n V (pc + 2) L2 st) : gG Z B n V pc L (Value.null :: st) := by
  obtain ⟨p, l, e, R, s, m, args, below, meth, c, nL, Q⟩ := Z
  exact fun H locs ls hP hS hl => lv_astoreN X.1 X.2.1 d hl hn h2 (fun ls hl => kk H locs ls hP hS hl)
theorem g_astore_nN (X : gX Z B cc own) {k0 : Fin 4} {k : Nat} (hk : (k0 : Nat) = k) (d : decode cc pc = .ok (.astore_n k0, 1)) (L2 : List (Nat × Value)) (h2 : (k, Value.null) :: L.filter (fun q => !(q.1 == k) && !(q.1 + 1 == k && q.2.category == 2)) = L2) (hn : k < gnL Z) (kk : gG Z B n V (pc + 1) L2 st) : gG Z B n V pc L (Value.null :: st) := by
  obtain ⟨p, l, e, R, s, m, args, below, meth, c, nL, Q⟩ := Z
  exact fun H locs ls hP hS hl => lv_astore_nN X.1 X.2.1 d hk hl hn h2 (fun ls hl => kk H locs ls hP hS hl)
theorem g_lstore (X : gX Z B cc own) {k : Nat} {x : Int64} (d : decode cc pc = .ok (.lstore k, 2)) (L2 : List (Nat × Value)) (h2 : (k, Value.long x) :: L.filter (fun q => !(q.1 == k) && (!(q.1 == k + 1) && !(q.1 + 1 == k && q.2.category == 2))) = L2) (hn : k + 1 < gnL Z) (kk : gG Z B n V (pc + 2) L2 st) : gG Z B n V pc L (Value.long x :: st) := by
  obtain ⟨p, l, e, R, s, m, args, below, meth, c, nL, Q⟩ := Z
  exact fun H locs ls hP hS hl => lv_lstore X.1 X.2.1 d hl hn h2 (fun ls hl => kk H locs ls hP hS hl)
theorem g_lstore_n (X : gX Z B cc own) {k0 : Fin 4} {k : Nat} {x : Int64} (hk : (k0 : Nat) = k) (d : decode cc pc = .ok (.lstore_n k0, 1)) (L2 : List (Nat × Value)) (h2 : (k, Value.long x) :: L.filter (fun q => !(q.1 == k) && (!(q.1 == k + 1) && !(q.1 + 1 == k && q.2.category == 2))) = L2) (hn : k + 1 < gnL Z) (kk : gG Z B n V (pc + 1) L2 st) : gG Z B n V pc L (Value.long x :: st) := by
  obtain ⟨p, l, e, R, s, m, args, below, meth, c, nL, Q⟩ := Z
  exact fun H locs ls hP hS hl => lv_lstore_n X.1 X.2.1 d hk hl hn h2 (fun ls hl => kk H locs ls hP hS hl)
theorem g_iinc (X : gX Z B cc own) {k : Nat} {i : Int} {x : Int32} (j : Nat) (hj : L[j]? = some (k, .int x)) (v : Int32) (hv : x + Int32.ofInt i = v) (d : decode cc pc = .ok (.iinc k i, 3)) (L2 : List (Nat × Value)) (h2 : (k, Value.int v) :: L.filter (fun q => !(q.1 == k) && !(q.1 + 1 == k && q.2.category == 2)) = L2) (hn : k < gnL Z) (kk : gG Z B n V (pc + 3) L2 st) : gG Z B n V pc L st := by
  obtain ⟨p, l, e, R, s, m, args, below, meth, c, nL, Q⟩ := Z
  exact fun H locs ls hP hS hl => lv_iinc X.1 X.2.1 d hl (k := j) hj hv hn h2 (fun ls hl => kk H locs ls hP hS hl)
theorem g_icmp_eq (X : gX Z B cc own) {x y : Int32} {off : Int} (tgt : Nat) (h : (pc : Int) + off = (tgt : Int)) (d : decode cc pc = .ok (.if_icmp .eq off, 3)) (kt : x = y → gG Z B n V tgt L st) (kf : ¬ x = y → gG Z B n V (pc + 3) L st) : gG Z B n V pc L (.int y :: .int x :: st) := by
  obtain ⟨p, l, e, R, s, m, args, below, meth, c, nL, Q⟩ := Z
  exact fun H locs ls hP hS hl => lv_icmp_eq X.1 X.2.1 d h (fun q => kt q H locs ls hP hS hl) (fun q => kf q H locs ls hP hS hl)
theorem g_if_eq (X : gX Z B cc own) {x : Int32} {off : Int} (tgt : Nat) (h : (pc : Int) + off = (tgt : Int)) (d : decode cc pc = .ok (.ifCond .eq off, 3)) (kt : x = 0 → gG Z B n V tgt L st) (kf : ¬ x = 0 → gG Z B n V (pc + 3) L st) : gG Z B n V pc L (.int x :: st) := by
  obtain ⟨p, l, e, R, s, m, args, below, meth, c, nL, Q⟩ := Z
  exact fun H locs ls hP hS hl => lv_if_eq X.1 X.2.1 d h (fun q => kt q H locs ls hP hS hl) (fun q => kf q H locs ls hP hS hl)
theorem g_icmp_ne (X : gX Z B cc own) {x y : Int32} {off : Int} (tgt : Nat) (h : (pc : Int) + off = (tgt : Int)) (d : decode cc pc = .ok (.if_icmp .ne off, 3)) (kt : ¬ x = y → gG Z B n V tgt L st) (kf : x = y → gG Z B n V (pc + 3) L st) : gG Z B n V pc L (.int y :: .int x :: st) := by
  obtain ⟨p, l, e, R, s, m, args, below, meth, c, nL, Q⟩ := Z
  exact fun H locs ls hP hS hl => lv_icmp_ne X.1 X.2.1 d h (fun q => kt q H locs ls hP hS hl) (fun q => kf q H locs ls hP hS hl)
theorem g_if_ne (X : gX Z B cc own) {x : Int32} {off : Int} (tgt : Nat) (h : (pc : Int) + off = (tgt : Int)) (d : decode cc pc = .ok (.ifCond .ne off, 3)) (kt : ¬ x = 0 → gG Z B n V tgt L st) (kf : x = 0 → gG Z B n V (pc + 3) L st) : gG Z B n V pc L (.int x :: st) := by
  obtain ⟨p, l, e, R, s, m, args, below, meth, c, nL, Q⟩ := Z
  exact fun H locs ls hP hS hl => lv_if_ne X.1 X.2.1 d h (fun q => kt q H locs ls hP hS hl) (fun q => kf q H locs ls hP hS hl)
theorem g_icmp_lt (X : gX Z B cc own) {x y : Int32} {off : Int} (tgt : Nat) (h : (pc : Int) + off = (tgt : Int)) (d : decode cc pc = .ok (.if_icmp .lt off, 3)) (kt : x < y → gG Z B n V tgt L st) (kf : ¬ x < y → gG Z B n V (pc + 3) L st) : gG Z B n V pc L (.int y :: .int x :: st) := by
  obtain ⟨p, l, e, R, s, m, args, below, meth, c, nL, Q⟩ := Z
  exact fun H locs ls hP hS hl => lv_icmp_lt X.1 X.2.1 d h (fun q => kt q H locs ls hP hS hl) (fun q => kf q H locs ls hP hS hl)
theorem g_if_lt (X : gX Z B cc own) {x : Int32} {off : Int} (tgt : Nat) (h : (pc : Int) + off = (tgt : Int)) (d : decode cc pc = .ok (.ifCond .lt off, 3)) (kt : x < 0 → gG Z B n V tgt L st) (kf : ¬ x < 0 → gG Z B n V (pc + 3) L st) : gG Z B n V pc L (.int x :: st) := by
  obtain ⟨p, l, e, R, s, m, args, below, meth, c, nL, Q⟩ := Z
  exact fun H locs ls hP hS hl => lv_if_lt X.1 X.2.1 d h (fun q => kt q H locs ls hP hS hl) (fun q => kf q H locs ls hP hS hl)
theorem g_icmp_ge (X : gX Z B cc own) {x y : Int32} {off : Int} (tgt : Nat) (h : (pc : Int) + off = (tgt : Int)) (d : decode cc pc = .ok (.if_icmp .ge off, 3)) (kt : y ≤ x → gG Z B n V tgt L st) (kf : ¬ y ≤ x → gG Z B n V (pc + 3) L st) : gG Z B n V pc L (.int y :: .int x :: st) := by
  obtain ⟨p, l, e, R, s, m, args, below, meth, c, nL, Q⟩ := Z
  exact fun H locs ls hP hS hl => lv_icmp_ge X.1 X.2.1 d h (fun q => kt q H locs ls hP hS hl) (fun q => kf q H locs ls hP hS hl)
theorem g_if_ge (X : gX Z B cc own) {x : Int32} {off : Int} (tgt : Nat) (h : (pc : Int) + off = (tgt : Int)) (d : decode cc pc = .ok (.ifCond .ge off, 3)) (kt : 0 ≤ x → gG Z B n V tgt L st) (kf : ¬ 0 ≤ x → gG Z B n V (pc + 3) L st) : gG Z B n V pc L (.int x :: st) := by
  obtain ⟨p, l, e, R, s, m, args, below, meth, c, nL, Q⟩ := Z
  exact fun H locs ls hP hS hl => lv_if_ge X.1 X.2.1 d h (fun q => kt q H locs ls hP hS hl) (fun q => kf q H locs ls hP hS hl)
theorem g_icmp_gt (X : gX Z B cc own) {x y : Int32} {off : Int} (tgt : Nat) (h : (pc : Int) + off = (tgt : Int)) (d : decode cc pc = .ok (.if_icmp .gt off, 3)) (kt : y < x → gG Z B n V tgt L st) (kf : ¬ y < x → gG Z B n V (pc + 3) L st) : gG Z B n V pc L (.int y :: .int x :: st) := by
  obtain ⟨p, l, e, R, s, m, args, below, meth, c, nL, Q⟩ := Z
  exact fun H locs ls hP hS hl => lv_icmp_gt X.1 X.2.1 d h (fun q => kt q H locs ls hP hS hl) (fun q => kf q H locs ls hP hS hl)
theorem g_if_gt (X : gX Z B cc own) {x : Int32} {off : Int} (tgt : Nat) (h : (pc : Int) + off = (tgt : Int)) (d : decode cc pc = .ok (.ifCond .gt off, 3)) (kt : 0 < x → gG Z B n V tgt L st) (kf : ¬ 0 < x → gG Z B n V (pc + 3) L st) : gG Z B n V pc L (.int x :: st) := by
  obtain ⟨p, l, e, R, s, m, args, below, meth, c, nL, Q⟩ := Z
  exact fun H locs ls hP hS hl => lv_if_gt X.1 X.2.1 d h (fun q => kt q H locs ls hP hS hl) (fun q => kf q H locs ls hP hS hl)
theorem g_icmp_le (X : gX Z B cc own) {x y : Int32} {off : Int} (tgt : Nat) (h : (pc : Int) + off = (tgt : Int)) (d : decode cc pc = .ok (.if_icmp .le off, 3)) (kt : x ≤ y → gG Z B n V tgt L st) (kf : ¬ x ≤ y → gG Z B n V (pc + 3) L st) : gG Z B n V pc L (.int y :: .int x :: st) := by
  obtain ⟨p, l, e, R, s, m, args, below, meth, c, nL, Q⟩ := Z
  exact fun H locs ls hP hS hl => lv_icmp_le X.1 X.2.1 d h (fun q => kt q H locs ls hP hS hl) (fun q => kf q H locs ls hP hS hl)
theorem g_if_le (X : gX Z B cc own) {x : Int32} {off : Int} (tgt : Nat) (h : (pc : Int) + off = (tgt : Int)) (d : decode cc pc = .ok (.ifCond .le off, 3)) (kt : x ≤ 0 → gG Z B n V tgt L st) (kf : ¬ x ≤ 0 → gG Z B n V (pc + 3) L st) : gG Z B n V pc L (.int x :: st) := by
  obtain ⟨p, l, e, R, s, m, args, below, meth, c, nL, Q⟩ := Z
  exact fun H locs ls hP hS hl => lv_if_le X.1 X.2.1 d h (fun q => kt q H locs ls hP hS hl) (fun q => kf q H locs ls hP hS hl)
theorem g_tableIn (X : gX Z B cc own) {dflt lo hi : Int} {offs : Array Int} {len : Nat} {x : Int32} (off : Int) (tgt : Nat) (h1 : ¬ x.toInt < lo) (h2 : ¬ hi < x.toInt) (ho : offs[(x.toInt - lo).toNat]? = some off) (ht : (pc : Int) + off = (tgt : Int)) (d : decode cc pc = .ok (.tableswitch dflt lo hi offs, len)) (kk : gG Z B n V tgt L st) : gG Z B n V pc L (.int x :: st) := by
  obtain ⟨p, l, e, R, s, m, args, below, meth, c, nL, Q⟩ := Z
  exact fun H locs ls hP hS hl => lv_tableIn X.1 X.2.1 d h1 h2 ho ht (kk H locs ls hP hS hl)
theorem g_tableOut (X : gX Z B cc own) {dflt lo hi : Int} {offs : Array Int} {len : Nat} {x : Int32} (tgt : Nat) (h1 : x.toInt < lo ∨ hi < x.toInt) (ht : (pc : Int) + dflt = (tgt : Int)) (d : decode cc pc = .ok (.tableswitch dflt lo hi offs, len)) (kk : gG Z B n V tgt L st) : gG Z B n V pc L (.int x :: st) := by
  obtain ⟨p, l, e, R, s, m, args, below, meth, c, nL, Q⟩ := Z
  exact fun H locs ls hP hS hl => lv_tableOut X.1 X.2.1 d h1 ht (kk H locs ls hP hS hl)
theorem g_lookup (X : gX Z B cc own) {dflt : Int} {ps : Array (Int × Int)} {len : Nat} {x : Int32} (off : Int) (tgt : Nat) (hp : (ps.toList.zip (ps.toList.drop 1)).all (fun (a, next) => a.1 < next.1) = true) (ho : Op.lookupswitch.offset ps.toList dflt x.toInt = off) (ht : (pc : Int) + off = (tgt : Int)) (d : decode cc pc = .ok (.lookupswitch dflt ps, len)) (kk : gG Z B n V tgt L st) : gG Z B n V pc L (.int x :: st) := by
  obtain ⟨p, l, e, R, s, m, args, below, meth, c, nL, Q⟩ := Z
  exact fun H locs ls hP hS hl => lv_lookup X.1 X.2.1 d hp ho ht (kk H locs ls hP hS hl)
/-- a field link, plain or of a nest mate -/
def gFL (own : String) (idx : Nat) (C nm ds : String) : Prop := gW (.fieldLink own idx C nm ds) ∨ ∃ h, gW (.fieldLinkNest own idx C nm ds h)
theorem g_get (X : gX Z B cc own) {ci N : Nat} {C : String} {T : u_T} {K b i idx : Nat} {fs : List Value} {v : Value} (hc : vwCl[ci]? = some (C, T, N)) (hu : ∀ w ∈ u_ws C T N, gW w) (k : Nat) (hk : k < N) (hT : (T k).1 = C) (hp : gP K b i) (he : gE B K b i (V K b i) = .inr (ci, fs)) (hv : fs[k]? = some v) (hq : gFL own idx C (T k).2.1 (T k).2.2.1) (d : decode cc pc = .ok (.getfield idx, 3)) (kk : gG Z B n V (pc + 3) L (v :: st)) : gG Z B n V pc L (.ref (B.2.1 K b i) :: st) := by
  obtain ⟨p, l, e, R, s, m, args, below, meth, c, nL, Q⟩ := Z
  intro H locs ls hP hS hl
  obtain ⟨q0, -, hq0⟩ := gws_at B V hp
  rw [he] at hq0
  have hts : ∀ w ∈ u_ws C T N, w.before args s = true := fun w hw => X.2.2.2.2.1.1 w (hu w hw) args
  rcases hq with hq | ⟨h, hq⟩
  · exact va_get X.1 X.2.1 hts (fun w hw => hw) X.2.2.2.1 X.2.2.2.2.1.2 hP q0 hq0 hc k hk (X.2.2.2.2.1.1 _ hq args) (fun x hx => by rw [hT] at hx; exact hx) hv d (kk H locs ls hP hS hl)
  · exact va_getN X.1 X.2.1 hts (fun w hw => hw) X.2.2.2.1 X.2.2.2.2.1.2 hP q0 hq0 hc k hk (X.2.2.2.2.1.1 _ hq args) (fun x hx => by rw [hT] at hx; exact hx) hv d (kk H locs ls hP hS hl)
theorem g_put (X : gX Z B cc own) {ci N : Nat} {C : String} {T : u_T} {K b i idx : Nat} {fs : List Value} {x : Int32} {ty : FieldType} (hc : vwCl[ci]? = some (C, T, N)) (hu : ∀ w ∈ u_ws C T N, gW w) (ty0 : Nat → FieldType) (hty : ∀ k, k < N → parseFieldDescriptor (T k).2.2.1 = some (ty0 k)) (hnm : ∀ a, a < N → ∀ b, b < N → a ≠ b → (T a).2.1 ≠ (T b).2.1) (k : Nat) (hk : k < N) (hT : (T k).1 = C) (hfin : (T k).2.2.2 = false) (hd : parseFieldDescriptor (T k).2.2.1 = some ty) (hn : narrow ty (.int x) = .int x) (hfit : fits ty (.int x) = true) (hp : gP K b i) (he : gE B K b i (V K b i) = .inr (ci, fs)) (hl : k < fs.length) (hs : Sum.inr (ci, fs.set k (.int x)) = gE B K b i (upd (V K b i) k x)) (hq : gFL own idx C (T k).2.1 (T k).2.2.1) (d : decode cc pc = .ok (.putfield idx, 3)) (kk : gG Z B n (gup V K b i k x) (pc + 3) L st) : gG Z B n V pc L (.int x :: .ref (B.2.1 K b i) :: st) := by
  obtain ⟨p, l, e, R, s, m, args, below, meth, c, nL, Q⟩ := Z
  intro H locs ls hP hS hl9
  obtain ⟨q0, hk0, hq0⟩ := gws_at B V hp
  rw [he] at hq0
  have hts : ∀ w ∈ u_ws C T N, w.before args s = true := fun w hw => X.2.2.2.2.1.1 w (hu w hw) args
  have go : ∀ (H1 : Heap) (locs1 : List Loc), va_P B.1 vwCl ((gws B V).set q0 (B.2.1 K b i, .inr (ci, fs.set k (.int x)))) H1 → va_D (gA B s.heap.size) ((gws B V).set q0 (B.2.1 K b i, .inr (ci, fs.set k (.int x)))) → va_S (gA B s.heap.size) s.heap H1 locs1 → W p l e R s m args below meth c H1 locs1 n.1 n.2 Q (F0 m (pc + 3) ls st) := by
    intro H1 locs1 hP1 _ hS1
    rw [gws_set k x hk0 hs] at hP1
    exact kk H1 locs1 ls hP1 hS1 hl9
  rcases hq with hq | ⟨h, hq⟩
  · exact va_put X.1 X.2.1 hts (fun w hw => hw) ty0 hty hnm X.2.2.2.1 X.2.2.2.2.1.2 hP (gws_D V _ X.2.2.2.2.2.1) hS q0 hq0 hc k hk (X.2.2.2.2.1.1 _ hq args) (fun x hx => by rw [hT] at hx; exact hx) hfin hd hn hfit hl d go
  · exact va_putN X.1 X.2.1 hts (fun w hw => hw) ty0 hty hnm X.2.2.2.1 X.2.2.2.2.1.2 hP (gws_D V _ X.2.2.2.2.2.1) hS q0 hq0 hc k hk (X.2.2.2.2.1.1 _ hq args) (fun x hx => by rw [hT] at hx; exact hx) hfin hd hn hfit hl d go
theorem g_iald (X : gX Z B cc own) {K b i N : Nat} {x : Int32} (hp : gP K b i) (he : gE B K b i (V K b i) = .inl (B.2.2.1.1, N, .inl (V K b i))) (hin : vp_in x N) (d : decode cc pc = .ok (.iaload, 1)) (kk : gG Z B n V (pc + 1) L (.int (V K b i x.toNatClampNeg) :: st)) : gG Z B n V pc L (.int x :: .ref (B.2.1 K b i) :: st) := by
  obtain ⟨p, l, e, R, s, m, args, below, meth, c, nL, Q⟩ := Z
  intro H locs ls hP hS hl
  obtain ⟨q0, -, hq0⟩ := gws_at B V hp
  rw [he] at hq0
  exact va_iald X.1 X.2.1 X.2.2.2.2.1.2 hP q0 0 hq0 rfl hin d (kk H locs ls hP hS hl)
theorem g_iast (X : gX Z B cc own) {K b i N : Nat} {x v : Int32} (hp : gP K b i) (he : ∀ f, gE B K b i f = .inl (B.2.2.1.1, N, .inl f)) (hin : vp_in x N) (d : decode cc pc = .ok (.iastore, 1)) (kk : gG Z B n (gup V K b i x.toNatClampNeg v) (pc + 1) L st) : gG Z B n V pc L (.int v :: .int x :: .ref (B.2.1 K b i) :: st) := by
  obtain ⟨p, l, e, R, s, m, args, below, meth, c, nL, Q⟩ := Z
  intro H locs ls hP hS hl
  obtain ⟨q0, hk0, hq0⟩ := gws_at B V hp
  rw [he] at hq0
  refine va_iast X.1 X.2.1 X.2.2.2.2.1.2 hP (gws_D V _ X.2.2.2.2.2.1) hS q0 0 hq0 rfl hin d (fun H1 locs1 hP1 _ hS1 => ?_)
  rw [gws_set x.toNatClampNeg v hk0 (he _).symm] at hP1
  exact kk H1 locs1 ls hP1 hS1 hl
theorem g_ialdN (X : gX Z B cc own) {K b i N : Nat} {x : Int32} (j : Nat) (hx : x = nI j) (hj : j < N) (hN : N < 2 ^ 31) (hp : gP K b i) (he : gE B K b i (V K b i) = .inl (B.2.2.1.1, N, .inl (V K b i))) (d : decode cc pc = .ok (.iaload, 1)) (kk : gG Z B n V (pc + 1) L (.int (V K b i j) :: st)) : gG Z B n V pc L (.int x :: .ref (B.2.1 K b i) :: st) := by
  subst hx
  refine g_iald X hp he (vp_in_nI hj hN) d ?_
  rw [nI_clamp (by omega)]
  exact kk
theorem g_iastN (X : gX Z B cc own) {K b i N : Nat} {x v : Int32} (j : Nat) (hx : x = nI j) (hj : j < N) (hN : N < 2 ^ 31) (hp : gP K b i) (he : ∀ f, gE B K b i f = .inl (B.2.2.1.1, N, .inl f)) (d : decode cc pc = .ok (.iastore, 1)) (kk : gG Z B n (gup V K b i j v) (pc + 1) L st) : gG Z B n V pc L (.int v :: .int x :: .ref (B.2.1 K b i) :: st) := by
  subst hx
  refine g_iast X hp he (vp_in_nI hj hN) d ?_
  rw [nI_clamp (by omega)]
  exact kk
theorem g_alen (X : gX Z B cc own) {K b i N : Nat} {v : Int32} (hp : gP K b i) (he : gE B K b i (V K b i) = .inl (B.2.2.1.1, N, .inl (V K b i))) (hv : Int32.ofNat N = v) (d : decode cc pc = .ok (.arraylength, 1)) (kk : gG Z B n V (pc + 1) L (.int v :: st)) : gG Z B n V pc L (.ref (B.2.1 K b i) :: st) := by
  obtain ⟨p, l, e, R, s, m, args, below, meth, c, nL, Q⟩ := Z
  intro H locs ls hP hS hl
  obtain ⟨q0, -, hq0⟩ := gws_at B V hp
  rw [he] at hq0
  exact va_alen X.1 X.2.1 X.2.2.2.2.1.2 hP q0 0 hq0 rfl hv d (kk H locs ls hP hS hl)
/-- the carts' own array -/
theorem g_alenC (X : gX Z B cc own) {b : Nat} (hb : b < 3) (d : decode cc pc = .ok (.arraylength, 1)) (kk : gG Z B n V (pc + 1) L (.int 16 :: st)) : gG Z B n V pc L (.ref (B.2.1 11 b 0) :: st) := by
  obtain ⟨p, l, e, R, s, m, args, below, meth, c, nL, Q⟩ := Z
  intro H locs ls hP hS hl
  obtain ⟨q0, -, hq0⟩ := gws_at B V (K := 11) (b := b) (i := 0) ⟨hb, Nat.zero_lt_one⟩
  exact va_alen X.1 X.2.1 X.2.2.2.2.1.2 hP q0 1 hq0 rfl (v := 16) rfl d (kk H locs ls hP hS hl)
theorem g_aaldC (X : gX Z B cc own) {b : Nat} {x : Int32} (j : Nat) (hx : x = nI j) (hj : j < 16) (hb : b < 3) (d : decode cc pc = .ok (.aaload, 1)) (kk : gG Z B n V (pc + 1) L (.ref (B.2.1 15 b j) :: st)) : gG Z B n V pc L (.int x :: .ref (B.2.1 11 b 0) :: st) := by
  obtain ⟨p, l, e, R, s, m, args, below, meth, c, nL, Q⟩ := Z
  intro H locs ls hP hS hl
  subst hx
  obtain ⟨q0, -, hq0⟩ := gws_at B V (K := 11) (b := b) (i := 0) ⟨hb, Nat.zero_lt_one⟩
  refine va_aldq X.1 X.2.1 X.2.2.2.2.1.2 hP q0 1 hq0 rfl (vp_in_nI hj (by decide)) d ?_
  rw [nI_clamp (by omega)]
  exact kk H locs ls hP hS hl
/-! ends -/
theorem g_iret {rm : Room} {post : Option Value → gMem → Prop} (X : gX Z B cc own) (F : gF Z B rm (some .int) post) {v : Int32} (hp : post (some (.int v)) V) (hn : n = (rm.cells, rm.slots)) (d : decode cc pc = .ok (.ireturn, 1)) : gG Z B n V pc L [.int v] := by
  obtain ⟨p, l, e, R, s, m, args, below, meth, c, nL, Q⟩ := Z
  obtain ⟨h1, h2, h3⟩ := F
  subst h3; subst hn
  intro H locs ls hP hS hl
  exact W.iret X.1 X.2.1 h2 (fun t ht hW => ⟨⟨_, V, rfl, hp, by rw [ht]; exact hP⟩, hS.F ht⟩) hS.2.2 d X.2.2.2.2.2.2
theorem g_zret {rm : Room} {post : Option Value → gMem → Prop} (X : gX Z B cc own) (F : gF Z B rm (some .boolean) post) {v : Int32} (hb : narrow .boolean (.int v) = .int v) (hp : post (some (.int v)) V) (hn : n = (rm.cells, rm.slots)) (d : decode cc pc = .ok (.ireturn, 1)) : gG Z B n V pc L [.int v] := by
  obtain ⟨p, l, e, R, s, m, args, below, meth, c, nL, Q⟩ := Z
  obtain ⟨h1, h2, h3⟩ := F
  subst h3; subst hn
  intro H locs ls hP hS hl
  exact W.zret X.1 X.2.1 h2 hb (fun t ht hW => ⟨⟨_, V, rfl, hp, by rw [ht]; exact hP⟩, hS.F ht⟩) hS.2.2 d X.2.2.2.2.2.2
theorem g_lret {rm : Room} {post : Option Value → gMem → Prop} (X : gX Z B cc own) (F : gF Z B rm (some .long) post) {v : Int64} (hp : post (some (.long v)) V) (hn : n = (rm.cells, rm.slots)) (d : decode cc pc = .ok (.lreturn, 1)) : gG Z B n V pc L [.long v] := by
  obtain ⟨p, l, e, R, s, m, args, below, meth, c, nL, Q⟩ := Z
  obtain ⟨h1, h2, h3⟩ := F
  subst h3; subst hn
  intro H locs ls hP hS hl
  exact W.lret X.1 X.2.1 h2 (fun t ht hW => ⟨⟨_, V, rfl, hp, by rw [ht]; exact hP⟩, hS.F ht⟩) hS.2.2 d X.2.2.2.2.2.2
theorem g_vret {rm : Room} {post : Option Value → gMem → Prop} (X : gX Z B cc own) (F : gF Z B rm none post) (hp : post none V) (hn : n = (rm.cells, rm.slots)) (d : decode cc pc = .ok (.return_, 1)) : gG Z B n V pc L [] := by
  obtain ⟨p, l, e, R, s, m, args, below, meth, c, nL, Q⟩ := Z
  obtain ⟨h1, h2, h3⟩ := F
  subst h3; subst hn
  intro H locs ls hP hS hl
  exact W.vret X.1 X.2.1 h2 (fun t ht hW => ⟨⟨_, V, rfl, hp, by rw [ht]; exact hP⟩, hS.F ht⟩) hS.2.2 d X.2.2.2.2.2.2
theorem g_aret {rm : Room} {post : Option Value → gMem → Prop} {t0 : String} (X : gX Z B cc own) (F : gF Z B rm (some (.object t0)) post) {v : Value} (hv : v = .null ∨ ∃ a, v = .ref a) (hp : post (some v) V) (hn : n = (rm.cells, rm.slots)) (d : decode cc pc = .ok (.areturn, 1)) : gG Z B n V pc L [v] := by
  obtain ⟨p, l, e, R, s, m, args, below, meth, c, nL, Q⟩ := Z
  obtain ⟨h1, h2, h3⟩ := F
  subst h3; subst hn
  intro H locs ls hP hS hl
  exact W.aret X.1 X.2.1 h2 (Or.inl ⟨_, rfl⟩) hv (fun t ht hW => ⟨⟨_, V, rfl, hp, by rw [ht]; exact hP⟩, hS.F ht⟩) hS.2.2 d X.2.2.2.2.2.2
/-! calls -/
/-- what a callee's tables say: an instance method, selected in its own class -/
def gCV (y : MethodName) (bc : ByteArray) (mL : Nat) (ret : Option FieldType) (k : Nat) : Prop := gW (.instanceMethod y) ∧ gW (.selects y.cls y y) ∧ gW (.code y bc mL ret) ∧ gW (.initialized y.cls) ∧ (y.cls ≠ "java/lang/invoke/MethodHandle" ∧ y.cls ≠ "java/lang/invoke/VarHandle") ∧ (parseMethodDescriptor y.desc).map (fun d => d.parameters.length) = some k
def gCS (y : MethodName) (bc : ByteArray) (mL : Nat) (ret : Option FieldType) (k : Nat) : Prop := gW (.static y) ∧ gW (.code y bc mL ret) ∧ gW (.initialized y.cls) ∧ (y.cls ≠ "java/lang/invoke/MethodHandle" ∧ y.cls ≠ "java/lang/invoke/VarHandle") ∧ (parseMethodDescriptor y.desc).map (fun d => d.parameters.length) = some k
def gML (own : String) (idx : Nat) (y : MethodName) : Prop := gW (.methodLink own idx y) ∨ ∃ h, gW (.methodLinkNest own idx y h)
theorem gPc_blind {B : gB} {V : gMem} {av : List Value} {sz : Nat} : FrameBlind (va_Pc av (fun U => U.heap.size = sz ∧ va_P B.1 vwCl (gws B V) U.heap ∧ gS B U)) := by
  intro a U g mk q
  obtain ⟨q0, q1, q2, q3⟩ := q
  exact ⟨q0, q1, q2, gS.same (s := U) (U := U.calling g mk a) rfl q3⟩
theorem gar {y : MethodName} {k : Nat} (h : (parseMethodDescriptor y.desc).map (fun d => d.parameters.length) = some k) : ∀ sig, parseMethodDescriptor y.desc = some sig → k = sig.parameters.length := by
  intro sig h2
  rw [h2] at h
  exact (Option.some.inj h).symm
theorem g_after {p : Program} {l : Launch} {e : Env} {R : Room} {s : State} {m : MethodId} {args : Array Value} {below : List Frame} {meth : Method} {c : Code} {nL : Nat} {Q : State → Prop} {rm : Room} {post : Option Value → gMem → Prop} {rest st0 : List Value} {a : Array Value} {H : Heap} {locs : List Loc} {ls : Array Slot} (hr : va_Run p l e R s m args below meth c H locs n.1 n.2 rm.cells rm.slots (F0 m pc ls st0) rest (gQ B post H.size a) (gA B H.size)) (hS : va_S (gA B s.heap.size) s.heap H locs) (hl : lv_has ls nL L)
    (kk : ∀ (v : Option Value) (V' : gMem), post v V' → gG (p, l, e, R, s, m, args, below, meth, c, nL, Q) B (n.1 + rm.cells, n.2 + rm.slots) V' (pc + 3) L (v.toList ++ rest)) : W p l e R s m args below meth c H locs n.1 n.2 Q (F0 m pc ls st0) := by
  have hA : ∀ q, gA B H.size q → gA B s.heap.size q := fun q h => h.elim (fun h => Or.inl h) (fun h => Or.inr (Nat.le_trans hS.1 h))
  intro T hT X
  obtain ⟨v, st₀, t, T', L0, h0, X', hL, e1, e2, ⟨⟨v2, V', hv, hp, hP'⟩, hz, hk⟩, st⟩ := hr T hT X
  cases hv
  rw [h0] at hz hk
  have hS' : va_S (gA B s.heap.size) s.heap T'.heap (locs ++ L0) := ⟨Nat.le_trans hS.1 (by rw [e1]; exact hz), fun q h1 h2 => by rw [e1, hk q (Nat.lt_of_lt_of_le h1 hS.1) (fun z => h2 (hA q z))]; exact hS.2.1 q h1 h2, fun q hq => by
      rcases List.mem_append.mp hq with h | h
      · exact hS.2.2 q h
      · exact hA _ (hL q h)⟩
  obtain ⟨t2, a1, b1⟩ := kk v V' hp T'.heap (locs ++ L0) ls (by rw [e1]; exact hP') hS' hl T' rfl X'
  exact ⟨t2, st t2 a1, b1⟩
theorem g_callV (X : gX Z B cc own) {rmZ rm : Room} (hR : gRm Z = rmZ) {y : MethodName} {bc : ByteArray} {mL idx : Nat} {ret : Option FieldType} {K b i ci : Nat} {fs : List Value} {q : vw_C} {As rest st0 : List Value} {post : Option Value → gMem → Prop} {k : Nat} (hC : gCV y bc mL ret k) (hL : gML own idx y) (hM : gM (gl Z) B y bc mL ret rm (.ref (B.2.1 K b i) :: As) V post) (hk : As.length = k) (hst : st0 = As.reverse ++ .ref (B.2.1 K b i) :: rest) (hcat : (rest.map fun v => v.category).sum ≤ 8) (hp : gP K b i) (he : gE B K b i (V K b i) = .inr (ci, fs)) (hc : vwCl[ci]? = some q) (hq : q.1 = y.cls)
    (hroom : rm.frames + 1 ≤ rmZ.frames ∧ 8 + (mL + 11) + rm.locals ≤ rmZ.locals ∧ n.1 + rm.cells ≤ rmZ.cells ∧ n.2 + rm.slots ≤ rmZ.slots) (d : decode cc pc = .ok (.invokevirtual idx, 3))
    (kk : ∀ (v : Option Value) (V' : gMem), post v V' → gG Z B (n.1 + rm.cells, n.2 + rm.slots) V' (pc + 3) L (v.toList ++ rest)) : gG Z B n V pc L st0 := by
  obtain ⟨p, l, e, R, s, m, args, below, meth, c, nL, Q⟩ := Z
  subst hR; subst hst
  intro H locs ls hP hS hl
  obtain ⟨hx, hb, hml, hown, hs, hI, hlk⟩ := X
  obtain ⟨c1, c2, c3, c4, c5, c6⟩ := hC
  obtain ⟨q0, -, hq0⟩ := gws_at B V hp
  rw [he] at hq0
  have hws : ∀ w ∈ ([.code y bc mL ret] : List Cond), ∀ (a' : Array Value) (U : State), s.WarmedH U.vm → w.before a' U = true := by
    intro w hw a' U hW
    rw [List.mem_singleton.mp hw]
    exact hs.1.warm hW _ c3 a'
  have hrecv := va_recv hs.2 hP hc hq0
  rw [hq] at hrecv
  have hpre : PreV s H y.cls (B.2.1 K b i) (va_Pc (.ref (B.2.1 K b i) :: As) (fun U => U.heap.size = H.size ∧ va_P B.1 vwCl (gws B V) U.heap ∧ gS B U)) As := ⟨gPc_blind, hrecv, fun U hU hW => ⟨rfl, by rw [hU], by rw [hU]; exact hP, hs.warm hW⟩⟩
  have run : va_Run p l e R s m args below meth c H locs n.1 n.2 rm.cells rm.slots (F0 m pc ls (As.reverse ++ .ref (B.2.1 K b i) :: rest)) rest (gQ B post H.size (Value.ref (B.2.1 K b i) :: As).toArray) (gA B H.size) := by
    rcases hL with hL | ⟨h, hL⟩
    · exact va_runV (C := y.cls) (own := own) (Ts := []) (nL := nL) ⟨hx, hb, hml, hown, fun w hw => absurd hw List.not_mem_nil⟩ (hM H.size) ⟨⟨rfl, rfl, hroom.1, hroom.2.1, hws, List.mem_singleton.mpr rfl, hs.1 _ c3 _, hs.1 _ c4 _, c5, gar c6, hs.1 _ hL _⟩, hs.1 _ c1 _, hs.1 _ c2 _⟩ hpre rfl hk hl.1 rfl (lv_room hcat) d hroom.2.2
    · exact va_runVN (C := y.cls) (own := own) (Ts := []) (nL := nL) ⟨hx, hb, hml, hown, fun w hw => absurd hw List.not_mem_nil⟩ (hM H.size) ⟨⟨⟨rfl, rfl, hroom.1, hroom.2.1, hws, List.mem_singleton.mpr rfl⟩, hs.1 _ c3 _, hs.1 _ c4 _, c5, gar c6, hs.1 _ hL _⟩, hs.1 _ c1 _, hs.1 _ c2 _⟩ hpre rfl hk hl.1 rfl (lv_room hcat) d hroom.2.2
  exact g_after run hS hl kk
theorem g_callS (X : gX Z B cc own) {rmZ rm : Room} (hR : gRm Z = rmZ) {y : MethodName} {bc : ByteArray} {mL idx : Nat} {ret : Option FieldType} {As rest st0 : List Value} {post : Option Value → gMem → Prop} {k : Nat} (hC : gCS y bc mL ret k) (hL : gML own idx y) (hM : gM (gl Z) B y bc mL ret rm As V post) (hk : As.length = k) (hst : st0 = As.reverse ++ rest) (hcat : (rest.map fun v => v.category).sum ≤ 8)
    (hroom : rm.frames + 1 ≤ rmZ.frames ∧ 8 + (mL + 11) + rm.locals ≤ rmZ.locals ∧ n.1 + rm.cells ≤ rmZ.cells ∧ n.2 + rm.slots ≤ rmZ.slots) (d : decode cc pc = .ok (.invokestatic idx, 3))
    (kk : ∀ (v : Option Value) (V' : gMem), post v V' → gG Z B (n.1 + rm.cells, n.2 + rm.slots) V' (pc + 3) L (v.toList ++ rest)) : gG Z B n V pc L st0 := by
  obtain ⟨p, l, e, R, s, m, args, below, meth, c, nL, Q⟩ := Z
  subst hR; subst hst
  intro H locs ls hP hS hl
  obtain ⟨hx, hb, hml, hown, hs, hI, hlk⟩ := X
  obtain ⟨c1, c3, c4, c5, c6⟩ := hC
  have hws : ∀ w ∈ ([.code y bc mL ret] : List Cond), ∀ (a' : Array Value) (U : State), s.WarmedH U.vm → w.before a' U = true := by
    intro w hw a' U hW
    rw [List.mem_singleton.mp hw]
    exact hs.1.warm hW _ c3 a'
  have hpre : PreS s H (va_Pc As (fun U => U.heap.size = H.size ∧ va_P B.1 vwCl (gws B V) U.heap ∧ gS B U)) As := ⟨gPc_blind, fun U hU hW => ⟨rfl, by rw [hU], by rw [hU]; exact hP, hs.warm hW⟩⟩
  have run : va_Run p l e R s m args below meth c H locs n.1 n.2 rm.cells rm.slots (F0 m pc ls (As.reverse ++ rest)) rest (gQ B post H.size As.toArray) (gA B H.size) := by
    rcases hL with hL | ⟨h, hL⟩
    · exact va_runS (own := own) (Ts := []) (nL := nL) ⟨hx, hb, hml, hown, fun w hw => absurd hw List.not_mem_nil⟩ (hM H.size) ⟨⟨rfl, rfl, hroom.1, hroom.2.1, hws, List.mem_singleton.mpr rfl, hs.1 _ c3 _, hs.1 _ c4 _, c5, gar c6, hs.1 _ hL _⟩, hs.1 _ c1 _⟩ hpre rfl hk hl.1 rfl (lv_room hcat) d hroom.2.2
    · exact va_runSN (own := own) (Ts := []) (nL := nL) ⟨hx, hb, hml, hown, fun w hw => absurd hw List.not_mem_nil⟩ (hM H.size) ⟨⟨⟨rfl, rfl, hroom.1, hroom.2.1, hws, List.mem_singleton.mpr rfl⟩, hs.1 _ c3 _, hs.1 _ c4 _, c5, gar c6, hs.1 _ hL _⟩, hs.1 _ c1 _, trivial⟩ hpre rfl hk hl.1 rfl (lv_room hcat) d hroom.2.2
  exact g_after run hS hl kk
theorem g_min (X : gX Z B cc own) {rmZ : Room} (hR : gRm Z = rmZ) {idx : Nat} {x y : Int32} (hl : gW (.methodLink own idx Lib.Math.min.name)) (hroom : 1 ≤ rmZ.frames ∧ 21 ≤ rmZ.locals ∧ n.1 ≤ rmZ.cells ∧ n.2 ≤ rmZ.slots) (hcat : (st.map fun v => v.category).sum ≤ 8) (d : decode cc pc = .ok (.invokestatic idx, 3)) (kk : gG Z B n V (pc + 3) L (.int (if y < x then y else x) :: st)) : gG Z B n V pc L (.int y :: .int x :: st) := by
  obtain ⟨p, l, e, R, s, m, args, below, meth, c, nL, Q⟩ := Z
  subst hR
  intro H locs ls hP hS hl9
  have hml : c.maxLocals = ls.size := X.2.2.1.trans hl9.1.symm
  exact va_mmin X.1 X.2.1 hml X.2.2.2.1 (X.2.2.2.2.1.1 _ hl _) (X.2.2.2.2.1.1 _ qTm_min _) (X.2.2.2.2.1.1 _ qNm_math _) (X.2.2.2.2.1.1 _ qCm_min _) hroom.1 (by have := hroom.2.1; show _ + 13 ≤ R.locals; have h9 : 21 ≤ R.locals := this; omega) hroom.2.2.1 hroom.2.2.2 d (kk H locs ls hP hS hl9)
theorem g_max (X : gX Z B cc own) {rmZ : Room} (hR : gRm Z = rmZ) {idx : Nat} {x y : Int32} (hl : gW (.methodLink own idx Lib.Math.max.name)) (hroom : 1 ≤ rmZ.frames ∧ 21 ≤ rmZ.locals ∧ n.1 ≤ rmZ.cells ∧ n.2 ≤ rmZ.slots) (hcat : (st.map fun v => v.category).sum ≤ 8) (d : decode cc pc = .ok (.invokestatic idx, 3)) (kk : gG Z B n V (pc + 3) L (.int (if x < y then y else x) :: st)) : gG Z B n V pc L (.int y :: .int x :: st) := by
  obtain ⟨p, l, e, R, s, m, args, below, meth, c, nL, Q⟩ := Z
  subst hR
  intro H locs ls hP hS hl9
  have hml : c.maxLocals = ls.size := X.2.2.1.trans hl9.1.symm
  exact va_mmax X.1 X.2.1 hml X.2.2.2.1 (X.2.2.2.2.1.1 _ hl _) (X.2.2.2.2.1.1 _ qTm_max _) (X.2.2.2.2.1.1 _ qNm_math _) (X.2.2.2.2.1.1 _ qCm_max _) hroom.1 (by have := hroom.2.1; show _ + 13 ≤ R.locals; have h9 : 21 ≤ R.locals := this; omega) hroom.2.2.1 hroom.2.2.2 d (kk H locs ls hP hS hl9)
end GR
end
section
section GFLD
variable {Z : gZ} {B : gB} {n : Nat × Nat} {V : gMem} {pc : Nat} {L : List (Nat × Value)} {st : List Value} {cc : ByteArray} {own : String} {b i idx : Nat}
theorem gg_X6_code (X : gX Z B cc own) (hp : gP 0 0 0) (hq : gFL own idx RX6 "code" "LFogBridge$Code;") (d : decode cc pc = .ok (.getfield idx, 3)) (kk : gG Z B n V (pc + 3) L (.ref (B.2.1 1 0 0) :: st)) : gG Z B n V pc L (.ref (B.2.1 0 0 0) :: st) := g_get X (ci := 5) (N := 5) (C := RX6) (T := TX6) rfl gU_X6 0 (by decide) rfl hp rfl rfl hq d kk
theorem gg_X6_fog (X : gX Z B cc own) (hp : gP 0 0 0) (hq : gFL own idx RX6 "fog" "[I") (d : decode cc pc = .ok (.getfield idx, 3)) (kk : gG Z B n V (pc + 3) L (.ref (B.2.1 4 0 0) :: st)) : gG Z B n V pc L (.ref (B.2.1 0 0 0) :: st) := g_get X (ci := 5) (N := 5) (C := RX6) (T := TX6) rfl gU_X6 1 (by decide) rfl hp rfl rfl hq d kk
theorem gg_X6_bridge (X : gX Z B cc own) (hp : gP 0 0 0) (hq : gFL own idx RX6 "bridge" "LFogBridge$Bridge;") (d : decode cc pc = .ok (.getfield idx, 3)) (kk : gG Z B n V (pc + 3) L (.ref (B.2.1 10 0 0) :: st)) : gG Z B n V pc L (.ref (B.2.1 0 0 0) :: st) := g_get X (ci := 5) (N := 5) (C := RX6) (T := TX6) rfl gU_X6 2 (by decide) rfl hp rfl rfl hq d kk
theorem gg_X6_ahead (X : gX Z B cc own) (hp : gP 0 0 0) (hq : gFL own idx RX6 "ahead" "LFogBridge$Bridge;") (d : decode cc pc = .ok (.getfield idx, 3)) (kk : gG Z B n V (pc + 3) L (.ref (B.2.1 10 1 0) :: st)) : gG Z B n V pc L (.ref (B.2.1 0 0 0) :: st) := g_get X (ci := 5) (N := 5) (C := RX6) (T := TX6) rfl gU_X6 3 (by decide) rfl hp rfl rfl hq d kk
theorem gg_X6_branch (X : gX Z B cc own) (hp : gP 0 0 0) (hq : gFL own idx RX6 "branch" "LFogBridge$Bridge;") (d : decode cc pc = .ok (.getfield idx, 3)) (kk : gG Z B n V (pc + 3) L (.ref (B.2.1 10 2 0) :: st)) : gG Z B n V pc L (.ref (B.2.1 0 0 0) :: st) := g_get X (ci := 5) (N := 5) (C := RX6) (T := TX6) rfl gU_X6 4 (by decide) rfl hp rfl rfl hq d kk
theorem gg_X2_signals (X : gX Z B cc own) (hp : gP 1 0 0) (hq : gFL own idx RX2 "signals" "[I") (d : decode cc pc = .ok (.getfield idx, 3)) (kk : gG Z B n V (pc + 3) L (.ref (B.2.1 2 0 0) :: st)) : gG Z B n V pc L (.ref (B.2.1 1 0 0) :: st) := g_get X (ci := 2) (N := 3) (C := RX2) (T := TX2) rfl gU_X2 0 (by decide) rfl hp rfl rfl hq d kk
theorem gg_X2_rowsOfLength (X : gX Z B cc own) (hp : gP 1 0 0) (hq : gFL own idx RX2 "rowsOfLength" "[I") (d : decode cc pc = .ok (.getfield idx, 3)) (kk : gG Z B n V (pc + 3) L (.ref (B.2.1 3 0 0) :: st)) : gG Z B n V pc L (.ref (B.2.1 1 0 0) :: st) := g_get X (ci := 2) (N := 3) (C := RX2) (T := TX2) rfl gU_X2 1 (by decide) rfl hp rfl rfl hq d kk
theorem gg_X2_size (X : gX Z B cc own) (hp : gP 1 0 0) (hq : gFL own idx RX2 "size" "I") (d : decode cc pc = .ok (.getfield idx, 3)) (kk : gG Z B n V (pc + 3) L (.int (V 1 0 0 2) :: st)) : gG Z B n V pc L (.ref (B.2.1 1 0 0) :: st) := g_get X (ci := 2) (N := 3) (C := RX2) (T := TX2) rfl gU_X2 2 (by decide) rfl hp rfl rfl hq d kk
theorem gp_X2_size (X : gX Z B cc own) {x : Int32} (hp : gP 1 0 0) (hq : gFL own idx RX2 "size" "I") (d : decode cc pc = .ok (.putfield idx, 3)) (kk : gG Z B n (gup V 1 0 0 2 x) (pc + 3) L st) : gG Z B n V pc L (.int x :: .ref (B.2.1 1 0 0) :: st) := g_put X (ci := 2) (N := 3) (C := RX2) (T := TX2) (ty := .int) rfl gU_X2 tyX2 tyX2_ok nmX2 2 (by decide) rfl rfl (by decide +kernel) rfl rfl hp rfl (by simp) rfl hq d kk
theorem gg_X0_tick (X : gX Z B cc own) (hp : gP 10 b 0) (hq : gFL own idx RX0 "tick" "I") (d : decode cc pc = .ok (.getfield idx, 3)) (kk : gG Z B n V (pc + 3) L (.int (V 10 b 0 0) :: st)) : gG Z B n V pc L (.ref (B.2.1 10 b 0) :: st) := g_get X (ci := 0) (N := 11) (C := RX0) (T := TX0) rfl gU_X0 0 (by decide) rfl hp rfl rfl hq d kk
theorem gp_X0_tick (X : gX Z B cc own) {x : Int32} (hp : gP 10 b 0) (hq : gFL own idx RX0 "tick" "I") (d : decode cc pc = .ok (.putfield idx, 3)) (kk : gG Z B n (gup V 10 b 0 0 x) (pc + 3) L st) : gG Z B n V pc L (.int x :: .ref (B.2.1 10 b 0) :: st) := g_put X (ci := 0) (N := 11) (C := RX0) (T := TX0) (ty := .int) rfl gU_X0 tyX0 tyX0_ok nmX0 0 (by decide) rfl rfl (by decide +kernel) rfl rfl hp rfl (by simp) rfl hq d kk
theorem gg_X0_direction (X : gX Z B cc own) (hp : gP 10 b 0) (hq : gFL own idx RX0 "direction" "I") (d : decode cc pc = .ok (.getfield idx, 3)) (kk : gG Z B n V (pc + 3) L (.int (V 10 b 0 1) :: st)) : gG Z B n V pc L (.ref (B.2.1 10 b 0) :: st) := g_get X (ci := 0) (N := 11) (C := RX0) (T := TX0) rfl gU_X0 1 (by decide) rfl hp rfl rfl hq d kk
theorem gp_X0_direction (X : gX Z B cc own) {x : Int32} (hp : gP 10 b 0) (hq : gFL own idx RX0 "direction" "I") (d : decode cc pc = .ok (.putfield idx, 3)) (kk : gG Z B n (gup V 10 b 0 1 x) (pc + 3) L st) : gG Z B n V pc L (.int x :: .ref (B.2.1 10 b 0) :: st) := g_put X (ci := 0) (N := 11) (C := RX0) (T := TX0) (ty := .int) rfl gU_X0 tyX0 tyX0_ok nmX0 1 (by decide) rfl rfl (by decide +kernel) rfl rfl hp rfl (by simp) rfl hq d kk
theorem gg_X0_places (X : gX Z B cc own) (hp : gP 10 b 0) (hq : gFL own idx RX0 "places" "I") (d : decode cc pc = .ok (.getfield idx, 3)) (kk : gG Z B n V (pc + 3) L (.int (V 10 b 0 2) :: st)) : gG Z B n V pc L (.ref (B.2.1 10 b 0) :: st) := g_get X (ci := 0) (N := 11) (C := RX0) (T := TX0) rfl gU_X0 2 (by decide) rfl hp rfl rfl hq d kk
theorem gp_X0_places (X : gX Z B cc own) {x : Int32} (hp : gP 10 b 0) (hq : gFL own idx RX0 "places" "I") (d : decode cc pc = .ok (.putfield idx, 3)) (kk : gG Z B n (gup V 10 b 0 2 x) (pc + 3) L st) : gG Z B n V pc L (.int x :: .ref (B.2.1 10 b 0) :: st) := g_put X (ci := 0) (N := 11) (C := RX0) (T := TX0) (ty := .int) rfl gU_X0 tyX0 tyX0_ok nmX0 2 (by decide) rfl rfl (by decide +kernel) rfl rfl hp rfl (by simp) rfl hq d kk
theorem gg_X0_bears (X : gX Z B cc own) (hp : gP 10 b 0) (hq : gFL own idx RX0 "bears" "I") (d : decode cc pc = .ok (.getfield idx, 3)) (kk : gG Z B n V (pc + 3) L (.int (V 10 b 0 3) :: st)) : gG Z B n V pc L (.ref (B.2.1 10 b 0) :: st) := g_get X (ci := 0) (N := 11) (C := RX0) (T := TX0) rfl gU_X0 3 (by decide) rfl hp rfl rfl hq d kk
theorem gp_X0_bears (X : gX Z B cc own) {x : Int32} (hp : gP 10 b 0) (hq : gFL own idx RX0 "bears" "I") (d : decode cc pc = .ok (.putfield idx, 3)) (kk : gG Z B n (gup V 10 b 0 3 x) (pc + 3) L st) : gG Z B n V pc L (.int x :: .ref (B.2.1 10 b 0) :: st) := g_put X (ci := 0) (N := 11) (C := RX0) (T := TX0) (ty := .int) rfl gU_X0 tyX0 tyX0_ok nmX0 3 (by decide) rfl rfl (by decide +kernel) rfl rfl hp rfl (by simp) rfl hq d kk
theorem gg_X0_axleToll (X : gX Z B cc own) (hp : gP 10 b 0) (hq : gFL own idx RX0 "axleToll" "I") (d : decode cc pc = .ok (.getfield idx, 3)) (kk : gG Z B n V (pc + 3) L (.int (V 10 b 0 4) :: st)) : gG Z B n V pc L (.ref (B.2.1 10 b 0) :: st) := g_get X (ci := 0) (N := 11) (C := RX0) (T := TX0) rfl gU_X0 4 (by decide) rfl hp rfl rfl hq d kk
theorem gp_X0_axleToll (X : gX Z B cc own) {x : Int32} (hp : gP 10 b 0) (hq : gFL own idx RX0 "axleToll" "I") (d : decode cc pc = .ok (.putfield idx, 3)) (kk : gG Z B n (gup V 10 b 0 4 x) (pc + 3) L st) : gG Z B n V pc L (.int x :: .ref (B.2.1 10 b 0) :: st) := g_put X (ci := 0) (N := 11) (C := RX0) (T := TX0) (ty := .int) rfl gU_X0 tyX0 tyX0_ok nmX0 4 (by decide) rfl rfl (by decide +kernel) rfl rfl hp rfl (by simp) rfl hq d kk
theorem gg_X0_tenToll (X : gX Z B cc own) (hp : gP 10 b 0) (hq : gFL own idx RX0 "tenToll" "I") (d : decode cc pc = .ok (.getfield idx, 3)) (kk : gG Z B n V (pc + 3) L (.int (V 10 b 0 5) :: st)) : gG Z B n V pc L (.ref (B.2.1 10 b 0) :: st) := g_get X (ci := 0) (N := 11) (C := RX0) (T := TX0) rfl gU_X0 5 (by decide) rfl hp rfl rfl hq d kk
theorem gp_X0_tenToll (X : gX Z B cc own) {x : Int32} (hp : gP 10 b 0) (hq : gFL own idx RX0 "tenToll" "I") (d : decode cc pc = .ok (.putfield idx, 3)) (kk : gG Z B n (gup V 10 b 0 5 x) (pc + 3) L st) : gG Z B n V pc L (.int x :: .ref (B.2.1 10 b 0) :: st) := g_put X (ci := 0) (N := 11) (C := RX0) (T := TX0) (ty := .int) rfl gU_X0 tyX0 tyX0_ok nmX0 5 (by decide) rfl rfl (by decide +kernel) rfl rfl hp rfl (by simp) rfl hq d kk
theorem gg_X0_cartCount (X : gX Z B cc own) (hp : gP 10 b 0) (hq : gFL own idx RX0 "cartCount" "I") (d : decode cc pc = .ok (.getfield idx, 3)) (kk : gG Z B n V (pc + 3) L (.int (V 10 b 0 6) :: st)) : gG Z B n V pc L (.ref (B.2.1 10 b 0) :: st) := g_get X (ci := 0) (N := 11) (C := RX0) (T := TX0) rfl gU_X0 6 (by decide) rfl hp rfl rfl hq d kk
theorem gp_X0_cartCount (X : gX Z B cc own) {x : Int32} (hp : gP 10 b 0) (hq : gFL own idx RX0 "cartCount" "I") (d : decode cc pc = .ok (.putfield idx, 3)) (kk : gG Z B n (gup V 10 b 0 6 x) (pc + 3) L st) : gG Z B n V pc L (.int x :: .ref (B.2.1 10 b 0) :: st) := g_put X (ci := 0) (N := 11) (C := RX0) (T := TX0) (ty := .int) rfl gU_X0 tyX0 tyX0_ok nmX0 6 (by decide) rfl rfl (by decide +kernel) rfl rfl hp rfl (by simp) rfl hq d kk
theorem gg_X0_carts (X : gX Z B cc own) (hp : gP 10 b 0) (hq : gFL own idx RX0 "carts" "[LFogBridge$Cart;") (d : decode cc pc = .ok (.getfield idx, 3)) (kk : gG Z B n V (pc + 3) L (.ref (B.2.1 11 b 0) :: st)) : gG Z B n V pc L (.ref (B.2.1 10 b 0) :: st) := g_get X (ci := 0) (N := 11) (C := RX0) (T := TX0) rfl gU_X0 7 (by decide) rfl hp rfl rfl hq d kk
theorem gg_X0_firstGate (X : gX Z B cc own) (hp : gP 10 b 0) (hq : gFL own idx RX0 "firstGate" "LFogBridge$Gate;") (d : decode cc pc = .ok (.getfield idx, 3)) (kk : gG Z B n V (pc + 3) L (.ref (B.2.1 12 b 0) :: st)) : gG Z B n V pc L (.ref (B.2.1 10 b 0) :: st) := g_get X (ci := 0) (N := 11) (C := RX0) (T := TX0) rfl gU_X0 8 (by decide) rfl hp rfl rfl hq d kk
theorem gg_X0_secondGate (X : gX Z B cc own) (hp : gP 10 b 0) (hq : gFL own idx RX0 "secondGate" "LFogBridge$Gate;") (d : decode cc pc = .ok (.getfield idx, 3)) (kk : gG Z B n V (pc + 3) L (.ref (B.2.1 12 b 1) :: st)) : gG Z B n V pc L (.ref (B.2.1 10 b 0) :: st) := g_get X (ci := 0) (N := 11) (C := RX0) (T := TX0) rfl gU_X0 9 (by decide) rfl hp rfl rfl hq d kk
theorem gg_X0_crossing (X : gX Z B cc own) (hp : gP 10 b 0) (hq : gFL own idx RX0 "crossing" "LFogBridge$Row;") (d : decode cc pc = .ok (.getfield idx, 3)) (kk : gG Z B n V (pc + 3) L (.ref (B.2.1 13 b 2) :: st)) : gG Z B n V pc L (.ref (B.2.1 10 b 0) :: st) := g_get X (ci := 0) (N := 11) (C := RX0) (T := TX0) rfl gU_X0 10 (by decide) rfl hp rfl rfl hq d kk
theorem gg_X3_waiting (X : gX Z B cc own) (hp : gP 12 b i) (hq : gFL own idx RX3 "waiting" "LFogBridge$Row;") (d : decode cc pc = .ok (.getfield idx, 3)) (kk : gG Z B n V (pc + 3) L (.ref (B.2.1 13 b i) :: st)) : gG Z B n V pc L (.ref (B.2.1 12 b i) :: st) := g_get X (ci := 3) (N := 5) (C := RX3) (T := TX3) rfl gU_X3 0 (by decide) rfl hp rfl rfl hq d kk
theorem gg_X3_coins (X : gX Z B cc own) (hp : gP 12 b i) (hq : gFL own idx RX3 "coins" "I") (d : decode cc pc = .ok (.getfield idx, 3)) (kk : gG Z B n V (pc + 3) L (.int (V 12 b i 1) :: st)) : gG Z B n V pc L (.ref (B.2.1 12 b i) :: st) := g_get X (ci := 3) (N := 5) (C := RX3) (T := TX3) rfl gU_X3 1 (by decide) rfl hp rfl rfl hq d kk
theorem gp_X3_coins (X : gX Z B cc own) {x : Int32} (hp : gP 12 b i) (hq : gFL own idx RX3 "coins" "I") (d : decode cc pc = .ok (.putfield idx, 3)) (kk : gG Z B n (gup V 12 b i 1 x) (pc + 3) L st) : gG Z B n V pc L (.int x :: .ref (B.2.1 12 b i) :: st) := g_put X (ci := 3) (N := 5) (C := RX3) (T := TX3) (ty := .int) rfl gU_X3 tyX3 tyX3_ok nmX3 1 (by decide) rfl rfl (by decide +kernel) rfl rfl hp rfl (by simp) rfl hq d kk
theorem gg_X3_payers (X : gX Z B cc own) (hp : gP 12 b i) (hq : gFL own idx RX3 "payers" "I") (d : decode cc pc = .ok (.getfield idx, 3)) (kk : gG Z B n V (pc + 3) L (.int (V 12 b i 2) :: st)) : gG Z B n V pc L (.ref (B.2.1 12 b i) :: st) := g_get X (ci := 3) (N := 5) (C := RX3) (T := TX3) rfl gU_X3 2 (by decide) rfl hp rfl rfl hq d kk
theorem gp_X3_payers (X : gX Z B cc own) {x : Int32} (hp : gP 12 b i) (hq : gFL own idx RX3 "payers" "I") (d : decode cc pc = .ok (.putfield idx, 3)) (kk : gG Z B n (gup V 12 b i 2 x) (pc + 3) L st) : gG Z B n V pc L (.int x :: .ref (B.2.1 12 b i) :: st) := g_put X (ci := 3) (N := 5) (C := RX3) (T := TX3) (ty := .int) rfl gU_X3 tyX3 tyX3_ok nmX3 2 (by decide) rfl rfl (by decide +kernel) rfl rfl hp rfl (by simp) rfl hq d kk
theorem gg_X3_axles (X : gX Z B cc own) (hp : gP 12 b i) (hq : gFL own idx RX3 "axles" "I") (d : decode cc pc = .ok (.getfield idx, 3)) (kk : gG Z B n V (pc + 3) L (.int (V 12 b i 3) :: st)) : gG Z B n V pc L (.ref (B.2.1 12 b i) :: st) := g_get X (ci := 3) (N := 5) (C := RX3) (T := TX3) rfl gU_X3 3 (by decide) rfl hp rfl rfl hq d kk
theorem gp_X3_axles (X : gX Z B cc own) {x : Int32} (hp : gP 12 b i) (hq : gFL own idx RX3 "axles" "I") (d : decode cc pc = .ok (.putfield idx, 3)) (kk : gG Z B n (gup V 12 b i 3 x) (pc + 3) L st) : gG Z B n V pc L (.int x :: .ref (B.2.1 12 b i) :: st) := g_put X (ci := 3) (N := 5) (C := RX3) (T := TX3) (ty := .int) rfl gU_X3 tyX3 tyX3_ok nmX3 3 (by decide) rfl rfl (by decide +kernel) rfl rfl hp rfl (by simp) rfl hq d kk
theorem gg_X3_keptByCheats (X : gX Z B cc own) (hp : gP 12 b i) (hq : gFL own idx RX3 "keptByCheats" "I") (d : decode cc pc = .ok (.getfield idx, 3)) (kk : gG Z B n V (pc + 3) L (.int (V 12 b i 4) :: st)) : gG Z B n V pc L (.ref (B.2.1 12 b i) :: st) := g_get X (ci := 3) (N := 5) (C := RX3) (T := TX3) rfl gU_X3 4 (by decide) rfl hp rfl rfl hq d kk
theorem gp_X3_keptByCheats (X : gX Z B cc own) {x : Int32} (hp : gP 12 b i) (hq : gFL own idx RX3 "keptByCheats" "I") (d : decode cc pc = .ok (.putfield idx, 3)) (kk : gG Z B n (gup V 12 b i 4 x) (pc + 3) L st) : gG Z B n V pc L (.int x :: .ref (B.2.1 12 b i) :: st) := g_put X (ci := 3) (N := 5) (C := RX3) (T := TX3) (ty := .int) rfl gU_X3 tyX3 tyX3_ok nmX3 4 (by decide) rfl rfl (by decide +kernel) rfl rfl hp rfl (by simp) rfl hq d kk
theorem gg_X5_carts (X : gX Z B cc own) (hp : gP 13 b i) (hq : gFL own idx RX5 "carts" "[I") (d : decode cc pc = .ok (.getfield idx, 3)) (kk : gG Z B n V (pc + 3) L (.ref (B.2.1 14 b i) :: st)) : gG Z B n V pc L (.ref (B.2.1 13 b i) :: st) := g_get X (ci := 4) (N := 2) (C := RX5) (T := TX5) rfl gU_X5 0 (by decide) rfl hp rfl rfl hq d kk
theorem gg_X5_size (X : gX Z B cc own) (hp : gP 13 b i) (hq : gFL own idx RX5 "size" "I") (d : decode cc pc = .ok (.getfield idx, 3)) (kk : gG Z B n V (pc + 3) L (.int (V 13 b i 1) :: st)) : gG Z B n V pc L (.ref (B.2.1 13 b i) :: st) := g_get X (ci := 4) (N := 2) (C := RX5) (T := TX5) rfl gU_X5 1 (by decide) rfl hp rfl rfl hq d kk
theorem gp_X5_size (X : gX Z B cc own) {x : Int32} (hp : gP 13 b i) (hq : gFL own idx RX5 "size" "I") (d : decode cc pc = .ok (.putfield idx, 3)) (kk : gG Z B n (gup V 13 b i 1 x) (pc + 3) L st) : gG Z B n V pc L (.int x :: .ref (B.2.1 13 b i) :: st) := g_put X (ci := 4) (N := 2) (C := RX5) (T := TX5) (ty := .int) rfl gU_X5 tyX5 tyX5_ok nmX5 1 (by decide) rfl rfl (by decide +kernel) rfl rfl hp rfl (by simp) rfl hq d kk
theorem gg_X1_number (X : gX Z B cc own) (hp : gP 15 b i) (hq : gFL own idx RX1 "number" "I") (d : decode cc pc = .ok (.getfield idx, 3)) (kk : gG Z B n V (pc + 3) L (.int (V 15 b i 0) :: st)) : gG Z B n V pc L (.ref (B.2.1 15 b i) :: st) := g_get X (ci := 1) (N := 11) (C := RX1) (T := TX1) rfl gU_X1 0 (by decide) rfl hp rfl rfl hq d kk
theorem gg_X1_end (X : gX Z B cc own) (hp : gP 15 b i) (hq : gFL own idx RX1 "end" "I") (d : decode cc pc = .ok (.getfield idx, 3)) (kk : gG Z B n V (pc + 3) L (.int (V 15 b i 1) :: st)) : gG Z B n V pc L (.ref (B.2.1 15 b i) :: st) := g_get X (ci := 1) (N := 11) (C := RX1) (T := TX1) rfl gU_X1 1 (by decide) rfl hp rfl rfl hq d kk
theorem gp_X1_end (X : gX Z B cc own) {x : Int32} (hp : gP 15 b i) (hq : gFL own idx RX1 "end" "I") (d : decode cc pc = .ok (.putfield idx, 3)) (kk : gG Z B n (gup V 15 b i 1 x) (pc + 3) L st) : gG Z B n V pc L (.int x :: .ref (B.2.1 15 b i) :: st) := g_put X (ci := 1) (N := 11) (C := RX1) (T := TX1) (ty := .int) rfl gU_X1 tyX1 tyX1_ok nmX1 1 (by decide) rfl rfl (by decide +kernel) rfl rfl hp rfl (by simp) rfl hq d kk
theorem gg_X1_axles (X : gX Z B cc own) (hp : gP 15 b i) (hq : gFL own idx RX1 "axles" "I") (d : decode cc pc = .ok (.getfield idx, 3)) (kk : gG Z B n V (pc + 3) L (.int (V 15 b i 2) :: st)) : gG Z B n V pc L (.ref (B.2.1 15 b i) :: st) := g_get X (ci := 1) (N := 11) (C := RX1) (T := TX1) rfl gU_X1 2 (by decide) rfl hp rfl rfl hq d kk
theorem gp_X1_axles (X : gX Z B cc own) {x : Int32} (hp : gP 15 b i) (hq : gFL own idx RX1 "axles" "I") (d : decode cc pc = .ok (.putfield idx, 3)) (kk : gG Z B n (gup V 15 b i 2 x) (pc + 3) L st) : gG Z B n V pc L (.int x :: .ref (B.2.1 15 b i) :: st) := g_put X (ci := 1) (N := 11) (C := RX1) (T := TX1) (ty := .int) rfl gU_X1 tyX1 tyX1_ok nmX1 2 (by decide) rfl rfl (by decide +kernel) rfl rfl hp rfl (by simp) rfl hq d kk
theorem gg_X1_weight (X : gX Z B cc own) (hp : gP 15 b i) (hq : gFL own idx RX1 "weight" "I") (d : decode cc pc = .ok (.getfield idx, 3)) (kk : gG Z B n V (pc + 3) L (.int (V 15 b i 3) :: st)) : gG Z B n V pc L (.ref (B.2.1 15 b i) :: st) := g_get X (ci := 1) (N := 11) (C := RX1) (T := TX1) rfl gU_X1 3 (by decide) rfl hp rfl rfl hq d kk
theorem gp_X1_weight (X : gX Z B cc own) {x : Int32} (hp : gP 15 b i) (hq : gFL own idx RX1 "weight" "I") (d : decode cc pc = .ok (.putfield idx, 3)) (kk : gG Z B n (gup V 15 b i 3 x) (pc + 3) L st) : gG Z B n V pc L (.int x :: .ref (B.2.1 15 b i) :: st) := g_put X (ci := 1) (N := 11) (C := RX1) (T := TX1) (ty := .int) rfl gU_X1 tyX1 tyX1_ok nmX1 3 (by decide) rfl rfl (by decide +kernel) rfl rfl hp rfl (by simp) rfl hq d kk
theorem gg_X1_pace (X : gX Z B cc own) (hp : gP 15 b i) (hq : gFL own idx RX1 "pace" "I") (d : decode cc pc = .ok (.getfield idx, 3)) (kk : gG Z B n V (pc + 3) L (.int (V 15 b i 4) :: st)) : gG Z B n V pc L (.ref (B.2.1 15 b i) :: st) := g_get X (ci := 1) (N := 11) (C := RX1) (T := TX1) rfl gU_X1 4 (by decide) rfl hp rfl rfl hq d kk
theorem gp_X1_pace (X : gX Z B cc own) {x : Int32} (hp : gP 15 b i) (hq : gFL own idx RX1 "pace" "I") (d : decode cc pc = .ok (.putfield idx, 3)) (kk : gG Z B n (gup V 15 b i 4 x) (pc + 3) L st) : gG Z B n V pc L (.int x :: .ref (B.2.1 15 b i) :: st) := g_put X (ci := 1) (N := 11) (C := RX1) (T := TX1) (ty := .int) rfl gU_X1 tyX1 tyX1_ok nmX1 4 (by decide) rfl rfl (by decide +kernel) rfl rfl hp rfl (by simp) rfl hq d kk
theorem gg_X1_coins (X : gX Z B cc own) (hp : gP 15 b i) (hq : gFL own idx RX1 "coins" "I") (d : decode cc pc = .ok (.getfield idx, 3)) (kk : gG Z B n V (pc + 3) L (.int (V 15 b i 5) :: st)) : gG Z B n V pc L (.ref (B.2.1 15 b i) :: st) := g_get X (ci := 1) (N := 11) (C := RX1) (T := TX1) rfl gU_X1 5 (by decide) rfl hp rfl rfl hq d kk
theorem gp_X1_coins (X : gX Z B cc own) {x : Int32} (hp : gP 15 b i) (hq : gFL own idx RX1 "coins" "I") (d : decode cc pc = .ok (.putfield idx, 3)) (kk : gG Z B n (gup V 15 b i 5 x) (pc + 3) L st) : gG Z B n V pc L (.int x :: .ref (B.2.1 15 b i) :: st) := g_put X (ci := 1) (N := 11) (C := RX1) (T := TX1) (ty := .int) rfl gU_X1 tyX1 tyX1_ok nmX1 5 (by decide) rfl rfl (by decide +kernel) rfl rfl hp rfl (by simp) rfl hq d kk
theorem gg_X1_isCheat (X : gX Z B cc own) (hp : gP 15 b i) (hq : gFL own idx RX1 "isCheat" "Z") (d : decode cc pc = .ok (.getfield idx, 3)) (kk : gG Z B n V (pc + 3) L (.int (V 15 b i 6) :: st)) : gG Z B n V pc L (.ref (B.2.1 15 b i) :: st) := g_get X (ci := 1) (N := 11) (C := RX1) (T := TX1) rfl gU_X1 6 (by decide) rfl hp rfl rfl hq d kk
theorem gp_X1_isCheat (X : gX Z B cc own) {x : Int32} (hx : narrow .boolean (.int x) = .int x) (hx2 : fits .boolean (.int x) = true) (hp : gP 15 b i) (hq : gFL own idx RX1 "isCheat" "Z") (d : decode cc pc = .ok (.putfield idx, 3)) (kk : gG Z B n (gup V 15 b i 6 x) (pc + 3) L st) : gG Z B n V pc L (.int x :: .ref (B.2.1 15 b i) :: st) := g_put X (ci := 1) (N := 11) (C := RX1) (T := TX1) (ty := .boolean) rfl gU_X1 tyX1 tyX1_ok nmX1 6 (by decide) rfl rfl (by decide +kernel) hx hx2 hp rfl (by simp) rfl hq d kk
theorem gg_X1_hasPaid (X : gX Z B cc own) (hp : gP 15 b i) (hq : gFL own idx RX1 "hasPaid" "Z") (d : decode cc pc = .ok (.getfield idx, 3)) (kk : gG Z B n V (pc + 3) L (.int (V 15 b i 7) :: st)) : gG Z B n V pc L (.ref (B.2.1 15 b i) :: st) := g_get X (ci := 1) (N := 11) (C := RX1) (T := TX1) rfl gU_X1 7 (by decide) rfl hp rfl rfl hq d kk
theorem gp_X1_hasPaid (X : gX Z B cc own) {x : Int32} (hx : narrow .boolean (.int x) = .int x) (hx2 : fits .boolean (.int x) = true) (hp : gP 15 b i) (hq : gFL own idx RX1 "hasPaid" "Z") (d : decode cc pc = .ok (.putfield idx, 3)) (kk : gG Z B n (gup V 15 b i 7 x) (pc + 3) L st) : gG Z B n V pc L (.int x :: .ref (B.2.1 15 b i) :: st) := g_put X (ci := 1) (N := 11) (C := RX1) (T := TX1) (ty := .boolean) rfl gU_X1 tyX1 tyX1_ok nmX1 7 (by decide) rfl rfl (by decide +kernel) hx hx2 hp rfl (by simp) rfl hq d kk
theorem gg_X1_state (X : gX Z B cc own) (hp : gP 15 b i) (hq : gFL own idx RX1 "state" "I") (d : decode cc pc = .ok (.getfield idx, 3)) (kk : gG Z B n V (pc + 3) L (.int (V 15 b i 8) :: st)) : gG Z B n V pc L (.ref (B.2.1 15 b i) :: st) := g_get X (ci := 1) (N := 11) (C := RX1) (T := TX1) rfl gU_X1 8 (by decide) rfl hp rfl rfl hq d kk
theorem gp_X1_state (X : gX Z B cc own) {x : Int32} (hp : gP 15 b i) (hq : gFL own idx RX1 "state" "I") (d : decode cc pc = .ok (.putfield idx, 3)) (kk : gG Z B n (gup V 15 b i 8 x) (pc + 3) L st) : gG Z B n V pc L (.int x :: .ref (B.2.1 15 b i) :: st) := g_put X (ci := 1) (N := 11) (C := RX1) (T := TX1) (ty := .int) rfl gU_X1 tyX1 tyX1_ok nmX1 8 (by decide) rfl rfl (by decide +kernel) rfl rfl hp rfl (by simp) rfl hq d kk
theorem gg_X1_way (X : gX Z B cc own) (hp : gP 15 b i) (hq : gFL own idx RX1 "way" "I") (d : decode cc pc = .ok (.getfield idx, 3)) (kk : gG Z B n V (pc + 3) L (.int (V 15 b i 9) :: st)) : gG Z B n V pc L (.ref (B.2.1 15 b i) :: st) := g_get X (ci := 1) (N := 11) (C := RX1) (T := TX1) rfl gU_X1 9 (by decide) rfl hp rfl rfl hq d kk
theorem gp_X1_way (X : gX Z B cc own) {x : Int32} (hp : gP 15 b i) (hq : gFL own idx RX1 "way" "I") (d : decode cc pc = .ok (.putfield idx, 3)) (kk : gG Z B n (gup V 15 b i 9 x) (pc + 3) L st) : gG Z B n V pc L (.int x :: .ref (B.2.1 15 b i) :: st) := g_put X (ci := 1) (N := 11) (C := RX1) (T := TX1) (ty := .int) rfl gU_X1 tyX1 tyX1_ok nmX1 9 (by decide) rfl rfl (by decide +kernel) rfl rfl hp rfl (by simp) rfl hq d kk
theorem gg_X1_overTick (X : gX Z B cc own) (hp : gP 15 b i) (hq : gFL own idx RX1 "overTick" "I") (d : decode cc pc = .ok (.getfield idx, 3)) (kk : gG Z B n V (pc + 3) L (.int (V 15 b i 10) :: st)) : gG Z B n V pc L (.ref (B.2.1 15 b i) :: st) := g_get X (ci := 1) (N := 11) (C := RX1) (T := TX1) rfl gU_X1 10 (by decide) rfl hp rfl rfl hq d kk
theorem gp_X1_overTick (X : gX Z B cc own) {x : Int32} (hp : gP 15 b i) (hq : gFL own idx RX1 "overTick" "I") (d : decode cc pc = .ok (.putfield idx, 3)) (kk : gG Z B n (gup V 15 b i 10 x) (pc + 3) L st) : gG Z B n V pc L (.int x :: .ref (B.2.1 15 b i) :: st) := g_put X (ci := 1) (N := 11) (C := RX1) (T := TX1) (ty := .int) rfl gU_X1 tyX1 tyX1_ok nmX1 10 (by decide) rfl rfl (by decide +kernel) rfl rfl hp rfl (by simp) rfl hq d kk
theorem gg_X8_thrown (X : gX Z B cc own) (hp : gP 20 0 0) (hq : gFL own idx RX8 "thrown" "I") (d : decode cc pc = .ok (.getfield idx, 3)) (kk : gG Z B n V (pc + 3) L (.int (V 20 0 0 0) :: st)) : gG Z B n V pc L (.ref (B.2.1 20 0 0) :: st) := g_get X (ci := 7) (N := 10) (C := RX8) (T := TX8) rfl gU_X8 0 (by decide) rfl hp rfl rfl hq d kk
theorem gp_X8_thrown (X : gX Z B cc own) {x : Int32} (hp : gP 20 0 0) (hq : gFL own idx RX8 "thrown" "I") (d : decode cc pc = .ok (.putfield idx, 3)) (kk : gG Z B n (gup V 20 0 0 0 x) (pc + 3) L st) : gG Z B n V pc L (.int x :: .ref (B.2.1 20 0 0) :: st) := g_put X (ci := 7) (N := 10) (C := RX8) (T := TX8) (ty := .int) rfl gU_X8 tyX8 tyX8_ok nmX8 0 (by decide) rfl rfl (by decide +kernel) rfl rfl hp rfl (by simp) rfl hq d kk
theorem gg_X8_signals (X : gX Z B cc own) (hp : gP 20 0 0) (hq : gFL own idx RX8 "signals" "I") (d : decode cc pc = .ok (.getfield idx, 3)) (kk : gG Z B n V (pc + 3) L (.int (V 20 0 0 1) :: st)) : gG Z B n V pc L (.ref (B.2.1 20 0 0) :: st) := g_get X (ci := 7) (N := 10) (C := RX8) (T := TX8) rfl gU_X8 1 (by decide) rfl hp rfl rfl hq d kk
theorem gp_X8_signals (X : gX Z B cc own) {x : Int32} (hp : gP 20 0 0) (hq : gFL own idx RX8 "signals" "I") (d : decode cc pc = .ok (.putfield idx, 3)) (kk : gG Z B n (gup V 20 0 0 1 x) (pc + 3) L st) : gG Z B n V pc L (.int x :: .ref (B.2.1 20 0 0) :: st) := g_put X (ci := 7) (N := 10) (C := RX8) (T := TX8) (ty := .int) rfl gU_X8 tyX8 tyX8_ok nmX8 1 (by decide) rfl rfl (by decide +kernel) rfl rfl hp rfl (by simp) rfl hq d kk
theorem gg_X8_signal (X : gX Z B cc own) (hp : gP 20 0 0) (hq : gFL own idx RX8 "signal" "[I") (d : decode cc pc = .ok (.getfield idx, 3)) (kk : gG Z B n V (pc + 3) L (.ref (B.2.1 21 0 0) :: st)) : gG Z B n V pc L (.ref (B.2.1 20 0 0) :: st) := g_get X (ci := 7) (N := 10) (C := RX8) (T := TX8) rfl gU_X8 2 (by decide) rfl hp rfl rfl hq d kk
theorem gg_X8_fog (X : gX Z B cc own) (hp : gP 20 0 0) (hq : gFL own idx RX8 "fog" "[I") (d : decode cc pc = .ok (.getfield idx, 3)) (kk : gG Z B n V (pc + 3) L (.ref (B.2.1 22 0 0) :: st)) : gG Z B n V pc L (.ref (B.2.1 20 0 0) :: st) := g_get X (ci := 7) (N := 10) (C := RX8) (T := TX8) rfl gU_X8 3 (by decide) rfl hp rfl rfl hq d kk
theorem gg_X8_places (X : gX Z B cc own) (hp : gP 20 0 0) (hq : gFL own idx RX8 "places" "I") (d : decode cc pc = .ok (.getfield idx, 3)) (kk : gG Z B n V (pc + 3) L (.int (V 20 0 0 4) :: st)) : gG Z B n V pc L (.ref (B.2.1 20 0 0) :: st) := g_get X (ci := 7) (N := 10) (C := RX8) (T := TX8) rfl gU_X8 4 (by decide) rfl hp rfl rfl hq d kk
theorem gp_X8_places (X : gX Z B cc own) {x : Int32} (hp : gP 20 0 0) (hq : gFL own idx RX8 "places" "I") (d : decode cc pc = .ok (.putfield idx, 3)) (kk : gG Z B n (gup V 20 0 0 4 x) (pc + 3) L st) : gG Z B n V pc L (.int x :: .ref (B.2.1 20 0 0) :: st) := g_put X (ci := 7) (N := 10) (C := RX8) (T := TX8) (ty := .int) rfl gU_X8 tyX8 tyX8_ok nmX8 4 (by decide) rfl rfl (by decide +kernel) rfl rfl hp rfl (by simp) rfl hq d kk
theorem gg_X8_bears (X : gX Z B cc own) (hp : gP 20 0 0) (hq : gFL own idx RX8 "bears" "I") (d : decode cc pc = .ok (.getfield idx, 3)) (kk : gG Z B n V (pc + 3) L (.int (V 20 0 0 5) :: st)) : gG Z B n V pc L (.ref (B.2.1 20 0 0) :: st) := g_get X (ci := 7) (N := 10) (C := RX8) (T := TX8) rfl gU_X8 5 (by decide) rfl hp rfl rfl hq d kk
theorem gp_X8_bears (X : gX Z B cc own) {x : Int32} (hp : gP 20 0 0) (hq : gFL own idx RX8 "bears" "I") (d : decode cc pc = .ok (.putfield idx, 3)) (kk : gG Z B n (gup V 20 0 0 5 x) (pc + 3) L st) : gG Z B n V pc L (.int x :: .ref (B.2.1 20 0 0) :: st) := g_put X (ci := 7) (N := 10) (C := RX8) (T := TX8) (ty := .int) rfl gU_X8 tyX8 tyX8_ok nmX8 5 (by decide) rfl rfl (by decide +kernel) rfl rfl hp rfl (by simp) rfl hq d kk
theorem gg_X8_axleToll (X : gX Z B cc own) (hp : gP 20 0 0) (hq : gFL own idx RX8 "axleToll" "I") (d : decode cc pc = .ok (.getfield idx, 3)) (kk : gG Z B n V (pc + 3) L (.int (V 20 0 0 6) :: st)) : gG Z B n V pc L (.ref (B.2.1 20 0 0) :: st) := g_get X (ci := 7) (N := 10) (C := RX8) (T := TX8) rfl gU_X8 6 (by decide) rfl hp rfl rfl hq d kk
theorem gp_X8_axleToll (X : gX Z B cc own) {x : Int32} (hp : gP 20 0 0) (hq : gFL own idx RX8 "axleToll" "I") (d : decode cc pc = .ok (.putfield idx, 3)) (kk : gG Z B n (gup V 20 0 0 6 x) (pc + 3) L st) : gG Z B n V pc L (.int x :: .ref (B.2.1 20 0 0) :: st) := g_put X (ci := 7) (N := 10) (C := RX8) (T := TX8) (ty := .int) rfl gU_X8 tyX8 tyX8_ok nmX8 6 (by decide) rfl rfl (by decide +kernel) rfl rfl hp rfl (by simp) rfl hq d kk
theorem gg_X8_tenToll (X : gX Z B cc own) (hp : gP 20 0 0) (hq : gFL own idx RX8 "tenToll" "I") (d : decode cc pc = .ok (.getfield idx, 3)) (kk : gG Z B n V (pc + 3) L (.int (V 20 0 0 7) :: st)) : gG Z B n V pc L (.ref (B.2.1 20 0 0) :: st) := g_get X (ci := 7) (N := 10) (C := RX8) (T := TX8) rfl gU_X8 7 (by decide) rfl hp rfl rfl hq d kk
theorem gp_X8_tenToll (X : gX Z B cc own) {x : Int32} (hp : gP 20 0 0) (hq : gFL own idx RX8 "tenToll" "I") (d : decode cc pc = .ok (.putfield idx, 3)) (kk : gG Z B n (gup V 20 0 0 7 x) (pc + 3) L st) : gG Z B n V pc L (.int x :: .ref (B.2.1 20 0 0) :: st) := g_put X (ci := 7) (N := 10) (C := RX8) (T := TX8) (ty := .int) rfl gU_X8 tyX8 tyX8_ok nmX8 7 (by decide) rfl rfl (by decide +kernel) rfl rfl hp rfl (by simp) rfl hq d kk
theorem gg_X8_s (X : gX Z B cc own) (hp : gP 20 0 0) (hq : gFL own idx RX8 "s" "LFogBridgeModel$State;") (d : decode cc pc = .ok (.getfield idx, 3)) (kk : gG Z B n V (pc + 3) L (.ref (B.2.1 23 0 0) :: st)) : gG Z B n V pc L (.ref (B.2.1 20 0 0) :: st) := g_get X (ci := 7) (N := 10) (C := RX8) (T := TX8) rfl gU_X8 8 (by decide) rfl hp rfl rfl hq d kk
theorem gg_X8_ahead (X : gX Z B cc own) (hp : gP 20 0 0) (hq : gFL own idx RX8 "ahead" "LFogBridgeModel$State;") (d : decode cc pc = .ok (.getfield idx, 3)) (kk : gG Z B n V (pc + 3) L (.ref (B.2.1 23 1 0) :: st)) : gG Z B n V pc L (.ref (B.2.1 20 0 0) :: st) := g_get X (ci := 7) (N := 10) (C := RX8) (T := TX8) rfl gU_X8 9 (by decide) rfl hp rfl rfl hq d kk
theorem gg_X7_tick (X : gX Z B cc own) (hp : gP 23 b 0) (hq : gFL own idx RX7 "tick" "I") (d : decode cc pc = .ok (.getfield idx, 3)) (kk : gG Z B n V (pc + 3) L (.int (V 23 b 0 0) :: st)) : gG Z B n V pc L (.ref (B.2.1 23 b 0) :: st) := g_get X (ci := 6) (N := 8) (C := RX7) (T := TX7) rfl gU_X7 0 (by decide) rfl hp rfl rfl hq d kk
theorem gp_X7_tick (X : gX Z B cc own) {x : Int32} (hp : gP 23 b 0) (hq : gFL own idx RX7 "tick" "I") (d : decode cc pc = .ok (.putfield idx, 3)) (kk : gG Z B n (gup V 23 b 0 0 x) (pc + 3) L st) : gG Z B n V pc L (.int x :: .ref (B.2.1 23 b 0) :: st) := g_put X (ci := 6) (N := 8) (C := RX7) (T := TX7) (ty := .int) rfl gU_X7 tyX7 tyX7_ok nmX7 0 (by decide) rfl rfl (by decide +kernel) rfl rfl hp rfl (by simp) rfl hq d kk
theorem gg_X7_open (X : gX Z B cc own) (hp : gP 23 b 0) (hq : gFL own idx RX7 "open" "I") (d : decode cc pc = .ok (.getfield idx, 3)) (kk : gG Z B n V (pc + 3) L (.int (V 23 b 0 1) :: st)) : gG Z B n V pc L (.ref (B.2.1 23 b 0) :: st) := g_get X (ci := 6) (N := 8) (C := RX7) (T := TX7) rfl gU_X7 1 (by decide) rfl hp rfl rfl hq d kk
theorem gp_X7_open (X : gX Z B cc own) {x : Int32} (hp : gP 23 b 0) (hq : gFL own idx RX7 "open" "I") (d : decode cc pc = .ok (.putfield idx, 3)) (kk : gG Z B n (gup V 23 b 0 1 x) (pc + 3) L st) : gG Z B n V pc L (.int x :: .ref (B.2.1 23 b 0) :: st) := g_put X (ci := 6) (N := 8) (C := RX7) (T := TX7) (ty := .int) rfl gU_X7 tyX7 tyX7_ok nmX7 1 (by decide) rfl rfl (by decide +kernel) rfl rfl hp rfl (by simp) rfl hq d kk
theorem gg_X7_carts (X : gX Z B cc own) (hp : gP 23 b 0) (hq : gFL own idx RX7 "carts" "I") (d : decode cc pc = .ok (.getfield idx, 3)) (kk : gG Z B n V (pc + 3) L (.int (V 23 b 0 2) :: st)) : gG Z B n V pc L (.ref (B.2.1 23 b 0) :: st) := g_get X (ci := 6) (N := 8) (C := RX7) (T := TX7) rfl gU_X7 2 (by decide) rfl hp rfl rfl hq d kk
theorem gp_X7_carts (X : gX Z B cc own) {x : Int32} (hp : gP 23 b 0) (hq : gFL own idx RX7 "carts" "I") (d : decode cc pc = .ok (.putfield idx, 3)) (kk : gG Z B n (gup V 23 b 0 2 x) (pc + 3) L st) : gG Z B n V pc L (.int x :: .ref (B.2.1 23 b 0) :: st) := g_put X (ci := 6) (N := 8) (C := RX7) (T := TX7) (ty := .int) rfl gU_X7 tyX7 tyX7_ok nmX7 2 (by decide) rfl rfl (by decide +kernel) rfl rfl hp rfl (by simp) rfl hq d kk
theorem gg_X7_of (X : gX Z B cc own) (hp : gP 23 b 0) (hq : gFL own idx RX7 "of" "[I") (d : decode cc pc = .ok (.getfield idx, 3)) (kk : gG Z B n V (pc + 3) L (.ref (B.2.1 24 b 0) :: st)) : gG Z B n V pc L (.ref (B.2.1 23 b 0) :: st) := g_get X (ci := 6) (N := 8) (C := RX7) (T := TX7) rfl gU_X7 3 (by decide) rfl hp rfl rfl hq d kk
theorem gg_X7_at (X : gX Z B cc own) (hp : gP 23 b 0) (hq : gFL own idx RX7 "at" "[I") (d : decode cc pc = .ok (.getfield idx, 3)) (kk : gG Z B n V (pc + 3) L (.ref (B.2.1 25 b 0) :: st)) : gG Z B n V pc L (.ref (B.2.1 23 b 0) :: st) := g_get X (ci := 6) (N := 8) (C := RX7) (T := TX7) rfl gU_X7 4 (by decide) rfl hp rfl rfl hq d kk
theorem gg_X7_row (X : gX Z B cc own) (hp : gP 23 b 0) (hq : gFL own idx RX7 "row" "[I") (d : decode cc pc = .ok (.getfield idx, 3)) (kk : gG Z B n V (pc + 3) L (.ref (B.2.1 26 b 0) :: st)) : gG Z B n V pc L (.ref (B.2.1 23 b 0) :: st) := g_get X (ci := 6) (N := 8) (C := RX7) (T := TX7) rfl gU_X7 5 (by decide) rfl hp rfl rfl hq d kk
theorem gg_X7_box (X : gX Z B cc own) (hp : gP 23 b 0) (hq : gFL own idx RX7 "box" "[I") (d : decode cc pc = .ok (.getfield idx, 3)) (kk : gG Z B n V (pc + 3) L (.ref (B.2.1 27 b 0) :: st)) : gG Z B n V pc L (.ref (B.2.1 23 b 0) :: st) := g_get X (ci := 6) (N := 8) (C := RX7) (T := TX7) rfl gU_X7 6 (by decide) rfl hp rfl rfl hq d kk
theorem gg_X7_this_0 (X : gX Z B cc own) (hp : gP 23 b 0) (hq : gFL own idx RX7 "this$0" "LFogBridgeModel;") (d : decode cc pc = .ok (.getfield idx, 3)) (kk : gG Z B n V (pc + 3) L (.ref (B.2.1 20 0 0) :: st)) : gG Z B n V pc L (.ref (B.2.1 23 b 0) :: st) := g_get X (ci := 6) (N := 8) (C := RX7) (T := TX7) rfl gU_X7 7 (by decide) rfl hp rfl rfl hq d kk
end GFLD
theorem fX2_9 : gFL RX2 9 RX2 "signals" "[I" := Or.inl qF_X2_9
theorem fX2_15 : gFL RX2 15 RX2 "rowsOfLength" "[I" := Or.inl qF_X2_15
theorem fX2_18 : gFL RX2 18 RX2 "size" "I" := Or.inl qF_X2_18
theorem fX6_81 : gFL RX6 81 RX2 "size" "I" := Or.inr ⟨_, qFN_X6_81⟩
theorem fX5_9 : gFL RX5 9 RX5 "carts" "[I" := Or.inl qF_X5_9
theorem fX5_15 : gFL RX5 15 RX5 "size" "I" := Or.inl qF_X5_15
theorem fX3_34 : gFL RX3 34 RX5 "size" "I" := Or.inr ⟨_, qFN_X3_34⟩
theorem fX6_114 : gFL RX6 114 RX5 "size" "I" := Or.inr ⟨_, qFN_X6_114⟩
theorem fX0_80 : gFL RX0 80 RX5 "size" "I" := Or.inr ⟨_, qFN_X0_80⟩
theorem fX3_12 : gFL RX3 12 RX3 "waiting" "LFogBridge$Row;" := Or.inl qF_X3_12
theorem fX6_172 : gFL RX6 172 RX3 "waiting" "LFogBridge$Row;" := Or.inr ⟨_, qFN_X6_172⟩
theorem fX0_157 : gFL RX0 157 RX3 "waiting" "LFogBridge$Row;" := Or.inr ⟨_, qFN_X0_157⟩
theorem fX3_18 : gFL RX3 18 RX3 "coins" "I" := Or.inl qF_X3_18
theorem fX0_77 : gFL RX0 77 RX3 "coins" "I" := Or.inr ⟨_, qFN_X0_77⟩
theorem fX6_209 : gFL RX6 209 RX3 "coins" "I" := Or.inr ⟨_, qFN_X6_209⟩
theorem fX3_22 : gFL RX3 22 RX3 "payers" "I" := Or.inl qF_X3_22
theorem fX3_25 : gFL RX3 25 RX3 "axles" "I" := Or.inl qF_X3_25
theorem fX3_31 : gFL RX3 31 RX3 "keptByCheats" "I" := Or.inl qF_X3_31
theorem fX6_206 : gFL RX6 206 RX3 "keptByCheats" "I" := Or.inr ⟨_, qFN_X6_206⟩
theorem fX1_18 : gFL RX1 18 RX1 "number" "I" := Or.inl qF_X1_18
theorem fX6_177 : gFL RX6 177 RX1 "number" "I" := Or.inr ⟨_, qFN_X6_177⟩
theorem fX0_160 : gFL RX0 160 RX1 "number" "I" := Or.inr ⟨_, qFN_X0_160⟩
theorem fX1_21 : gFL RX1 21 RX1 "end" "I" := Or.inl qF_X1_21
theorem fX6_147 : gFL RX6 147 RX1 "end" "I" := Or.inr ⟨_, qFN_X6_147⟩
theorem fX0_100 : gFL RX0 100 RX1 "end" "I" := Or.inr ⟨_, qFN_X0_100⟩
theorem fX1_24 : gFL RX1 24 RX1 "axles" "I" := Or.inl qF_X1_24
theorem fX3_28 : gFL RX3 28 RX1 "axles" "I" := Or.inr ⟨_, qFN_X3_28⟩
theorem fX6_152 : gFL RX6 152 RX1 "axles" "I" := Or.inr ⟨_, qFN_X6_152⟩
theorem fX0_93 : gFL RX0 93 RX1 "axles" "I" := Or.inr ⟨_, qFN_X0_93⟩
theorem fX1_27 : gFL RX1 27 RX1 "weight" "I" := Or.inl qF_X1_27
theorem fX0_87 : gFL RX0 87 RX1 "weight" "I" := Or.inr ⟨_, qFN_X0_87⟩
theorem fX6_155 : gFL RX6 155 RX1 "weight" "I" := Or.inr ⟨_, qFN_X6_155⟩
theorem fX1_30 : gFL RX1 30 RX1 "pace" "I" := Or.inl qF_X1_30
theorem fX6_158 : gFL RX6 158 RX1 "pace" "I" := Or.inr ⟨_, qFN_X6_158⟩
theorem fX0_96 : gFL RX0 96 RX1 "pace" "I" := Or.inr ⟨_, qFN_X0_96⟩
theorem fX1_33 : gFL RX1 33 RX1 "coins" "I" := Or.inl qF_X1_33
theorem fX6_161 : gFL RX6 161 RX1 "coins" "I" := Or.inr ⟨_, qFN_X6_161⟩
theorem fX0_99 : gFL RX0 99 RX1 "coins" "I" := Or.inr ⟨_, qFN_X0_99⟩
theorem fX1_36 : gFL RX1 36 RX1 "isCheat" "Z" := Or.inl qF_X1_36
theorem fX6_164 : gFL RX6 164 RX1 "isCheat" "Z" := Or.inr ⟨_, qFN_X6_164⟩
theorem fX0_190 : gFL RX0 190 RX1 "isCheat" "Z" := Or.inr ⟨_, qFN_X0_190⟩
theorem fX1_40 : gFL RX1 40 RX1 "hasPaid" "Z" := Or.inl qF_X1_40
theorem fX0_173 : gFL RX0 173 RX1 "hasPaid" "Z" := Or.inr ⟨_, qFN_X0_173⟩
theorem fX1_9 : gFL RX1 9 RX1 "state" "I" := Or.inl qF_X1_9
theorem fX0_74 : gFL RX0 74 RX1 "state" "I" := Or.inr ⟨_, qFN_X0_74⟩
theorem fX1_43 : gFL RX1 43 RX1 "way" "I" := Or.inl qF_X1_43
theorem fX0_133 : gFL RX0 133 RX1 "way" "I" := Or.inr ⟨_, qFN_X0_133⟩
theorem fX1_15 : gFL RX1 15 RX1 "overTick" "I" := Or.inl qF_X1_15
theorem fX0_90 : gFL RX0 90 RX1 "overTick" "I" := Or.inr ⟨_, qFN_X0_90⟩
theorem fX6_90 : gFL RX6 90 RX0 "tick" "I" := Or.inr ⟨_, qFN_X6_90⟩
theorem fX0_71 : gFL RX0 71 RX0 "tick" "I" := Or.inl qF_X0_71
theorem fX0_61 : gFL RX0 61 RX0 "direction" "I" := Or.inl qF_X0_61
theorem fX6_136 : gFL RX6 136 RX0 "direction" "I" := Or.inr ⟨_, qFN_X6_136⟩
theorem fX0_9 : gFL RX0 9 RX0 "places" "I" := Or.inl qF_X0_9
theorem fX6_122 : gFL RX6 122 RX0 "places" "I" := Or.inr ⟨_, qFN_X6_122⟩
theorem fX0_15 : gFL RX0 15 RX0 "bears" "I" := Or.inl qF_X0_15
theorem fX6_119 : gFL RX6 119 RX0 "bears" "I" := Or.inr ⟨_, qFN_X6_119⟩
theorem fX0_18 : gFL RX0 18 RX0 "axleToll" "I" := Or.inl qF_X0_18
theorem fX6_127 : gFL RX6 127 RX0 "axleToll" "I" := Or.inr ⟨_, qFN_X6_127⟩
theorem fX0_21 : gFL RX0 21 RX0 "tenToll" "I" := Or.inl qF_X0_21
theorem fX6_130 : gFL RX6 130 RX0 "tenToll" "I" := Or.inr ⟨_, qFN_X6_130⟩
theorem fX0_50 : gFL RX0 50 RX0 "cartCount" "I" := Or.inl qF_X0_50
theorem fX6_258 : gFL RX6 258 RX0 "cartCount" "I" := Or.inr ⟨_, qFN_X6_258⟩
theorem fX0_26 : gFL RX0 26 RX0 "carts" "[LFogBridge$Cart;" := Or.inl qF_X0_26
theorem fX0_33 : gFL RX0 33 RX0 "firstGate" "LFogBridge$Gate;" := Or.inl qF_X0_33
theorem fX0_37 : gFL RX0 37 RX0 "secondGate" "LFogBridge$Gate;" := Or.inl qF_X0_37
theorem fX0_43 : gFL RX0 43 RX0 "crossing" "LFogBridge$Row;" := Or.inl qF_X0_43
theorem fX6_110 : gFL RX6 110 RX0 "crossing" "LFogBridge$Row;" := Or.inr ⟨_, qFN_X6_110⟩
theorem fX6_10 : gFL RX6 10 RX6 "code" "LFogBridge$Code;" := Or.inl qF_X6_10
theorem fX6_16 : gFL RX6 16 RX6 "fog" "[I" := Or.inl qF_X6_16
theorem fX6_23 : gFL RX6 23 RX6 "bridge" "LFogBridge$Bridge;" := Or.inl qF_X6_23
theorem fX6_27 : gFL RX6 27 RX6 "ahead" "LFogBridge$Bridge;" := Or.inl qF_X6_27
theorem fX6_30 : gFL RX6 30 RX6 "branch" "LFogBridge$Bridge;" := Or.inl qF_X6_30
theorem fX7_34 : gFL RX7 34 RX7 "tick" "I" := Or.inl qF_X7_34
theorem fX8_79 : gFL RX8 79 RX7 "tick" "I" := Or.inr ⟨_, qFN_X8_79⟩
theorem fX7_38 : gFL RX7 38 RX7 "open" "I" := Or.inl qF_X7_38
theorem fX8_88 : gFL RX8 88 RX7 "open" "I" := Or.inr ⟨_, qFN_X8_88⟩
theorem fX7_41 : gFL RX7 41 RX7 "carts" "I" := Or.inl qF_X7_41
theorem fX8_91 : gFL RX8 91 RX7 "carts" "I" := Or.inr ⟨_, qFN_X8_91⟩
theorem fX7_15 : gFL RX7 15 RX7 "of" "[I" := Or.inl qF_X7_15
theorem fX8_94 : gFL RX8 94 RX7 "of" "[I" := Or.inr ⟨_, qFN_X8_94⟩
theorem fX7_19 : gFL RX7 19 RX7 "at" "[I" := Or.inl qF_X7_19
theorem fX7_22 : gFL RX7 22 RX7 "row" "[I" := Or.inl qF_X7_22
theorem fX8_119 : gFL RX8 119 RX7 "row" "[I" := Or.inr ⟨_, qFN_X8_119⟩
theorem fX7_25 : gFL RX7 25 RX7 "box" "[I" := Or.inl qF_X7_25
theorem fX8_103 : gFL RX8 103 RX7 "box" "[I" := Or.inr ⟨_, qFN_X8_103⟩
theorem fX7_3 : gFL RX7 3 RX7 "this$0" "LFogBridgeModel;" := Or.inl qF_X7_3
theorem fX8_41 : gFL RX8 41 RX8 "thrown" "I" := Or.inl qF_X8_41
theorem fX8_62 : gFL RX8 62 RX8 "signals" "I" := Or.inl qF_X8_62
theorem fX8_9 : gFL RX8 9 RX8 "signal" "[I" := Or.inl qF_X8_9
theorem fX8_13 : gFL RX8 13 RX8 "fog" "[I" := Or.inl qF_X8_13
theorem fX8_16 : gFL RX8 16 RX8 "places" "I" := Or.inl qF_X8_16
theorem fX7_59 : gFL RX7 59 RX8 "places" "I" := Or.inr ⟨_, qFN_X7_59⟩
theorem fX8_20 : gFL RX8 20 RX8 "bears" "I" := Or.inl qF_X8_20
theorem fX7_74 : gFL RX7 74 RX8 "bears" "I" := Or.inr ⟨_, qFN_X7_74⟩
theorem fX8_23 : gFL RX8 23 RX8 "axleToll" "I" := Or.inl qF_X8_23
theorem fX7_81 : gFL RX7 81 RX8 "axleToll" "I" := Or.inr ⟨_, qFN_X7_81⟩
theorem fX8_26 : gFL RX8 26 RX8 "tenToll" "I" := Or.inl qF_X8_26
theorem fX7_84 : gFL RX7 84 RX8 "tenToll" "I" := Or.inr ⟨_, qFN_X7_84⟩
theorem fX8_34 : gFL RX8 34 RX8 "s" "LFogBridgeModel$State;" := Or.inl qF_X8_34
theorem fX8_38 : gFL RX8 38 RX8 "ahead" "LFogBridgeModel$State;" := Or.inl qF_X8_38
theorem lL_69 : gML RL 69 yX6_init := Or.inl qL_L_69
theorem lX6_1 : gML RX6 1 objectInit := Or.inl qL_X6_1
theorem lX6_9 : gML RX6 9 yX2_init := Or.inr ⟨_, qMN_X6_9⟩
theorem lX2_3 : gML RX2 3 objectInit := Or.inl qL_X2_3
theorem lX6_22 : gML RX6 22 yX0_init := Or.inl qL_X6_22
theorem lX0_3 : gML RX0 3 objectInit := Or.inl qL_X0_3
theorem lX0_32 : gML RX0 32 yX3_init := Or.inr ⟨_, qMN_X0_32⟩
theorem lX3_3 : gML RX3 3 objectInit := Or.inl qL_X3_3
theorem lX3_11 : gML RX3 11 yX5_init := Or.inr ⟨_, qMN_X3_11⟩
theorem lX5_3 : gML RX5 3 objectInit := Or.inl qL_X5_3
theorem lX0_42 : gML RX0 42 yX5_init := Or.inr ⟨_, qMN_X0_42⟩
theorem lX0_47 : gML RX0 47 yX1_init := Or.inl qL_X0_47
theorem lX1_3 : gML RX1 3 objectInit := Or.inl qL_X1_3
theorem lL_105 : gML RL 105 yX6_change := Or.inl qL_L_105
theorem lX6_133 : gML RX6 133 yX0_turn := Or.inl qL_X6_133
theorem lL_134 : gML RL 134 yX6_keep := Or.inl qL_L_134
theorem lX6_222 : gML RX6 222 yX0_copyFrom := Or.inl qL_X6_222
theorem lX0_57 : gML RX0 57 yX0_cartAt := Or.inl qL_X0_57
theorem lX0_53 : gML RX0 53 yX6_isIndex := Or.inr ⟨_, qMN_X0_53⟩
theorem lX0_123 : gML RX0 123 yX1_copyFrom := Or.inl qL_X0_123
theorem lX0_127 : gML RX0 127 yX3_copyFrom := Or.inl qL_X0_127
theorem lX3_48 : gML RX3 48 yX5_copyFrom := Or.inl qL_X3_48
theorem lX5_23 : gML RX5 23 yX5_at := Or.inl qL_X5_23
theorem lX5_19 : gML RX5 19 yX6_isIndex := Or.inr ⟨_, qMN_X5_19⟩
theorem lX0_130 : gML RX0 130 yX5_copyFrom := Or.inl qL_X0_130
theorem lX6_212 : gML RX6 212 yX0_run := Or.inl qL_X6_212
theorem lX0_64 : gML RX0 64 yX0_move := Or.inl qL_X0_64
theorem lX0_83 : gML RX0 83 yX5_at := Or.inl qL_X0_83
theorem lX0_136 : gML RX0 136 yX0_goOn := Or.inl qL_X0_136
theorem lX0_142 : gML RX0 142 yJ9_min_7cf53 := Or.inl qL_X0_142
theorem lX0_147 : gML RX0 147 yX5_removeFirst := Or.inl qL_X0_147
theorem lX0_139 : gML RX0 139 yX0_goBack := Or.inl qL_X0_139
theorem lX0_150 : gML RX0 150 yJ9_max_7cf53 := Or.inl qL_X0_150
theorem lX0_153 : gML RX0 153 yX0_gateAt := Or.inl qL_X0_153
theorem lX0_163 : gML RX0 163 yX5_addFirst := Or.inl qL_X0_163
theorem lX0_166 : gML RX0 166 yX5_removeLast := Or.inl qL_X0_166
theorem lX0_68 : gML RX0 68 yX0_comeOn := Or.inl qL_X0_68
theorem lX0_169 : gML RX0 169 yX0_hasRoomFor := Or.inl qL_X0_169
theorem lX0_184 : gML RX0 184 yX5_last := Or.inl qL_X0_184
theorem lX0_187 : gML RX0 187 yX0_weightOnBridge := Or.inl qL_X0_187
theorem lX0_177 : gML RX0 177 yX0_pays := Or.inl qL_X0_177
theorem lX0_107 : gML RX0 107 yX0_tollFor := Or.inl qL_X0_107
theorem lX0_193 : gML RX0 193 yX3_take := Or.inl qL_X0_193
theorem lX0_181 : gML RX0 181 yX5_addLast := Or.inl qL_X0_181
theorem lL_141 : gML RL 141 yX6_mean := Or.inl qL_L_141
theorem lX6_235 : gML RX6 235 yX0_meanOverTick := Or.inl qL_X6_235
theorem lL_146 : gML RL 146 yX6_digest := Or.inl qL_L_146
theorem lX6_217 : gML RX6 217 yX6_countOf := Or.inl qL_X6_217
theorem lX6_261 : gML RX6 261 yX0_cartsIn := Or.inl qL_X6_261
theorem lX6_264 : gML RX6 264 yX0_weightOnBridge := Or.inl qL_X6_264
theorem lX6_241 : gML RX6 241 yX6_mixed := Or.inl qL_X6_241
theorem lX6_245 : gML RX6 245 yX2_mixedInto := Or.inl qL_X6_245
theorem lX2_22 : gML RX2 22 yX2_ringsOf := Or.inl qL_X2_22
theorem lX2_32 : gML RX2 32 yX6_isIndex := Or.inr ⟨_, qMN_X2_32⟩
theorem lX2_54 : gML RX2 54 yX6_mixed := Or.inr ⟨_, qMN_X2_54⟩
theorem lX6_249 : gML RX6 249 yX0_mixedInto := Or.inl qL_X6_249
theorem lX0_111 : gML RX0 111 yX3_mixedInto := Or.inl qL_X0_111
theorem lX3_37 : gML RX3 37 yX3_tell := Or.inl qL_X3_37
theorem lX3_41 : gML RX3 41 yX6_mixed := Or.inr ⟨_, qMN_X3_41⟩
theorem lX3_45 : gML RX3 45 yX5_at := Or.inl qL_X3_45
theorem lX0_115 : gML RX0 115 yX0_tellCart := Or.inl qL_X0_115
theorem lX0_103 : gML RX0 103 yX0_placeOf := Or.inl qL_X0_103
theorem lX0_119 : gML RX0 119 yX6_mixed := Or.inr ⟨_, qMN_X0_119⟩
theorem lL_73 : gML RL 73 yL_addSignal := Or.inl qL_L_73
theorem lL_7 : gML RL 7 yX6_addSignal := Or.inl qL_L_7
theorem lX6_33 : gML RX6 33 yX4_lengthOf := Or.inl qL_X6_33
theorem lX6_39 : gML RX6 39 yX6_isBetween := Or.inl qL_X6_39
theorem lX6_50 : gML RX6 50 yX2_isFull := Or.inl qL_X6_50
theorem lX6_54 : gML RX6 54 yX2_isAmbiguousWith := Or.inl qL_X6_54
theorem lX2_26 : gML RX2 26 yX4_isBeginning := Or.inl qL_X2_26
theorem lX4_18 : gML RX4 18 yX4_lengthOf := Or.inl qL_X4_18
theorem lX4_9 : gML RX4 9 yX4_withoutLast := Or.inl qL_X4_9
theorem lX6_63 : gML RX6 63 yX2_add := Or.inl qL_X6_63
theorem lL_83 : gML RL 83 yL_read := Or.inl qL_L_83
theorem lL_17 : gML RL 17 yX6_read := Or.inl qL_L_17
theorem lX6_68 : gML RX6 68 yX6_isIndex := Or.inl qL_X6_68
theorem lX6_77 : gML RX6 77 yX2_readRow := Or.inl qL_X6_77
theorem lX2_35 : gML RX2 35 yX2_signalAtBeginningOf := Or.inl qL_X2_35
theorem lX2_38 : gML RX2 38 yX4_behindBeginning := Or.inl qL_X2_38
theorem lX4_15 : gML RX4 15 yX4_followedBy := Or.inl qL_X4_15
theorem lX2_42 : gML RX2 42 yX4_lengthOf := Or.inl qL_X2_42
theorem lL_87 : gML RL 87 yL_heard := Or.inl qL_L_87
theorem lL_23 : gML RL 23 yX6_heard := Or.inl qL_L_23
theorem lX6_87 : gML RX6 87 yX2_ringsOf := Or.inl qL_X6_87
theorem lX6_93 : gML RX6 93 yX6_ringsHeard := Or.inl qL_X6_93
theorem lX6_252 : gML RX6 252 yX4_ringAt := Or.inl qL_X6_252
theorem lX6_255 : gML RX6 255 yX6_fogIn := Or.inl qL_X6_255
theorem lL_90 : gML RL 90 yL_safe := Or.inl qL_L_90
theorem lL_26 : gML RL 26 yX6_safe := Or.inl qL_L_26
theorem lX6_96 : gML RX6 96 yX2_safeRings := Or.inl qL_X6_96
theorem lX2_45 : gML RX2 45 yX4_withoutRing := Or.inl qL_X2_45
theorem lX2_48 : gML RX2 48 yX2_readRow := Or.inl qL_X2_48
theorem lL_93 : gML RL 93 yL_rows := Or.inl qL_L_93
theorem lL_29 : gML RL 29 yX6_rows := Or.inl qL_L_29
theorem lX6_101 : gML RX6 101 yX2_wholeRows := Or.inl qL_X6_101
theorem lX2_51 : gML RX2 51 yX2_rowsByLastSignal := Or.inl qL_X2_51
theorem lL_96 : gML RL 96 yL_setFog := Or.inl qL_L_96
theorem lL_32 : gML RL 32 yX6_setFog := Or.inl qL_L_32
theorem lL_99 : gML RL 99 yL_rebuild := Or.inl qL_L_99
theorem lL_35 : gML RL 35 yX6_rebuild := Or.inl qL_L_35
theorem lL_102 : gML RL 102 yL_setToll := Or.inl qL_L_102
theorem lL_38 : gML RL 38 yX6_setToll := Or.inl qL_L_38
theorem lL_109 : gML RL 109 yL_come := Or.inl qL_L_109
theorem lL_41 : gML RL 41 yX6_come := Or.inl qL_L_41
theorem lX6_141 : gML RX6 141 yX0_newCart := Or.inl qL_X6_141
theorem lX6_168 : gML RX6 168 yX0_gateAt := Or.inl qL_X6_168
theorem lX6_180 : gML RX6 180 yX5_addLast := Or.inl qL_X6_180
theorem lL_113 : gML RL 113 yL_cart := Or.inl qL_L_113
theorem lL_45 : gML RL 45 yX6_cart := Or.inl qL_L_45
theorem lX6_184 : gML RX6 184 yX0_cartAt := Or.inl qL_X6_184
theorem lX6_190 : gML RX6 190 yX0_tellCart := Or.inl qL_X6_190
theorem lL_116 : gML RL 116 yL_queue := Or.inl qL_L_116
theorem lL_48 : gML RL 48 yX6_queue := Or.inl qL_L_48
theorem lX6_196 : gML RX6 196 yX5_at := Or.inl qL_X6_196
theorem lL_119 : gML RL 119 yL_box := Or.inl qL_L_119
theorem lL_51 : gML RL 51 yX6_box := Or.inl qL_L_51
theorem lX6_201 : gML RX6 201 yX3_tell := Or.inl qL_X6_201
theorem lL_122 : gML RL 122 yL_empty := Or.inl qL_L_122
theorem lL_54 : gML RL 54 yX6_empty := Or.inl qL_L_54
theorem lL_125 : gML RL 125 yL_pass := Or.inl qL_L_125
theorem lL_57 : gML RL 57 yX6_pass := Or.inl qL_L_57
theorem lL_128 : gML RL 128 yL_count := Or.inl qL_L_128
theorem lL_60 : gML RL 60 yX6_count := Or.inl qL_L_60
theorem lL_131 : gML RL 131 yL_over := Or.inl qL_L_131
theorem lL_63 : gML RL 63 yX6_over := Or.inl qL_L_63
theorem lX6_226 : gML RX6 226 yX0_isOver := Or.inl qL_X6_226
theorem lL_138 : gML RL 138 yL_foresee := Or.inl qL_L_138
theorem lL_66 : gML RL 66 yX6_foresee := Or.inl qL_L_66
theorem lX6_231 : gML RX6 231 yX0_coinsInBoxes := Or.inl qL_X6_231
theorem lL_72 : gML RL 72 yX8_init := Or.inl qL_L_72
theorem lX8_1 : gML RX8 1 objectInit := Or.inl qL_X8_1
theorem lX8_31 : gML RX8 31 yX7_init := Or.inl qL_X8_31
theorem lX7_9 : gML RX7 9 objectInit := Or.inl qL_X7_9
theorem lL_79 : gML RL 79 yX8_thrown := Or.inl qL_L_79
theorem lL_78 : gML RL 78 yX8_addSignal := Or.inl qL_L_78
theorem lX8_55 : gML RX8 55 yX8_isRow := Or.inl qL_X8_55
theorem lX8_44 : gML RX8 44 yX8_length := Or.inl qL_X8_44
theorem lX8_48 : gML RX8 48 yX8_isIn := Or.inl qL_X8_48
theorem lX8_59 : gML RX8 59 yX8_no := Or.inl qL_X8_59
theorem lX8_65 : gML RX8 65 yX8_begins := Or.inl qL_X8_65
theorem lX8_52 : gML RX8 52 yX8_ten := Or.inl qL_X8_52
theorem lL_86 : gML RL 86 yX8_read := Or.inl qL_L_86
theorem lX8_68 : gML RX8 68 yX8_beginning := Or.inl qL_X8_68
theorem lX8_71 : gML RX8 71 yX8_behind := Or.inl qL_X8_71
theorem lL_89 : gML RL 89 yX8_heard := Or.inl qL_L_89
theorem lX8_75 : gML RX8 75 yX8_isSignal := Or.inl qL_X8_75
theorem lL_92 : gML RL 92 yX8_safe := Or.inl qL_L_92
theorem lX8_82 : gML RX8 82 yX8_isWhole := Or.inl qL_X8_82
theorem lL_95 : gML RL 95 yX8_rows := Or.inl qL_L_95
theorem lL_98 : gML RL 98 yX8_setFog := Or.inl qL_L_98
theorem lL_101 : gML RL 101 yX8_rebuild := Or.inl qL_L_101
theorem lX8_85 : gML RX8 85 yX7_how := Or.inl qL_X8_85
theorem lX7_52 : gML RX7 52 yX7_own := Or.inl qL_X7_52
theorem lL_104 : gML RL 104 yX8_setToll := Or.inl qL_L_104
theorem lL_108 : gML RL 108 yX8_change := Or.inl qL_L_108
theorem lL_112 : gML RL 112 yX8_come := Or.inl qL_L_112
theorem lX8_97 : gML RX8 97 arraycopyName := Or.inl qL_X8_97
theorem lX8_106 : gML RX8 106 yX7_line := Or.inl qL_X8_106
theorem lX7_28 : gML RX7 28 arraycopyName := Or.inl qL_X7_28
theorem lX7_48 : gML RX7 48 yX7_set := Or.inl qL_X7_48
theorem lL_115 : gML RL 115 yX8_cart := Or.inl qL_L_115
theorem lX8_113 : gML RX8 113 yX8_isCart := Or.inl qL_X8_113
theorem lX8_116 : gML RX8 116 yX8_cartTold := Or.inl qL_X8_116
theorem lX8_110 : gML RX8 110 yX7_own := Or.inr ⟨_, qMN_X8_110⟩
theorem lL_118 : gML RL 118 yX8_queue := Or.inl qL_L_118
theorem lL_121 : gML RL 121 yX8_box := Or.inl qL_L_121
theorem lL_124 : gML RL 124 yX8_empty := Or.inl qL_L_124
theorem lL_127 : gML RL 127 yX8_pass := Or.inl qL_L_127
theorem lX8_122 : gML RX8 122 yX7_pass := Or.inl qL_X8_122
theorem lX7_87 : gML RX7 87 yX7_how := Or.inl qL_X7_87
theorem lX7_90 : gML RX7 90 yX7_move := Or.inl qL_X7_90
theorem lX7_62 : gML RX7 62 yX7_leave := Or.inl qL_X7_62
theorem lX7_56 : gML RX7 56 yX7_line := Or.inl qL_X7_56
theorem lX7_93 : gML RX7 93 yX7_comeOn := Or.inl qL_X7_93
theorem lX7_66 : gML RX7 66 yX7_isBack := Or.inl qL_X7_66
theorem lX7_70 : gML RX7 70 yX7_weight := Or.inl qL_X7_70
theorem lX7_77 : gML RX7 77 yX7_first := Or.inl qL_X7_77
theorem lL_130 : gML RL 130 yX8_count := Or.inl qL_L_130
theorem lX8_129 : gML RX8 129 yX8_counted := Or.inl qL_X8_129
theorem lX8_126 : gML RX8 126 yX7_weight := Or.inl qL_X8_126
theorem lL_133 : gML RL 133 yX8_over := Or.inl qL_L_133
theorem lX8_132 : gML RX8 132 yX7_become := Or.inl qL_X8_132
theorem lX7_44 : gML RX7 44 yX7_copy := Or.inl qL_X7_44
theorem lL_137 : gML RL 137 yX8_keep := Or.inl qL_L_137
theorem lX8_136 : gML RX8 136 yX8_overBy := Or.inl qL_X8_136
theorem lL_140 : gML RL 140 yX8_foresee := Or.inl qL_L_140
theorem lL_145 : gML RL 145 yX8_mean := Or.inl qL_L_145
theorem lL_150 : gML RL 150 yX8_digest := Or.inl qL_L_150
theorem mX6_change : gCV yX6_change cX6_change 1 (some .int) 0 := ⟨qI_yX6_change, qS_yX6_change, qC_yX6_change, qN_X6, by decide +kernel, by decide +kernel⟩
theorem mX0_turn : gCV yX0_turn cX0_turn 1 none 0 := ⟨qI_yX0_turn, qS_yX0_turn, qC_yX0_turn, qN_X0, by decide +kernel, by decide +kernel⟩
theorem mX6_keep : gCV yX6_keep cX6_keep 6 (some .int) 0 := ⟨qI_yX6_keep, qS_yX6_keep, qC_yX6_keep, qN_X6, by decide +kernel, by decide +kernel⟩
theorem mX0_copyFrom : gCV yX0_copyFrom cX0_copyFrom 5 none 1 := ⟨qI_yX0_copyFrom, qS_yX0_copyFrom, qC_yX0_copyFrom, qN_X0, by decide +kernel, by decide +kernel⟩
theorem mX0_cartAt : gCV yX0_cartAt cX0_cartAt 2 (some (.object "FogBridge$Cart")) 1 := ⟨qI_yX0_cartAt, qS_yX0_cartAt, qC_yX0_cartAt, qN_X0, by decide +kernel, by decide +kernel⟩
theorem mX6_isIndex : gCS yX6_isIndex cX6_isIndex 2 (some .boolean) 2 := ⟨qT_yX6_isIndex, qC_yX6_isIndex, qN_X6, by decide +kernel, by decide +kernel⟩
theorem mX1_copyFrom : gCV yX1_copyFrom cX1_copyFrom 2 none 1 := ⟨qI_yX1_copyFrom, qS_yX1_copyFrom, qC_yX1_copyFrom, qN_X1, by decide +kernel, by decide +kernel⟩
theorem mX3_copyFrom : gCV yX3_copyFrom cX3_copyFrom 2 none 1 := ⟨qI_yX3_copyFrom, qS_yX3_copyFrom, qC_yX3_copyFrom, qN_X3, by decide +kernel, by decide +kernel⟩
theorem mX5_copyFrom : gCV yX5_copyFrom cX5_copyFrom 3 none 1 := ⟨qI_yX5_copyFrom, qS_yX5_copyFrom, qC_yX5_copyFrom, qN_X5, by decide +kernel, by decide +kernel⟩
theorem mX5_at : gCV yX5_at cX5_at 2 (some .int) 1 := ⟨qI_yX5_at, qS_yX5_at, qC_yX5_at, qN_X5, by decide +kernel, by decide +kernel⟩
theorem mX0_run : gCV yX0_run cX0_run 4 (some .int) 1 := ⟨qI_yX0_run, qS_yX0_run, qC_yX0_run, qN_X0, by decide +kernel, by decide +kernel⟩
theorem mX0_move : gCV yX0_move cX0_move 2 (some .int) 0 := ⟨qI_yX0_move, qS_yX0_move, qC_yX0_move, qN_X0, by decide +kernel, by decide +kernel⟩
theorem mX0_goOn : gCV yX0_goOn cX0_goOn 6 (some .int) 0 := ⟨qI_yX0_goOn, qS_yX0_goOn, qC_yX0_goOn, qN_X0, by decide +kernel, by decide +kernel⟩
theorem mJ9_min_7cf53 : gCS yJ9_min_7cf53 cJ9_min_7cf53 2 (some .int) 2 := ⟨qT_yJ9_min_7cf53, qC_yJ9_min_7cf53, qN_J9, by decide +kernel, by decide +kernel⟩
theorem mX5_removeFirst : gCV yX5_removeFirst cX5_removeFirst 2 none 0 := ⟨qI_yX5_removeFirst, qS_yX5_removeFirst, qC_yX5_removeFirst, qN_X5, by decide +kernel, by decide +kernel⟩
theorem mX0_goBack : gCV yX0_goBack cX0_goBack 5 none 0 := ⟨qI_yX0_goBack, qS_yX0_goBack, qC_yX0_goBack, qN_X0, by decide +kernel, by decide +kernel⟩
theorem mJ9_max_7cf53 : gCS yJ9_max_7cf53 cJ9_max_7cf53 2 (some .int) 2 := ⟨qT_yJ9_max_7cf53, qC_yJ9_max_7cf53, qN_J9, by decide +kernel, by decide +kernel⟩
theorem mX0_gateAt : gCV yX0_gateAt cX0_gateAt 2 (some (.object "FogBridge$Gate")) 1 := ⟨qI_yX0_gateAt, qS_yX0_gateAt, qC_yX0_gateAt, qN_X0, by decide +kernel, by decide +kernel⟩
theorem mX5_addFirst : gCV yX5_addFirst cX5_addFirst 3 none 1 := ⟨qI_yX5_addFirst, qS_yX5_addFirst, qC_yX5_addFirst, qN_X5, by decide +kernel, by decide +kernel⟩
theorem mX5_removeLast : gCV yX5_removeLast cX5_removeLast 1 none 0 := ⟨qI_yX5_removeLast, qS_yX5_removeLast, qC_yX5_removeLast, qN_X5, by decide +kernel, by decide +kernel⟩
theorem mX0_comeOn : gCV yX0_comeOn cX0_comeOn 3 none 0 := ⟨qI_yX0_comeOn, qS_yX0_comeOn, qC_yX0_comeOn, qN_X0, by decide +kernel, by decide +kernel⟩
theorem mX0_hasRoomFor : gCV yX0_hasRoomFor cX0_hasRoomFor 4 (some .boolean) 1 := ⟨qI_yX0_hasRoomFor, qS_yX0_hasRoomFor, qC_yX0_hasRoomFor, qN_X0, by decide +kernel, by decide +kernel⟩
theorem mX5_last : gCV yX5_last cX5_last 1 (some .int) 0 := ⟨qI_yX5_last, qS_yX5_last, qC_yX5_last, qN_X5, by decide +kernel, by decide +kernel⟩
theorem mX0_weightOnBridge : gCV yX0_weightOnBridge cX0_weightOnBridge 4 (some .int) 0 := ⟨qI_yX0_weightOnBridge, qS_yX0_weightOnBridge, qC_yX0_weightOnBridge, qN_X0, by decide +kernel, by decide +kernel⟩
theorem mX0_pays : gCV yX0_pays cX0_pays 5 (some .boolean) 2 := ⟨qI_yX0_pays, qS_yX0_pays, qC_yX0_pays, qN_X0, by decide +kernel, by decide +kernel⟩
theorem mX0_tollFor : gCV yX0_tollFor cX0_tollFor 3 (some .int) 2 := ⟨qI_yX0_tollFor, qS_yX0_tollFor, qC_yX0_tollFor, qN_X0, by decide +kernel, by decide +kernel⟩
theorem mX3_take : gCV yX3_take cX3_take 4 none 3 := ⟨qI_yX3_take, qS_yX3_take, qC_yX3_take, qN_X3, by decide +kernel, by decide +kernel⟩
theorem mX5_addLast : gCV yX5_addLast cX5_addLast 2 none 1 := ⟨qI_yX5_addLast, qS_yX5_addLast, qC_yX5_addLast, qN_X5, by decide +kernel, by decide +kernel⟩
theorem mX6_mean : gCV yX6_mean cX6_mean 1 (some .double) 0 := ⟨qI_yX6_mean, qS_yX6_mean, qC_yX6_mean, qN_X6, by decide +kernel, by decide +kernel⟩
theorem mX0_meanOverTick : gCV yX0_meanOverTick cX0_meanOverTick 6 (some .double) 0 := ⟨qI_yX0_meanOverTick, qS_yX0_meanOverTick, qC_yX0_meanOverTick, qN_X0, by decide +kernel, by decide +kernel⟩
theorem mX6_digest : gCV yX6_digest cX6_digest 4 (some .long) 0 := ⟨qI_yX6_digest, qS_yX6_digest, qC_yX6_digest, qN_X6, by decide +kernel, by decide +kernel⟩
theorem mX6_countOf : gCV yX6_countOf cX6_countOf 2 (some .int) 1 := ⟨qI_yX6_countOf, qS_yX6_countOf, qC_yX6_countOf, qN_X6, by decide +kernel, by decide +kernel⟩
theorem mX0_cartsIn : gCV yX0_cartsIn cX0_cartsIn 5 (some .int) 1 := ⟨qI_yX0_cartsIn, qS_yX0_cartsIn, qC_yX0_cartsIn, qN_X0, by decide +kernel, by decide +kernel⟩
theorem mX6_mixed : gCS yX6_mixed cX6_mixed 3 (some .long) 2 := ⟨qT_yX6_mixed, qC_yX6_mixed, qN_X6, by decide +kernel, by decide +kernel⟩
theorem mX2_mixedInto : gCV yX2_mixedInto cX2_mixedInto 6 (some .long) 1 := ⟨qI_yX2_mixedInto, qS_yX2_mixedInto, qC_yX2_mixedInto, qN_X2, by decide +kernel, by decide +kernel⟩
theorem mX2_ringsOf : gCV yX2_ringsOf cX2_ringsOf 2 (some .int) 1 := ⟨qI_yX2_ringsOf, qS_yX2_ringsOf, qC_yX2_ringsOf, qN_X2, by decide +kernel, by decide +kernel⟩
theorem mX0_mixedInto : gCV yX0_mixedInto cX0_mixedInto 8 (some .long) 1 := ⟨qI_yX0_mixedInto, qS_yX0_mixedInto, qC_yX0_mixedInto, qN_X0, by decide +kernel, by decide +kernel⟩
theorem mX3_mixedInto : gCV yX3_mixedInto cX3_mixedInto 6 (some .long) 1 := ⟨qI_yX3_mixedInto, qS_yX3_mixedInto, qC_yX3_mixedInto, qN_X3, by decide +kernel, by decide +kernel⟩
theorem mX3_tell : gCV yX3_tell cX3_tell 2 (some .int) 1 := ⟨qI_yX3_tell, qS_yX3_tell, qC_yX3_tell, qN_X3, by decide +kernel, by decide +kernel⟩
theorem mX0_tellCart : gCV yX0_tellCart cX0_tellCart 3 (some .int) 2 := ⟨qI_yX0_tellCart, qS_yX0_tellCart, qC_yX0_tellCart, qN_X0, by decide +kernel, by decide +kernel⟩
theorem mX0_placeOf : gCV yX0_placeOf cX0_placeOf 2 (some .int) 1 := ⟨qI_yX0_placeOf, qS_yX0_placeOf, qC_yX0_placeOf, qN_X0, by decide +kernel, by decide +kernel⟩
theorem mX6_addSignal : gCV yX6_addSignal cX6_addSignal 2 (some .int) 1 := ⟨qI_yX6_addSignal, qS_yX6_addSignal, qC_yX6_addSignal, qN_X6, by decide +kernel, by decide +kernel⟩
theorem mX4_lengthOf : gCS yX4_lengthOf cX4_lengthOf 4 (some .int) 1 := ⟨qT_yX4_lengthOf, qC_yX4_lengthOf, qN_X4, by decide +kernel, by decide +kernel⟩
theorem mX6_isBetween : gCS yX6_isBetween cX6_isBetween 3 (some .boolean) 3 := ⟨qT_yX6_isBetween, qC_yX6_isBetween, qN_X6, by decide +kernel, by decide +kernel⟩
theorem mX2_isFull : gCV yX2_isFull cX2_isFull 1 (some .boolean) 0 := ⟨qI_yX2_isFull, qS_yX2_isFull, qC_yX2_isFull, qN_X2, by decide +kernel, by decide +kernel⟩
theorem mX2_isAmbiguousWith : gCV yX2_isAmbiguousWith cX2_isAmbiguousWith 4 (some .boolean) 1 := ⟨qI_yX2_isAmbiguousWith, qS_yX2_isAmbiguousWith, qC_yX2_isAmbiguousWith, qN_X2, by decide +kernel, by decide +kernel⟩
theorem mX4_isBeginning : gCS yX4_isBeginning cX4_isBeginning 3 (some .boolean) 2 := ⟨qT_yX4_isBeginning, qC_yX4_isBeginning, qN_X4, by decide +kernel, by decide +kernel⟩
theorem mX4_withoutLast : gCS yX4_withoutLast cX4_withoutLast 4 (some .int) 2 := ⟨qT_yX4_withoutLast, qC_yX4_withoutLast, qN_X4, by decide +kernel, by decide +kernel⟩
theorem mX2_add : gCV yX2_add cX2_add 2 (some .int) 1 := ⟨qI_yX2_add, qS_yX2_add, qC_yX2_add, qN_X2, by decide +kernel, by decide +kernel⟩
theorem mX6_read : gCV yX6_read cX6_read 3 (some .int) 2 := ⟨qI_yX6_read, qS_yX6_read, qC_yX6_read, qN_X6, by decide +kernel, by decide +kernel⟩
theorem mX2_readRow : gCV yX2_readRow cX2_readRow 8 (some .int) 2 := ⟨qI_yX2_readRow, qS_yX2_readRow, qC_yX2_readRow, qN_X2, by decide +kernel, by decide +kernel⟩
theorem mX2_signalAtBeginningOf : gCV yX2_signalAtBeginningOf cX2_signalAtBeginningOf 3 (some .int) 1 := ⟨qI_yX2_signalAtBeginningOf, qS_yX2_signalAtBeginningOf, qC_yX2_signalAtBeginningOf, qN_X2, by decide +kernel, by decide +kernel⟩
theorem mX4_behindBeginning : gCS yX4_behindBeginning cX4_behindBeginning 2 (some .int) 2 := ⟨qT_yX4_behindBeginning, qC_yX4_behindBeginning, qN_X4, by decide +kernel, by decide +kernel⟩
theorem mX4_followedBy : gCS yX4_followedBy cX4_followedBy 4 (some .int) 2 := ⟨qT_yX4_followedBy, qC_yX4_followedBy, qN_X4, by decide +kernel, by decide +kernel⟩
theorem mX6_heard : gCV yX6_heard cX6_heard 2 (some .int) 1 := ⟨qI_yX6_heard, qS_yX6_heard, qC_yX6_heard, qN_X6, by decide +kernel, by decide +kernel⟩
theorem mX6_ringsHeard : gCV yX6_ringsHeard cX6_ringsHeard 8 (some .int) 2 := ⟨qI_yX6_ringsHeard, qS_yX6_ringsHeard, qC_yX6_ringsHeard, qN_X6, by decide +kernel, by decide +kernel⟩
theorem mX4_ringAt : gCS yX4_ringAt cX4_ringAt 2 (some .int) 2 := ⟨qT_yX4_ringAt, qC_yX4_ringAt, qN_X4, by decide +kernel, by decide +kernel⟩
theorem mX6_fogIn : gCV yX6_fogIn cX6_fogIn 3 (some .int) 1 := ⟨qI_yX6_fogIn, qS_yX6_fogIn, qC_yX6_fogIn, qN_X6, by decide +kernel, by decide +kernel⟩
theorem mX6_safe : gCV yX6_safe cX6_safe 2 (some .int) 1 := ⟨qI_yX6_safe, qS_yX6_safe, qC_yX6_safe, qN_X6, by decide +kernel, by decide +kernel⟩
theorem mX2_safeRings : gCV yX2_safeRings cX2_safeRings 6 (some .int) 1 := ⟨qI_yX2_safeRings, qS_yX2_safeRings, qC_yX2_safeRings, qN_X2, by decide +kernel, by decide +kernel⟩
theorem mX4_withoutRing : gCS yX4_withoutRing cX4_withoutRing 3 (some .int) 2 := ⟨qT_yX4_withoutRing, qC_yX4_withoutRing, qN_X4, by decide +kernel, by decide +kernel⟩
theorem mX6_rows : gCV yX6_rows cX6_rows 2 (some .int) 1 := ⟨qI_yX6_rows, qS_yX6_rows, qC_yX6_rows, qN_X6, by decide +kernel, by decide +kernel⟩
theorem mX2_wholeRows : gCV yX2_wholeRows cX2_wholeRows 3 (some .int) 1 := ⟨qI_yX2_wholeRows, qS_yX2_wholeRows, qC_yX2_wholeRows, qN_X2, by decide +kernel, by decide +kernel⟩
theorem mX2_rowsByLastSignal : gCV yX2_rowsByLastSignal cX2_rowsByLastSignal 5 (some .int) 1 := ⟨qI_yX2_rowsByLastSignal, qS_yX2_rowsByLastSignal, qC_yX2_rowsByLastSignal, qN_X2, by decide +kernel, by decide +kernel⟩
theorem mX6_setFog : gCV yX6_setFog cX6_setFog 4 (some .int) 2 := ⟨qI_yX6_setFog, qS_yX6_setFog, qC_yX6_setFog, qN_X6, by decide +kernel, by decide +kernel⟩
theorem mX6_rebuild : gCV yX6_rebuild cX6_rebuild 4 (some .int) 2 := ⟨qI_yX6_rebuild, qS_yX6_rebuild, qC_yX6_rebuild, qN_X6, by decide +kernel, by decide +kernel⟩
theorem mX6_setToll : gCV yX6_setToll cX6_setToll 4 (some .int) 2 := ⟨qI_yX6_setToll, qS_yX6_setToll, qC_yX6_setToll, qN_X6, by decide +kernel, by decide +kernel⟩
theorem mX6_come : gCV yX6_come cX6_come 8 (some .int) 6 := ⟨qI_yX6_come, qS_yX6_come, qC_yX6_come, qN_X6, by decide +kernel, by decide +kernel⟩
theorem mX0_newCart : gCV yX0_newCart cX0_newCart 1 (some (.object "FogBridge$Cart")) 0 := ⟨qI_yX0_newCart, qS_yX0_newCart, qC_yX0_newCart, qN_X0, by decide +kernel, by decide +kernel⟩
theorem mX6_cart : gCV yX6_cart cX6_cart 4 (some .int) 2 := ⟨qI_yX6_cart, qS_yX6_cart, qC_yX6_cart, qN_X6, by decide +kernel, by decide +kernel⟩
theorem mX6_queue : gCV yX6_queue cX6_queue 3 (some .int) 2 := ⟨qI_yX6_queue, qS_yX6_queue, qC_yX6_queue, qN_X6, by decide +kernel, by decide +kernel⟩
theorem mX6_box : gCV yX6_box cX6_box 3 (some .int) 2 := ⟨qI_yX6_box, qS_yX6_box, qC_yX6_box, qN_X6, by decide +kernel, by decide +kernel⟩
theorem mX6_empty : gCV yX6_empty cX6_empty 4 (some .int) 1 := ⟨qI_yX6_empty, qS_yX6_empty, qC_yX6_empty, qN_X6, by decide +kernel, by decide +kernel⟩
theorem mX6_pass : gCV yX6_pass cX6_pass 2 (some .int) 1 := ⟨qI_yX6_pass, qS_yX6_pass, qC_yX6_pass, qN_X6, by decide +kernel, by decide +kernel⟩
theorem mX6_count : gCV yX6_count cX6_count 2 (some .int) 1 := ⟨qI_yX6_count, qS_yX6_count, qC_yX6_count, qN_X6, by decide +kernel, by decide +kernel⟩
theorem mX6_over : gCV yX6_over cX6_over 3 (some .int) 1 := ⟨qI_yX6_over, qS_yX6_over, qC_yX6_over, qN_X6, by decide +kernel, by decide +kernel⟩
theorem mX0_isOver : gCV yX0_isOver cX0_isOver 3 (some .boolean) 1 := ⟨qI_yX0_isOver, qS_yX0_isOver, qC_yX0_isOver, qN_X0, by decide +kernel, by decide +kernel⟩
theorem mX6_foresee : gCV yX6_foresee cX6_foresee 4 (some .int) 2 := ⟨qI_yX6_foresee, qS_yX6_foresee, qC_yX6_foresee, qN_X6, by decide +kernel, by decide +kernel⟩
theorem mX0_coinsInBoxes : gCV yX0_coinsInBoxes cX0_coinsInBoxes 1 (some .int) 0 := ⟨qI_yX0_coinsInBoxes, qS_yX0_coinsInBoxes, qC_yX0_coinsInBoxes, qN_X0, by decide +kernel, by decide +kernel⟩
theorem mX8_thrown : gCV yX8_thrown cX8_thrown 1 (some .int) 0 := ⟨qI_yX8_thrown, qS_yX8_thrown, qC_yX8_thrown, qN_X8, by decide +kernel, by decide +kernel⟩
theorem mX8_addSignal : gCV yX8_addSignal cX8_addSignal 3 (some .int) 1 := ⟨qI_yX8_addSignal, qS_yX8_addSignal, qC_yX8_addSignal, qN_X8, by decide +kernel, by decide +kernel⟩
theorem mX8_isRow : gCS yX8_isRow cX8_isRow 4 (some .boolean) 2 := ⟨qT_yX8_isRow, qC_yX8_isRow, qN_X8, by decide +kernel, by decide +kernel⟩
theorem mX8_length : gCS yX8_length cX8_length 3 (some .int) 1 := ⟨qT_yX8_length, qC_yX8_length, qN_X8, by decide +kernel, by decide +kernel⟩
theorem mX8_isIn : gCS yX8_isIn cX8_isIn 3 (some .boolean) 3 := ⟨qT_yX8_isIn, qC_yX8_isIn, qN_X8, by decide +kernel, by decide +kernel⟩
theorem mX8_no : gCV yX8_no cX8_no 2 (some .int) 1 := ⟨qI_yX8_no, qS_yX8_no, qC_yX8_no, qN_X8, by decide +kernel, by decide +kernel⟩
theorem mX8_begins : gCS yX8_begins cX8_begins 3 (some .boolean) 2 := ⟨qT_yX8_begins, qC_yX8_begins, qN_X8, by decide +kernel, by decide +kernel⟩
theorem mX8_ten : gCS yX8_ten cX8_ten 3 (some .int) 1 := ⟨qT_yX8_ten, qC_yX8_ten, qN_X8, by decide +kernel, by decide +kernel⟩
theorem mX8_read : gCV yX8_read cX8_read 7 (some .int) 2 := ⟨qI_yX8_read, qS_yX8_read, qC_yX8_read, qN_X8, by decide +kernel, by decide +kernel⟩
theorem mX8_beginning : gCV yX8_beginning cX8_beginning 3 (some .int) 1 := ⟨qI_yX8_beginning, qS_yX8_beginning, qC_yX8_beginning, qN_X8, by decide +kernel, by decide +kernel⟩
theorem mX8_behind : gCV yX8_behind cX8_behind 3 (some .int) 2 := ⟨qI_yX8_behind, qS_yX8_behind, qC_yX8_behind, qN_X8, by decide +kernel, by decide +kernel⟩
theorem mX8_heard : gCV yX8_heard cX8_heard 6 (some .int) 1 := ⟨qI_yX8_heard, qS_yX8_heard, qC_yX8_heard, qN_X8, by decide +kernel, by decide +kernel⟩
theorem mX8_isSignal : gCV yX8_isSignal cX8_isSignal 2 (some .boolean) 1 := ⟨qI_yX8_isSignal, qS_yX8_isSignal, qC_yX8_isSignal, qN_X8, by decide +kernel, by decide +kernel⟩
theorem mX8_safe : gCV yX8_safe cX8_safe 4 (some .int) 1 := ⟨qI_yX8_safe, qS_yX8_safe, qC_yX8_safe, qN_X8, by decide +kernel, by decide +kernel⟩
theorem mX8_isWhole : gCV yX8_isWhole cX8_isWhole 4 (some .boolean) 1 := ⟨qI_yX8_isWhole, qS_yX8_isWhole, qC_yX8_isWhole, qN_X8, by decide +kernel, by decide +kernel⟩
theorem mX8_rows : gCV yX8_rows cX8_rows 5 (some .int) 1 := ⟨qI_yX8_rows, qS_yX8_rows, qC_yX8_rows, qN_X8, by decide +kernel, by decide +kernel⟩
theorem mX8_setFog : gCV yX8_setFog cX8_setFog 4 (some .int) 2 := ⟨qI_yX8_setFog, qS_yX8_setFog, qC_yX8_setFog, qN_X8, by decide +kernel, by decide +kernel⟩
theorem mX8_rebuild : gCV yX8_rebuild cX8_rebuild 4 (some .int) 2 := ⟨qI_yX8_rebuild, qS_yX8_rebuild, qC_yX8_rebuild, qN_X8, by decide +kernel, by decide +kernel⟩
theorem mX7_how : gCV yX7_how cX7_how 4 (some .int) 1 := ⟨qI_yX7_how, qS_yX7_how, qC_yX7_how, qN_X7, by decide +kernel, by decide +kernel⟩
theorem mX7_own : gCV yX7_own cX7_own 3 (some .int) 2 := ⟨qI_yX7_own, qS_yX7_own, qC_yX7_own, qN_X7, by decide +kernel, by decide +kernel⟩
theorem mX8_setToll : gCV yX8_setToll cX8_setToll 4 (some .int) 2 := ⟨qI_yX8_setToll, qS_yX8_setToll, qC_yX8_setToll, qN_X8, by decide +kernel, by decide +kernel⟩
theorem mX8_change : gCV yX8_change cX8_change 1 (some .int) 0 := ⟨qI_yX8_change, qS_yX8_change, qC_yX8_change, qN_X8, by decide +kernel, by decide +kernel⟩
theorem mX8_come : gCV yX8_come cX8_come 8 (some .int) 6 := ⟨qI_yX8_come, qS_yX8_come, qC_yX8_come, qN_X8, by decide +kernel, by decide +kernel⟩
theorem mX7_line : gCV yX7_line cX7_line 5 none 3 := ⟨qI_yX7_line, qS_yX7_line, qC_yX7_line, qN_X7, by decide +kernel, by decide +kernel⟩
theorem mX7_set : gCV yX7_set cX7_set 4 none 3 := ⟨qI_yX7_set, qS_yX7_set, qC_yX7_set, qN_X7, by decide +kernel, by decide +kernel⟩
theorem mX8_cart : gCV yX8_cart cX8_cart 3 (some .int) 2 := ⟨qI_yX8_cart, qS_yX8_cart, qC_yX8_cart, qN_X8, by decide +kernel, by decide +kernel⟩
theorem mX8_isCart : gCV yX8_isCart cX8_isCart 2 (some .boolean) 1 := ⟨qI_yX8_isCart, qS_yX8_isCart, qC_yX8_isCart, qN_X8, by decide +kernel, by decide +kernel⟩
theorem mX8_cartTold : gCV yX8_cartTold cX8_cartTold 3 (some .int) 2 := ⟨qI_yX8_cartTold, qS_yX8_cartTold, qC_yX8_cartTold, qN_X8, by decide +kernel, by decide +kernel⟩
theorem mX8_queue : gCV yX8_queue cX8_queue 3 (some .int) 2 := ⟨qI_yX8_queue, qS_yX8_queue, qC_yX8_queue, qN_X8, by decide +kernel, by decide +kernel⟩
theorem mX8_box : gCV yX8_box cX8_box 3 (some .int) 2 := ⟨qI_yX8_box, qS_yX8_box, qC_yX8_box, qN_X8, by decide +kernel, by decide +kernel⟩
theorem mX8_empty : gCV yX8_empty cX8_empty 3 (some .int) 1 := ⟨qI_yX8_empty, qS_yX8_empty, qC_yX8_empty, qN_X8, by decide +kernel, by decide +kernel⟩
theorem mX8_pass : gCV yX8_pass cX8_pass 4 (some .int) 1 := ⟨qI_yX8_pass, qS_yX8_pass, qC_yX8_pass, qN_X8, by decide +kernel, by decide +kernel⟩
theorem mX7_pass : gCV yX7_pass cX7_pass 4 (some .int) 0 := ⟨qI_yX7_pass, qS_yX7_pass, qC_yX7_pass, qN_X7, by decide +kernel, by decide +kernel⟩
theorem mX7_move : gCV yX7_move cX7_move 6 none 1 := ⟨qI_yX7_move, qS_yX7_move, qC_yX7_move, qN_X7, by decide +kernel, by decide +kernel⟩
theorem mX7_leave : gCV yX7_leave cX7_leave 2 none 1 := ⟨qI_yX7_leave, qS_yX7_leave, qC_yX7_leave, qN_X7, by decide +kernel, by decide +kernel⟩
theorem mX7_comeOn : gCV yX7_comeOn cX7_comeOn 5 none 0 := ⟨qI_yX7_comeOn, qS_yX7_comeOn, qC_yX7_comeOn, qN_X7, by decide +kernel, by decide +kernel⟩
theorem mX7_isBack : gCV yX7_isBack cX7_isBack 3 (some .boolean) 0 := ⟨qI_yX7_isBack, qS_yX7_isBack, qC_yX7_isBack, qN_X7, by decide +kernel, by decide +kernel⟩
theorem mX7_weight : gCV yX7_weight cX7_weight 3 (some .int) 0 := ⟨qI_yX7_weight, qS_yX7_weight, qC_yX7_weight, qN_X7, by decide +kernel, by decide +kernel⟩
theorem mX7_first : gCV yX7_first cX7_first 3 (some .int) 1 := ⟨qI_yX7_first, qS_yX7_first, qC_yX7_first, qN_X7, by decide +kernel, by decide +kernel⟩
theorem mX8_count : gCV yX8_count cX8_count 2 (some .int) 1 := ⟨qI_yX8_count, qS_yX8_count, qC_yX8_count, qN_X8, by decide +kernel, by decide +kernel⟩
theorem mX8_counted : gCV yX8_counted cX8_counted 3 (some .int) 1 := ⟨qI_yX8_counted, qS_yX8_counted, qC_yX8_counted, qN_X8, by decide +kernel, by decide +kernel⟩
theorem mX8_over : gCV yX8_over cX8_over 4 (some .int) 1 := ⟨qI_yX8_over, qS_yX8_over, qC_yX8_over, qN_X8, by decide +kernel, by decide +kernel⟩
theorem mX7_become : gCV yX7_become cX7_become 2 none 1 := ⟨qI_yX7_become, qS_yX7_become, qC_yX7_become, qN_X7, by decide +kernel, by decide +kernel⟩
theorem mX7_copy : gCV yX7_copy cX7_copy 3 none 2 := ⟨qI_yX7_copy, qS_yX7_copy, qC_yX7_copy, qN_X7, by decide +kernel, by decide +kernel⟩
theorem mX8_keep : gCV yX8_keep cX8_keep 5 (some .int) 0 := ⟨qI_yX8_keep, qS_yX8_keep, qC_yX8_keep, qN_X8, by decide +kernel, by decide +kernel⟩
theorem mX8_overBy : gCV yX8_overBy cX8_overBy 3 (some .int) 1 := ⟨qI_yX8_overBy, qS_yX8_overBy, qC_yX8_overBy, qN_X8, by decide +kernel, by decide +kernel⟩
theorem mX8_foresee : gCV yX8_foresee cX8_foresee 4 (some .int) 2 := ⟨qI_yX8_foresee, qS_yX8_foresee, qC_yX8_foresee, qN_X8, by decide +kernel, by decide +kernel⟩
theorem mX8_mean : gCV yX8_mean cX8_mean 4 (some .double) 0 := ⟨qI_yX8_mean, qS_yX8_mean, qC_yX8_mean, qN_X8, by decide +kernel, by decide +kernel⟩
theorem mX8_digest : gCV yX8_digest cX8_digest 5 (some .long) 0 := ⟨qI_yX8_digest, qS_yX8_digest, qC_yX8_digest, qN_X8, by decide +kernel, by decide +kernel⟩
end
section
/-! rows of cart numbers -/
theorem ix1 {j k : Nat} (h : j < k) (hk : k < 2 ^ 31) : 0 ≤ nI j ∧ nI j < nI k := ⟨nI_pos' (by omega), nI_lt h hk⟩
theorem ixle {j k : Nat} (h : nI k ≤ nI j) (hj : j < 2 ^ 31) (hk : k < 2 ^ 31) : k ≤ j := (nI_leI hk hj).mp h
theorem ixnle {j k : Nat} (h : ¬ nI k ≤ nI j) (hj : j < 2 ^ 31) (hk : k < 2 ^ 31) : j < k := Nat.lt_of_not_le fun q => h ((nI_leI hk hj).mpr q)
theorem ixlt {j k : Nat} (h : nI j < nI k) (hj : j < 2 ^ 31) (hk : k < 2 ^ 31) : j < k := (nI_ltI hj hk).mp h
theorem ixnlt {j k : Nat} (h : ¬ nI j < nI k) (hj : j < 2 ^ 31) (hk : k < 2 ^ 31) : k ≤ j := Nat.le_of_not_lt fun q => h ((nI_ltI hj hk).mpr q)
theorem ixle0 {j : Nat} (h : nI j ≤ 0) (hj : j < 2 ^ 31) : j = 0 := Nat.le_zero.mp (ixle (j := 0) (k := j) h (by decide) hj)
theorem ixnle0 {j : Nat} (h : ¬ nI j ≤ 0) (hj : j < 2 ^ 31) : 0 < j := ixnle (j := 0) (k := j) h (by decide) hj
def RowIs (V : gMem) (b r : Nat) (xs : List Nat) : Prop := V 13 b r 1 = nI xs.length ∧ xs.length ≤ 16 ∧ ∀ (j : Nat) (h : j < xs.length), V 14 b r j = nI xs[j]
/-- nothing but one row of a bridge is another one -/
def rowmod (V V' : gMem) (b r : Nat) : Prop := ∀ K b' i', ¬ ((K = 13 ∨ K = 14) ∧ b' = b ∧ i' = r) → V' K b' i' = V K b' i'
def lat (xs : List Nat) (j : Nat) : Int32 := match xs[j]? with
  | some c => nI c
  | none => -1
theorem lat_in {xs : List Nat} {j : Nat} (h : j < xs.length) : lat xs j = nI xs[j] := by simp [lat, h]
theorem lat_out {xs : List Nat} {j : Nat} (h : xs.length ≤ j) : lat xs j = -1 := by simp [lat, h]

abbrev rmX6_isIndex : Room := { frames := 0, cells := 0, slots := 0, locals := 0 }
set_option maxRecDepth 20000 in
theorem k_isIndex1 {l : Launch} {B : gB} (hI : gI B) (V : gMem) (x : Int32) (y : Int32) (h0 : 0 ≤ x) (h1 : x < y) : gM l B yX6_isIndex cX6_isIndex 2 (some .boolean) rmX6_isIndex [.int x, .int y] V (fun v V' => v = some (.int 1) ∧ V' = V) := by
  refine gM_of (own := RX6) (L := [(0, .int x), (1, .int y)]) (by decide +kernel) rfl hI (Nat.le_of_ble_eq_true rfl) rfl ?_
  intro Z hnL hR X F
  refine g_iload_n X 0 rfl dX6_isIndex_0 ?_
  refine g_if_lt X 13 (by decide) dX6_isIndex_1 (fun c1 => ?_) (fun c1 => ?_)
  · first | exact absurd (Int32.not_lt.mpr h0) c1 | exact absurd c1 (Int32.not_lt.mpr h0)
  · refine g_iload_n X 0 rfl dX6_isIndex_4 ?_
    refine g_iload_n X 1 rfl dX6_isIndex_5 ?_
    refine g_icmp_ge X 13 (by decide) dX6_isIndex_6 (fun c2 => ?_) (fun c2 => ?_)
    · first | exact absurd (Int32.not_le.mpr h1) c2 | exact absurd c2 (Int32.not_le.mpr h1)
    · refine g_iconst X 1 (by decide) dX6_isIndex_9 ?_
      refine g_goto X 14 (by decide) dX6_isIndex_10 ?_
      refine g_zret X F rfl ?_ rfl dX6_isIndex_14
      exact ⟨rfl, rfl⟩

set_option maxRecDepth 20000 in
theorem k_isIndexN {l : Launch} {B : gB} (hI : gI B) (V : gMem) (x : Int32) (y : Int32) (h0 : x < 0) : gM l B yX6_isIndex cX6_isIndex 2 (some .boolean) rmX6_isIndex [.int x, .int y] V (fun v V' => v = some (.int 0) ∧ V' = V) := by
  refine gM_of (own := RX6) (L := [(0, .int x), (1, .int y)]) (by decide +kernel) rfl hI (Nat.le_of_ble_eq_true rfl) rfl ?_
  intro Z hnL hR X F
  refine g_iload_n X 0 rfl dX6_isIndex_0 ?_
  refine g_if_lt X 13 (by decide) dX6_isIndex_1 (fun c1 => ?_) (fun c1 => ?_)
  · refine g_iconst X 0 (by decide) dX6_isIndex_13 ?_
    refine g_zret X F rfl ?_ rfl dX6_isIndex_14
    exact ⟨rfl, rfl⟩
  · first | exact absurd (h0) c1 | exact absurd c1 (h0)

set_option maxRecDepth 20000 in
theorem k_isIndexG {l : Launch} {B : gB} (hI : gI B) (V : gMem) (x : Int32) (y : Int32) (h0 : 0 ≤ x) (h1 : y ≤ x) : gM l B yX6_isIndex cX6_isIndex 2 (some .boolean) rmX6_isIndex [.int x, .int y] V (fun v V' => v = some (.int 0) ∧ V' = V) := by
  refine gM_of (own := RX6) (L := [(0, .int x), (1, .int y)]) (by decide +kernel) rfl hI (Nat.le_of_ble_eq_true rfl) rfl ?_
  intro Z hnL hR X F
  refine g_iload_n X 0 rfl dX6_isIndex_0 ?_
  refine g_if_lt X 13 (by decide) dX6_isIndex_1 (fun c1 => ?_) (fun c1 => ?_)
  · first | exact absurd (Int32.not_lt.mpr h0) c1 | exact absurd c1 (Int32.not_lt.mpr h0)
  · refine g_iload_n X 0 rfl dX6_isIndex_4 ?_
    refine g_iload_n X 1 rfl dX6_isIndex_5 ?_
    refine g_icmp_ge X 13 (by decide) dX6_isIndex_6 (fun c2 => ?_) (fun c2 => ?_)
    · refine g_iconst X 0 (by decide) dX6_isIndex_13 ?_
      refine g_zret X F rfl ?_ rfl dX6_isIndex_14
      exact ⟨rfl, rfl⟩
    · first | exact absurd (h1) c2 | exact absurd c2 (h1)

abbrev rmX5_at : Room := { frames := 1, cells := 0, slots := 0, locals := 21 }
set_option maxRecDepth 20000 in
theorem k_at {l : Launch} {B : gB} (hI : gI B) (V : gMem) (b : Nat) (r : Nat) (xs : List Nat) (j : Nat) (hb : b < 3) (hr : r < 3) (hx : RowIs V b r xs) (hj : j < 2 ^ 31) : gM l B yX5_at cX5_at 2 (some .int) rmX5_at [.ref (B.2.1 13 b r), .int (nI j)] V (fun v V' => v = some (.int (lat xs j)) ∧ V' = V) := by
  refine gM_of (own := RX5) (L := [(0, .ref (B.2.1 13 b r)), (1, .int (nI j))]) (by decide +kernel) rfl hI (Nat.le_of_ble_eq_true rfl) rfl ?_
  intro Z hnL hR X F
  refine g_iload_n X 1 rfl dX5_at_0 ?_
  refine g_aload_n X 0 rfl dX5_at_1 ?_
  refine gg_X5_size X (gP_13 (by first | assumption | decide | omega) (by first | assumption | decide | omega)) fX5_15 dX5_at_2 ?_
  refine gG_top (nI xs.length) (hx.1) ?_
  refine g_icmp_ge X 29 (by decide) dX5_at_5 (fun c1 => ?_) (fun c1 => ?_)
  · refine g_iconst X (-1) (by decide) dX5_at_29 ?_
    refine g_iret X F ?_ rfl dX5_at_30
    exact ⟨by rw [lat_out (ixle c1 hj (by have := hx.2.1; omega))], rfl⟩
  · have hj2 : j < xs.length := ixnle c1 hj (by have := hx.2.1; omega)
    have hj3 : j < 16 := by have := hx.2.1; omega
    refine g_iload_n X 1 rfl dX5_at_8 ?_
    refine g_aload_n X 0 rfl dX5_at_9 ?_
    refine gg_X5_carts X (gP_13 (by first | assumption | decide | omega) (by first | assumption | decide | omega)) fX5_9 dX5_at_10 ?_
    refine g_alen X (v := 16) (gP_14 (by first | assumption | decide | omega) (by first | assumption | decide | omega)) rfl (by decide) dX5_at_13 ?_
    refine g_callS X hR (As := [.int (nI j), .int 16]) (rest := []) mX6_isIndex lX5_19 (k_isIndex1 hI V (nI j) 16 (nI_pos' (by omega)) (nI_lt (b := 16) hj3 (by decide))) rfl rfl (Nat.le_of_ble_eq_true rfl) ⟨Nat.le_of_ble_eq_true rfl, Nat.le_of_ble_eq_true rfl, Nat.le_of_ble_eq_true rfl, Nat.le_of_ble_eq_true rfl⟩ dX5_at_14 (fun r2 V3 h4 => ?_)
    refine gG_ret h4.1 h4.2 ?_
    refine gG_st [.int 1] rfl ?_
    refine g_if_eq X 29 (by decide) dX5_at_17 (fun c5 => ?_) (fun c5 => ?_)
    ·  exact absurd c5 (by decide)
    · refine g_aload_n X 0 rfl dX5_at_20 ?_
      refine gg_X5_carts X (gP_13 (by first | assumption | decide | omega) (by first | assumption | decide | omega)) fX5_9 dX5_at_21 ?_
      refine g_iload_n X 1 rfl dX5_at_24 ?_
      refine g_ialdN X (j) rfl hj3 (by decide) (gP_14 (by first | assumption | decide | omega) (by first | assumption | decide | omega)) rfl dX5_at_25 ?_
      refine g_goto X 30 (by decide) dX5_at_26 ?_
      refine g_iret X F ?_ rfl dX5_at_30
      exact ⟨by rw [lat_in hj2, hx.2.2 j hj2], rfl⟩

set_option maxRecDepth 20000 in
theorem k_at_m1 {l : Launch} {B : gB} (hI : gI B) (V : gMem) (b : Nat) (r : Nat) (xs : List Nat) (hb : b < 3) (hr : r < 3) (hx : RowIs V b r xs) : gM l B yX5_at cX5_at 2 (some .int) rmX5_at [.ref (B.2.1 13 b r), .int ((-1))] V (fun v V' => v = some (.int (-1)) ∧ V' = V) := by
  refine gM_of (own := RX5) (L := [(0, .ref (B.2.1 13 b r)), (1, .int ((-1)))]) (by decide +kernel) rfl hI (Nat.le_of_ble_eq_true rfl) rfl ?_
  intro Z hnL hR X F
  refine g_iload_n X 1 rfl dX5_at_0 ?_
  refine g_aload_n X 0 rfl dX5_at_1 ?_
  refine gg_X5_size X (gP_13 (by first | assumption | decide | omega) (by first | assumption | decide | omega)) fX5_15 dX5_at_2 ?_
  refine gG_top (nI xs.length) (hx.1) ?_
  refine g_icmp_ge X 29 (by decide) dX5_at_5 (fun c1 => ?_) (fun c1 => ?_)
  · exact absurd c1 (fun q => absurd (Int32.le_trans (nI_pos' (by have := hx.2.1; omega)) q) (by decide))
  · refine g_iload_n X 1 rfl dX5_at_8 ?_
    refine g_aload_n X 0 rfl dX5_at_9 ?_
    refine gg_X5_carts X (gP_13 (by first | assumption | decide | omega) (by first | assumption | decide | omega)) fX5_9 dX5_at_10 ?_
    refine g_alen X (v := 16) (gP_14 (by first | assumption | decide | omega) (by first | assumption | decide | omega)) rfl (by decide) dX5_at_13 ?_
    refine g_callS X hR (As := [.int ((-1)), .int 16]) (rest := []) mX6_isIndex lX5_19 (k_isIndexN hI V (-1) 16 (by decide)) rfl rfl (Nat.le_of_ble_eq_true rfl) ⟨Nat.le_of_ble_eq_true rfl, Nat.le_of_ble_eq_true rfl, Nat.le_of_ble_eq_true rfl, Nat.le_of_ble_eq_true rfl⟩ dX5_at_14 (fun r2 V3 h4 => ?_)
    refine gG_ret h4.1 h4.2 ?_
    refine gG_st [.int 0] rfl ?_
    refine g_if_eq X 29 (by decide) dX5_at_17 (fun c5 => ?_) (fun c5 => ?_)
    · refine g_iconst X (-1) (by decide) dX5_at_29 ?_
      refine g_iret X F ?_ rfl dX5_at_30
      exact ⟨rfl, rfl⟩
    ·  exact absurd c5 (by decide)

def llast (xs : List Nat) : Int32 := if xs.length = 0 then -1 else lat xs (xs.length - 1)
theorem nI_dec {k : Nat} (h : 0 < k) : nI k - 1 = nI (k - 1) := by
  obtain ⟨j, rfl⟩ : ∃ j, k = j + 1 := ⟨k - 1, by omega⟩
  exact nI_pred j
theorem RowIs.lt {V : gMem} {b r : Nat} {xs : List Nat} (h : RowIs V b r xs) : xs.length < 2 ^ 31 := by have := h.2.1; omega
theorem gup_ne {V : gMem} {K b i j : Nat} {x : Int32} {K' b' i' j' : Nat} (h : ¬ (K' = K ∧ b' = b ∧ i' = i ∧ j' = j)) : gup V K b i j x K' b' i' j' = V K' b' i' j' := by
  simp only [gup]
  rw [if_neg h]
theorem gup_eq {V : gMem} {K b i j : Nat} {x : Int32} : gup V K b i j x K b i j = x := by simp [gup]
theorem rowmod.rf {V : gMem} {b r : Nat} : rowmod V V b r := fun _ _ _ _ => rfl
theorem rowmod.trans {V V1 V2 : gMem} {b r : Nat} (h : rowmod V V1 b r) (h2 : rowmod V1 V2 b r) : rowmod V V2 b r := fun K b' i' hn => (h2 K b' i' hn).trans (h K b' i' hn)
theorem rowmod.up13 {V V1 : gMem} {b r j : Nat} {x : Int32} (h : rowmod V V1 b r) : rowmod V (gup V1 13 b r j x) b r := fun K b' i' hn => (gup_off V1 x (fun q => hn ⟨Or.inl q.1, q.2.1, q.2.2⟩)).trans (h K b' i' hn)
theorem rowmod.up14 {V V1 : gMem} {b r j : Nat} {x : Int32} (h : rowmod V V1 b r) : rowmod V (gup V1 14 b r j x) b r := fun K b' i' hn => (gup_off V1 x (fun q => hn ⟨Or.inr q.1, q.2.1, q.2.2⟩)).trans (h K b' i' hn)

abbrev rmX5_last : Room := { frames := 2, cells := 0, slots := 0, locals := 42 }
set_option maxRecDepth 20000 in
theorem k_last {l : Launch} {B : gB} (hI : gI B) (V : gMem) (b : Nat) (r : Nat) (xs : List Nat) (hb : b < 3) (hr : r < 3) (hx : RowIs V b r xs) : gM l B yX5_last cX5_last 1 (some .int) rmX5_last [.ref (B.2.1 13 b r)] V (fun v V' => v = some (.int (llast xs)) ∧ V' = V) := by
  refine gM_of (own := RX5) (L := [(0, .ref (B.2.1 13 b r))]) (by decide +kernel) rfl hI (Nat.le_of_ble_eq_true rfl) rfl ?_
  intro Z hnL hR X F
  refine g_aload_n X 0 rfl dX5_last_0 ?_
  refine g_aload_n X 0 rfl dX5_last_1 ?_
  refine gg_X5_size X (gP_13 (by first | assumption | decide | omega) (by first | assumption | decide | omega)) fX5_15 dX5_last_2 ?_
  refine g_iconst X 1 (by decide) dX5_last_5 ?_
  refine g_isub X dX5_last_6 ?_
  by_cases he : xs.length = 0
  · refine gG_top (-1) (by rw [hx.1, he]; rfl) ?_
    refine g_callV X hR (rest := []) mX5_at lX5_23 (k_at_m1 hI V b r xs (by first | assumption | decide | omega) (by first | assumption | decide | omega) (by first | assumption | decide | omega)) rfl rfl (Nat.le_of_ble_eq_true rfl) (gP_13 (by first | assumption | decide | omega) (by first | assumption | decide | omega)) rfl rfl rfl ⟨Nat.le_of_ble_eq_true rfl, Nat.le_of_ble_eq_true rfl, Nat.le_of_ble_eq_true rfl, Nat.le_of_ble_eq_true rfl⟩ dX5_last_7 (fun r1 V2 h3 => ?_)
    refine gG_ret h3.1 h3.2 ?_
    refine gG_st [.int ((-1))] rfl ?_
    refine g_iret X F ?_ rfl dX5_last_10
    exact ⟨by rw [show llast xs = -1 from if_pos he], rfl⟩
  · refine gG_top (nI (xs.length - 1)) (by rw [hx.1]; exact nI_dec (by omega)) ?_
    refine g_callV X hR (rest := []) mX5_at lX5_23 (k_at hI V b r xs (xs.length - 1) (by first | assumption | decide | omega) (by first | assumption | decide | omega) (by first | assumption | decide | omega) (by have := hx.lt; omega)) rfl rfl (Nat.le_of_ble_eq_true rfl) (gP_13 (by first | assumption | decide | omega) (by first | assumption | decide | omega)) rfl rfl rfl ⟨Nat.le_of_ble_eq_true rfl, Nat.le_of_ble_eq_true rfl, Nat.le_of_ble_eq_true rfl, Nat.le_of_ble_eq_true rfl⟩ dX5_last_7 (fun r4 V5 h6 => ?_)
    refine gG_ret h6.1 h6.2 ?_
    refine gG_st [.int (lat xs (xs.length - 1))] rfl ?_
    refine g_iret X F ?_ rfl dX5_last_10
    exact ⟨by rw [show llast xs = lat xs (xs.length - 1) from if_neg he], rfl⟩

abbrev rmX5_addLast : Room := { frames := 1, cells := 0, slots := 0, locals := 21 }
set_option maxRecDepth 20000 in
theorem k_addLast {l : Launch} {B : gB} (hI : gI B) (V : gMem) (b : Nat) (r : Nat) (xs : List Nat) (c : Nat) (hb : b < 3) (hr : r < 3) (hx : RowIs V b r xs) (hl : xs.length < 16) : gM l B yX5_addLast cX5_addLast 2 none rmX5_addLast [.ref (B.2.1 13 b r), .int (nI c)] V (fun v V' => v = none ∧ RowIs V' b r (xs ++ [c]) ∧ rowmod V V' b r) := by
  refine gM_of (own := RX5) (L := [(0, .ref (B.2.1 13 b r)), (1, .int (nI c))]) (by decide +kernel) rfl hI (Nat.le_of_ble_eq_true rfl) rfl ?_
  intro Z hnL hR X F
  refine g_aload_n X 0 rfl dX5_addLast_0 ?_
  refine gg_X5_size X (gP_13 (by first | assumption | decide | omega) (by first | assumption | decide | omega)) fX5_15 dX5_addLast_1 ?_
  refine gG_top (nI xs.length) (hx.1) ?_
  refine g_aload_n X 0 rfl dX5_addLast_4 ?_
  refine gg_X5_carts X (gP_13 (by first | assumption | decide | omega) (by first | assumption | decide | omega)) fX5_9 dX5_addLast_5 ?_
  refine g_alen X (v := 16) (gP_14 (by first | assumption | decide | omega) (by first | assumption | decide | omega)) rfl (by decide) dX5_addLast_8 ?_
  refine g_callS X hR (As := [.int (nI xs.length), .int 16]) (rest := []) mX6_isIndex lX5_19 (k_isIndex1 hI V (nI xs.length) 16 (nI_pos' (by omega)) (nI_lt (b := 16) hl (by decide))) rfl rfl (Nat.le_of_ble_eq_true rfl) ⟨Nat.le_of_ble_eq_true rfl, Nat.le_of_ble_eq_true rfl, Nat.le_of_ble_eq_true rfl, Nat.le_of_ble_eq_true rfl⟩ dX5_addLast_9 (fun r1 V2 h3 => ?_)
  refine gG_ret h3.1 h3.2 ?_
  refine gG_st [.int 1] rfl ?_
  refine g_if_eq X 35 (by decide) dX5_addLast_12 (fun c4 => ?_) (fun c4 => ?_)
  ·  exact absurd c4 (by decide)
  · refine g_aload_n X 0 rfl dX5_addLast_15 ?_
    refine gg_X5_carts X (gP_13 (by first | assumption | decide | omega) (by first | assumption | decide | omega)) fX5_9 dX5_addLast_16 ?_
    refine g_aload_n X 0 rfl dX5_addLast_19 ?_
    refine gg_X5_size X (gP_13 (by first | assumption | decide | omega) (by first | assumption | decide | omega)) fX5_15 dX5_addLast_20 ?_
    refine gG_top (nI xs.length) (hx.1) ?_
    refine g_iload_n X 1 rfl dX5_addLast_23 ?_
    refine g_iastN X (xs.length) rfl hl (by decide) (gP_14 (by first | assumption | decide | omega) (by first | assumption | decide | omega)) (fun _ => rfl) dX5_addLast_24 ?_
    refine gG_nm (fun V5 hV5 => ?_)
    refine g_aload_n X 0 rfl dX5_addLast_25 ?_
    refine g_dup X rfl dX5_addLast_26 ?_
    refine gg_X5_size X (gP_13 (by first | assumption | decide | omega) (by first | assumption | decide | omega)) fX5_15 dX5_addLast_27 ?_
    refine gG_top (nI xs.length) (by rw [hV5, gup_ne (by simp)]; exact hx.1) ?_
    refine g_iconst X 1 (by decide) dX5_addLast_30 ?_
    refine g_iadd X dX5_addLast_31 ?_
    refine gG_top (nI (xs.length + 1)) (nI_1 _) ?_
    refine gp_X5_size X (gP_13 (by first | assumption | decide | omega) (by first | assumption | decide | omega)) fX5_15 dX5_addLast_32 ?_
    refine gG_nm (fun V6 hV6 => ?_)
    refine g_vret X F ?_ rfl dX5_addLast_35
    refine ⟨rfl, ⟨by rw [hV6, gup_eq]; simp only [List.length_append, List.length_singleton], by simp only [List.length_append, List.length_singleton]; omega, fun j hj => ?_⟩, ?_⟩
    · rw [hV6, gup_ne (by simp), hV5]
      simp only [List.length_append, List.length_singleton] at hj
      by_cases he : j = xs.length
      · subst he
        rw [gup_eq]
        simp
      · rw [gup_ne (by simp [he]), hx.2.2 j (by omega), List.getElem_append_left (by omega)]
    · rw [hV6, hV5]
      exact rowmod.rf.up14.up13

abbrev rmX5_addFirst : Room := { frames := 1, cells := 0, slots := 0, locals := 21 }
set_option maxRecDepth 20000 in
theorem k_addFirst {l : Launch} {B : gB} (hI : gI B) (V : gMem) (b : Nat) (r : Nat) (xs : List Nat) (c : Nat) (hb : b < 3) (hr : r < 3) (hx : RowIs V b r xs) (hl : xs.length < 16) : gM l B yX5_addFirst cX5_addFirst 3 none rmX5_addFirst [.ref (B.2.1 13 b r), .int (nI c)] V (fun v V' => v = none ∧ RowIs V' b r (c :: xs) ∧ rowmod V V' b r) := by
  refine gM_of (own := RX5) (L := [(0, .ref (B.2.1 13 b r)), (1, .int (nI c))]) (by decide +kernel) rfl hI (Nat.le_of_ble_eq_true rfl) rfl ?_
  intro Z hnL hR X F
  refine g_aload_n X 0 rfl dX5_addFirst_0 ?_
  refine gg_X5_size X (gP_13 (by first | assumption | decide | omega) (by first | assumption | decide | omega)) fX5_15 dX5_addFirst_1 ?_
  refine gG_top (nI xs.length) (hx.1) ?_
  refine g_aload_n X 0 rfl dX5_addFirst_4 ?_
  refine gg_X5_carts X (gP_13 (by first | assumption | decide | omega) (by first | assumption | decide | omega)) fX5_9 dX5_addFirst_5 ?_
  refine g_alen X (v := 16) (gP_14 (by first | assumption | decide | omega) (by first | assumption | decide | omega)) rfl (by decide) dX5_addFirst_8 ?_
  refine g_callS X hR (As := [.int (nI xs.length), .int 16]) (rest := []) mX6_isIndex lX5_19 (k_isIndex1 hI V (nI xs.length) 16 (nI_pos' (by omega)) (nI_lt (b := 16) hl (by decide))) rfl rfl (Nat.le_of_ble_eq_true rfl) ⟨Nat.le_of_ble_eq_true rfl, Nat.le_of_ble_eq_true rfl, Nat.le_of_ble_eq_true rfl, Nat.le_of_ble_eq_true rfl⟩ dX5_addFirst_9 (fun r1 V2 h3 => ?_)
  refine gG_ret h3.1 h3.2 ?_
  refine gG_st [.int 1] rfl ?_
  refine g_if_eq X 61 (by decide) dX5_addFirst_12 (fun c4 => ?_) (fun c4 => ?_)
  ·  exact absurd c4 (by decide)
  · refine g_aload_n X 0 rfl dX5_addFirst_15 ?_
    refine gg_X5_size X (gP_13 (by first | assumption | decide | omega) (by first | assumption | decide | omega)) fX5_15 dX5_addFirst_16 ?_
    refine gG_top (nI xs.length) (hx.1) ?_
    refine g_istore_n X rfl dX5_addFirst_19 [(2, .int (nI xs.length)), (0, .ref (B.2.1 13 b r)), (1, .int (nI c))] rfl (gnl_lt hnL (by decide)) ?_
    refine gG_L [1, 2, 0] (L' := [(0, .ref (B.2.1 13 b r)), (1, .int (nI c)), (2, .int (nI xs.length))]) rfl ?_
    have loop : ∀ (k : Nat) (V1 : gMem), k ≤ xs.length → rowmod V V1 b r → V1 13 b r 1 = nI xs.length → (∀ j (h : j < xs.length), j < k → V1 14 b r j = nI xs[j]) → (∀ j (h : j < xs.length), k ≤ j → V1 14 b r (j + 1) = nI xs[j]) → gG Z B (0, 0) V1 20 [(0, .ref (B.2.1 13 b r)), (1, .int (nI c)), (2, .int (nI k))] [] := by
      intro k
      induction k with
      | zero =>
        intro V1 hk hm h1 h2 h3
        refine g_iload_n X 2 rfl dX5_addFirst_20 ?_
        refine g_if_le X 44 (by decide) dX5_addFirst_21 (fun c5 => ?_) (fun c5 => ?_)
        · refine g_aload_n X 0 rfl dX5_addFirst_44 ?_
          refine gg_X5_carts X (gP_13 (by first | assumption | decide | omega) (by first | assumption | decide | omega)) fX5_9 dX5_addFirst_45 ?_
          refine g_iconst X 0 (by decide) dX5_addFirst_48 ?_
          refine g_iload_n X 1 rfl dX5_addFirst_49 ?_
          refine g_iastN X (0) rfl (by decide) (by decide) (gP_14 (by first | assumption | decide | omega) (by first | assumption | decide | omega)) (fun _ => rfl) dX5_addFirst_50 ?_
          refine gG_nm (fun V6 hV6 => ?_)
          refine g_aload_n X 0 rfl dX5_addFirst_51 ?_
          refine g_dup X rfl dX5_addFirst_52 ?_
          refine gg_X5_size X (gP_13 (by first | assumption | decide | omega) (by first | assumption | decide | omega)) fX5_15 dX5_addFirst_53 ?_
          refine gG_top (nI xs.length) (by rw [hV6, gup_ne (by simp)]; exact h1) ?_
          refine g_iconst X 1 (by decide) dX5_addFirst_56 ?_
          refine g_iadd X dX5_addFirst_57 ?_
          refine gG_top (nI (xs.length + 1)) (nI_1 _) ?_
          refine gp_X5_size X (gP_13 (by first | assumption | decide | omega) (by first | assumption | decide | omega)) fX5_15 dX5_addFirst_58 ?_
          refine gG_nm (fun V7 hV7 => ?_)
          refine g_vret X F ?_ rfl dX5_addFirst_61
          refine ⟨rfl, ⟨by rw [hV7, gup_eq]; simp only [List.length_cons], by simp only [List.length_cons]; omega, fun j hj => ?_⟩, ?_⟩
          · rw [hV7, gup_ne (by simp), hV6]
            simp only [List.length_cons] at hj
            cases j with
            | zero => rw [gup_eq]; rfl
            | succ j => rw [gup_ne (by omega), h3 j (by omega) (Nat.zero_le _)]; rfl
          · rw [hV7, hV6]
            exact hm.up14.up13
        · first | exact absurd (Int32.le_refl _) c5 | exact absurd c5 (Int32.le_refl _)
      | succ k ih =>
        intro V1 hk hm h1 h2 h3
        have hk16 : k + 1 < 17 := by have := hx.2.1; omega
        refine g_iload_n X 2 rfl dX5_addFirst_20 ?_
        refine g_if_le X 44 (by decide) dX5_addFirst_21 (fun c8 => ?_) (fun c8 => ?_)
        · first | exact absurd (nI_nle (by omega) (by omega)) c8 | exact absurd c8 (nI_nle (by omega) (by omega))
        · refine g_aload_n X 0 rfl dX5_addFirst_24 ?_
          refine gg_X5_carts X (gP_13 (by first | assumption | decide | omega) (by first | assumption | decide | omega)) fX5_9 dX5_addFirst_25 ?_
          refine g_iload_n X 2 rfl dX5_addFirst_28 ?_
          refine g_aload_n X 0 rfl dX5_addFirst_29 ?_
          refine gg_X5_carts X (gP_13 (by first | assumption | decide | omega) (by first | assumption | decide | omega)) fX5_9 dX5_addFirst_30 ?_
          refine g_iload_n X 2 rfl dX5_addFirst_33 ?_
          refine g_iconst X 1 (by decide) dX5_addFirst_34 ?_
          refine g_isub X dX5_addFirst_35 ?_
          refine gG_top (nI k) (nI_pred k) ?_
          refine g_ialdN X (k) rfl (by omega) (by decide) (gP_14 (by first | assumption | decide | omega) (by first | assumption | decide | omega)) rfl dX5_addFirst_36 ?_
          refine g_iastN X (k + 1) rfl (by omega) (by decide) (gP_14 (by first | assumption | decide | omega) (by first | assumption | decide | omega)) (fun _ => rfl) dX5_addFirst_37 ?_
          refine gG_nm (fun V9 hV9 => ?_)
          refine g_iinc X 2 rfl (nI k) (iinc_m1 k) dX5_addFirst_38 [(2, .int (nI k)), (0, .ref (B.2.1 13 b r)), (1, .int (nI c))] rfl (gnl_lt hnL (by decide)) ?_
          refine g_goto X 20 (by decide) dX5_addFirst_41 ?_
          refine gG_L [1, 2, 0] (L' := [(0, .ref (B.2.1 13 b r)), (1, .int (nI c)), (2, .int (nI k))]) rfl ?_
          refine ih V9 (by omega) (by rw [hV9]; exact hm.up14) (by rw [hV9, gup_ne (by simp)]; exact h1) (fun j h hj => ?_) (fun j h hj => ?_)
          · rw [hV9, gup_ne (by omega)]
            exact h2 j h (by omega)
          · by_cases he : j = k
            · subst he
              rw [hV9, gup_eq]
              exact h2 j h (by omega)
            · rw [hV9, gup_ne (by omega)]
              exact h3 j h (by omega)
    exact loop xs.length V (Nat.le_refl _) rowmod.rf hx.1 (fun j h _ => hx.2.2 j h) (fun j h hj => absurd h (by omega))

theorem RowIs.mod {V V' : gMem} {b r b2 r2 : Nat} {xs : List Nat} (h : RowIs V b2 r2 xs) (hm : rowmod V V' b r) (hne : ¬ (b2 = b ∧ r2 = r)) : RowIs V' b2 r2 xs := by
  have e1 := hm 13 b2 r2 (fun q => hne q.2)
  have e2 := hm 14 b2 r2 (fun q => hne q.2)
  exact ⟨by rw [e1]; exact h.1, h.2.1, fun j hj => by rw [e2]; exact h.2.2 j hj⟩

abbrev rmX5_removeFirst : Room := { frames := 0, cells := 0, slots := 0, locals := 0 }
set_option maxRecDepth 20000 in
theorem k_removeFirst {l : Launch} {B : gB} (hI : gI B) (V : gMem) (b : Nat) (r : Nat) (c : Nat) (ys : List Nat) (hb : b < 3) (hr : r < 3) (hx : RowIs V b r (c :: ys)) : gM l B yX5_removeFirst cX5_removeFirst 2 none rmX5_removeFirst [.ref (B.2.1 13 b r)] V (fun v V' => v = none ∧ RowIs V' b r (ys) ∧ rowmod V V' b r) := by
  refine gM_of (own := RX5) (L := [(0, .ref (B.2.1 13 b r))]) (by decide +kernel) rfl hI (Nat.le_of_ble_eq_true rfl) rfl ?_
  intro Z hnL hR X F
  have hlen : ys.length + 1 ≤ 16 := hx.2.1
  refine g_aload_n X 0 rfl dX5_removeFirst_0 ?_
  refine gg_X5_size X (gP_13 (by first | assumption | decide | omega) (by first | assumption | decide | omega)) fX5_15 dX5_removeFirst_1 ?_
  refine gG_top (nI (ys.length + 1)) (hx.1) ?_
  refine g_if_le X 58 (by decide) dX5_removeFirst_4 (fun c1 => ?_) (fun c1 => ?_)
  · first | exact absurd (nI_nle (by omega) (by omega)) c1 | exact absurd c1 (nI_nle (by omega) (by omega))
  · refine g_aload_n X 0 rfl dX5_removeFirst_7 ?_
    refine g_dup X rfl dX5_removeFirst_8 ?_
    refine gg_X5_size X (gP_13 (by first | assumption | decide | omega) (by first | assumption | decide | omega)) fX5_15 dX5_removeFirst_9 ?_
    refine gG_top (nI (ys.length + 1)) (hx.1) ?_
    refine g_iconst X 1 (by decide) dX5_removeFirst_12 ?_
    refine g_isub X dX5_removeFirst_13 ?_
    refine gG_top (nI ys.length) (nI_pred _) ?_
    refine gp_X5_size X (gP_13 (by first | assumption | decide | omega) (by first | assumption | decide | omega)) fX5_15 dX5_removeFirst_14 ?_
    refine gG_nm (fun V2 hV2 => ?_)
    refine g_iconst X 0 (by decide) dX5_removeFirst_17 ?_
    refine g_istore_n X rfl dX5_removeFirst_18 [(1, .int 0), (0, .ref (B.2.1 13 b r))] rfl (gnl_lt hnL (by decide)) ?_
    refine gG_L [1, 0] (L' := [(0, .ref (B.2.1 13 b r)), (1, .int 0)]) rfl ?_
    have loop : ∀ (f : Nat) (i : Nat) (V1 : gMem), i + f = ys.length → rowmod V V1 b r → V1 13 b r 1 = nI ys.length → (∀ j (h : j < ys.length), j < i → V1 14 b r j = nI ys[j]) → (∀ j (h : j < ys.length), i ≤ j → V1 14 b r (j + 1) = nI ys[j]) → gG Z B (0, 0) V1 19 [(0, .ref (B.2.1 13 b r)), (1, .int (nI i))] [] := by
      intro f
      induction f with
      | zero =>
        intro i V1 hf hm h1 h2 h3
        refine g_iload_n X 1 rfl dX5_removeFirst_19 ?_
        refine g_aload_n X 0 rfl dX5_removeFirst_20 ?_
        refine gg_X5_size X (gP_13 (by first | assumption | decide | omega) (by first | assumption | decide | omega)) fX5_15 dX5_removeFirst_21 ?_
        refine gG_top (nI ys.length) (h1) ?_
        refine g_icmp_ge X 58 (by decide) dX5_removeFirst_24 (fun c3 => ?_) (fun c3 => ?_)
        · refine g_vret X F ?_ rfl dX5_removeFirst_58
          exact ⟨rfl, ⟨h1, by omega, fun j hj => h2 j hj (by omega)⟩, hm⟩
        · first | exact absurd (nI_le (by omega) (by omega)) c3 | exact absurd c3 (nI_le (by omega) (by omega))
      | succ f ih =>
        intro i V1 hf hm h1 h2 h3
        refine g_iload_n X 1 rfl dX5_removeFirst_19 ?_
        refine g_aload_n X 0 rfl dX5_removeFirst_20 ?_
        refine gg_X5_size X (gP_13 (by first | assumption | decide | omega) (by first | assumption | decide | omega)) fX5_15 dX5_removeFirst_21 ?_
        refine gG_top (nI ys.length) (h1) ?_
        refine g_icmp_ge X 58 (by decide) dX5_removeFirst_24 (fun c4 => ?_) (fun c4 => ?_)
        · first | exact absurd (nI_ge (by omega) (by omega)) c4 | exact absurd c4 (nI_ge (by omega) (by omega))
        · refine g_iload_n X 1 rfl dX5_removeFirst_27 ?_
          refine g_iconst X 1 (by decide) dX5_removeFirst_28 ?_
          refine g_iadd X dX5_removeFirst_29 ?_
          refine gG_top (nI (i + 1)) (nI_1 _) ?_
          refine g_aload_n X 0 rfl dX5_removeFirst_30 ?_
          refine gg_X5_carts X (gP_13 (by first | assumption | decide | omega) (by first | assumption | decide | omega)) fX5_9 dX5_removeFirst_31 ?_
          refine g_alen X (v := 16) (gP_14 (by first | assumption | decide | omega) (by first | assumption | decide | omega)) rfl (by decide) dX5_removeFirst_34 ?_
          refine g_icmp_ge X 58 (by decide) dX5_removeFirst_35 (fun c5 => ?_) (fun c5 => ?_)
          · first | exact absurd (nI_ge (b := 16) (by omega) (by decide)) c5 | exact absurd c5 (nI_ge (b := 16) (by omega) (by decide))
          · refine g_aload_n X 0 rfl dX5_removeFirst_38 ?_
            refine gg_X5_carts X (gP_13 (by first | assumption | decide | omega) (by first | assumption | decide | omega)) fX5_9 dX5_removeFirst_39 ?_
            refine g_iload_n X 1 rfl dX5_removeFirst_42 ?_
            refine g_aload_n X 0 rfl dX5_removeFirst_43 ?_
            refine gg_X5_carts X (gP_13 (by first | assumption | decide | omega) (by first | assumption | decide | omega)) fX5_9 dX5_removeFirst_44 ?_
            refine g_iload_n X 1 rfl dX5_removeFirst_47 ?_
            refine g_iconst X 1 (by decide) dX5_removeFirst_48 ?_
            refine g_iadd X dX5_removeFirst_49 ?_
            refine gG_top (nI (i + 1)) (nI_1 _) ?_
            refine g_ialdN X (i + 1) rfl (by omega) (by decide) (gP_14 (by first | assumption | decide | omega) (by first | assumption | decide | omega)) rfl dX5_removeFirst_50 ?_
            refine g_iastN X (i) rfl (by omega) (by decide) (gP_14 (by first | assumption | decide | omega) (by first | assumption | decide | omega)) (fun _ => rfl) dX5_removeFirst_51 ?_
            refine gG_nm (fun V6 hV6 => ?_)
            refine g_iinc X 1 rfl (nI (i + 1)) (iinc_1 _) dX5_removeFirst_52 [(1, .int (nI (i + 1))), (0, .ref (B.2.1 13 b r))] rfl (gnl_lt hnL (by decide)) ?_
            refine g_goto X 19 (by decide) dX5_removeFirst_55 ?_
            refine gG_L [1, 0] (L' := [(0, .ref (B.2.1 13 b r)), (1, .int (nI (i + 1)))]) rfl ?_
            refine ih (i + 1) V6 (by omega) (by rw [hV6]; exact hm.up14) (by rw [hV6, gup_ne (by simp)]; exact h1) (fun j h hj => ?_) (fun j h hj => ?_)
            · by_cases he : j = i
              · subst he
                rw [hV6, gup_eq]
                exact h3 j h (Nat.le_refl _)
              · rw [hV6, gup_ne (by omega)]
                exact h2 j h (by omega)
            · rw [hV6, gup_ne (by omega)]
              exact h3 j h (by omega)
    exact loop ys.length 0 V2 (by omega) (by rw [hV2]; exact rowmod.rf.up13) (by rw [hV2, gup_eq]) (fun j h hj => absurd hj (by omega)) (fun j h _ => by rw [hV2, gup_ne (by simp)]; exact hx.2.2 (j + 1) (by simp only [List.length_cons]; omega))

abbrev rmX5_removeLast : Room := { frames := 0, cells := 0, slots := 0, locals := 0 }
set_option maxRecDepth 20000 in
theorem k_removeLast {l : Launch} {B : gB} (hI : gI B) (V : gMem) (b : Nat) (r : Nat) (xs : List Nat) (c : Nat) (hb : b < 3) (hr : r < 3) (hx : RowIs V b r (xs ++ [c])) : gM l B yX5_removeLast cX5_removeLast 1 none rmX5_removeLast [.ref (B.2.1 13 b r)] V (fun v V' => v = none ∧ RowIs V' b r (xs) ∧ rowmod V V' b r) := by
  refine gM_of (own := RX5) (L := [(0, .ref (B.2.1 13 b r))]) (by decide +kernel) rfl hI (Nat.le_of_ble_eq_true rfl) rfl ?_
  intro Z hnL hR X F
  have hlen : xs.length + 1 ≤ 16 := by have := hx.2.1; simpa using this
  have hsz : V 13 b r 1 = nI (xs.length + 1) := by have := hx.1; simpa using this
  refine g_aload_n X 0 rfl dX5_removeLast_0 ?_
  refine gg_X5_size X (gP_13 (by first | assumption | decide | omega) (by first | assumption | decide | omega)) fX5_15 dX5_removeLast_1 ?_
  refine gG_top (nI (xs.length + 1)) (hsz) ?_
  refine g_if_le X 17 (by decide) dX5_removeLast_4 (fun c1 => ?_) (fun c1 => ?_)
  · first | exact absurd (nI_nle (by omega) (by omega)) c1 | exact absurd c1 (nI_nle (by omega) (by omega))
  · refine g_aload_n X 0 rfl dX5_removeLast_7 ?_
    refine g_dup X rfl dX5_removeLast_8 ?_
    refine gg_X5_size X (gP_13 (by first | assumption | decide | omega) (by first | assumption | decide | omega)) fX5_15 dX5_removeLast_9 ?_
    refine gG_top (nI (xs.length + 1)) (hsz) ?_
    refine g_iconst X 1 (by decide) dX5_removeLast_12 ?_
    refine g_isub X dX5_removeLast_13 ?_
    refine gG_top (nI xs.length) (nI_pred _) ?_
    refine gp_X5_size X (gP_13 (by first | assumption | decide | omega) (by first | assumption | decide | omega)) fX5_15 dX5_removeLast_14 ?_
    refine gG_nm (fun V2 hV2 => ?_)
    refine g_vret X F ?_ rfl dX5_removeLast_17
    refine ⟨rfl, ⟨by rw [hV2, gup_eq], by omega, fun j hj => ?_⟩, by rw [hV2]; exact rowmod.rf.up13⟩
    rw [hV2, gup_ne (by simp), hx.2.2 j (by simp; omega), List.getElem_append_left hj]

abbrev rmX5_copyFrom : Room := { frames := 2, cells := 0, slots := 0, locals := 42 }
set_option maxRecDepth 20000 in
theorem k_rowCopy {l : Launch} {B : gB} (hI : gI B) (V : gMem) (b : Nat) (r : Nat) (b2 : Nat) (r2 : Nat) (xs : List Nat) (hb : b < 3) (hr : r < 3) (hb2 : b2 < 3) (hr2 : r2 < 3) (hne : ¬ (b2 = b ∧ r2 = r)) (hx : RowIs V b2 r2 xs) : gM l B yX5_copyFrom cX5_copyFrom 3 none rmX5_copyFrom [.ref (B.2.1 13 b r), .ref (B.2.1 13 b2 r2)] V (fun v V' => v = none ∧ RowIs V' b r (xs) ∧ rowmod V V' b r) := by
  refine gM_of (own := RX5) (L := [(0, .ref (B.2.1 13 b r)), (1, .ref (B.2.1 13 b2 r2))]) (by decide +kernel) rfl hI (Nat.le_of_ble_eq_true rfl) rfl ?_
  intro Z hnL hR X F
  have hlen : xs.length ≤ 16 := hx.2.1
  refine g_aload_n X 0 rfl dX5_copyFrom_0 ?_
  refine g_aload_n X 1 rfl dX5_copyFrom_1 ?_
  refine gg_X5_size X ⟨hb2, hr2⟩ fX5_15 dX5_copyFrom_2 ?_
  refine gG_top (nI xs.length) (hx.1) ?_
  refine gp_X5_size X (gP_13 (by first | assumption | decide | omega) (by first | assumption | decide | omega)) fX5_15 dX5_copyFrom_5 ?_
  refine gG_nm (fun V1 hV1 => ?_)
  refine g_iconst X 0 (by decide) dX5_copyFrom_8 ?_
  refine g_istore_n X rfl dX5_copyFrom_9 [(2, .int 0), (0, .ref (B.2.1 13 b r)), (1, .ref (B.2.1 13 b2 r2))] rfl (gnl_lt hnL (by decide)) ?_
  refine gG_L [1, 2, 0] (L' := [(0, .ref (B.2.1 13 b r)), (1, .ref (B.2.1 13 b2 r2)), (2, .int 0)]) rfl ?_
  have loop : ∀ (f : Nat) (i : Nat) (V1 : gMem), i + f = xs.length → rowmod V V1 b r → V1 13 b r 1 = nI xs.length → (∀ j (h : j < xs.length), j < i → V1 14 b r j = nI xs[j]) → gG Z B (0, 0) V1 10 [(0, .ref (B.2.1 13 b r)), (1, .ref (B.2.1 13 b2 r2)), (2, .int (nI i))] [] := by
    intro f
    induction f with
    | zero =>
      intro i V1 hf hm h1 h2
      refine g_iload_n X 2 rfl dX5_copyFrom_10 ?_
      refine g_aload_n X 0 rfl dX5_copyFrom_11 ?_
      refine gg_X5_size X (gP_13 (by first | assumption | decide | omega) (by first | assumption | decide | omega)) fX5_15 dX5_copyFrom_12 ?_
      refine gG_top (nI xs.length) (h1) ?_
      refine g_icmp_ge X 44 (by decide) dX5_copyFrom_15 (fun c2 => ?_) (fun c2 => ?_)
      · refine g_vret X F ?_ rfl dX5_copyFrom_44
        exact ⟨rfl, ⟨h1, hlen, fun j hj => h2 j hj (by omega)⟩, hm⟩
      · first | exact absurd (nI_le (by omega) (by omega)) c2 | exact absurd c2 (nI_le (by omega) (by omega))
    | succ f ih =>
      intro i V1 hf hm h1 h2
      refine g_iload_n X 2 rfl dX5_copyFrom_10 ?_
      refine g_aload_n X 0 rfl dX5_copyFrom_11 ?_
      refine gg_X5_size X (gP_13 (by first | assumption | decide | omega) (by first | assumption | decide | omega)) fX5_15 dX5_copyFrom_12 ?_
      refine gG_top (nI xs.length) (h1) ?_
      refine g_icmp_ge X 44 (by decide) dX5_copyFrom_15 (fun c3 => ?_) (fun c3 => ?_)
      · first | exact absurd (nI_ge (by omega) (by omega)) c3 | exact absurd c3 (nI_ge (by omega) (by omega))
      · refine g_iload_n X 2 rfl dX5_copyFrom_18 ?_
        refine g_aload_n X 0 rfl dX5_copyFrom_19 ?_
        refine gg_X5_carts X (gP_13 (by first | assumption | decide | omega) (by first | assumption | decide | omega)) fX5_9 dX5_copyFrom_20 ?_
        refine g_alen X (v := 16) (gP_14 (by first | assumption | decide | omega) (by first | assumption | decide | omega)) rfl (by decide) dX5_copyFrom_23 ?_
        refine g_icmp_ge X 44 (by decide) dX5_copyFrom_24 (fun c4 => ?_) (fun c4 => ?_)
        · first | exact absurd (nI_ge (b := 16) (by omega) (by decide)) c4 | exact absurd c4 (nI_ge (b := 16) (by omega) (by decide))
        · refine g_aload_n X 0 rfl dX5_copyFrom_27 ?_
          refine gg_X5_carts X (gP_13 (by first | assumption | decide | omega) (by first | assumption | decide | omega)) fX5_9 dX5_copyFrom_28 ?_
          refine g_iload_n X 2 rfl dX5_copyFrom_31 ?_
          refine g_aload_n X 1 rfl dX5_copyFrom_32 ?_
          refine g_iload_n X 2 rfl dX5_copyFrom_33 ?_
          refine g_callV X hR (rest := [.int (nI i), .ref (B.2.1 14 b r)]) mX5_at lX5_23 (k_at hI V1 b2 r2 xs i hb2 hr2 (hx.mod hm hne) (by omega)) rfl rfl (Nat.le_of_ble_eq_true rfl) ⟨hb2, hr2⟩ rfl rfl rfl ⟨Nat.le_of_ble_eq_true rfl, Nat.le_of_ble_eq_true rfl, Nat.le_of_ble_eq_true rfl, Nat.le_of_ble_eq_true rfl⟩ dX5_copyFrom_34 (fun r5 V6 h7 => ?_)
          refine gG_ret h7.1 h7.2 ?_
          refine gG_st [.int (lat xs i), .int (nI i), .ref (B.2.1 14 b r)] rfl ?_
          refine g_iastN X (i) rfl (by omega) (by decide) (gP_14 (by first | assumption | decide | omega) (by first | assumption | decide | omega)) (fun _ => rfl) dX5_copyFrom_37 ?_
          refine gG_nm (fun V8 hV8 => ?_)
          refine g_iinc X 2 rfl (nI (i + 1)) (iinc_1 _) dX5_copyFrom_38 [(2, .int (nI (i + 1))), (0, .ref (B.2.1 13 b r)), (1, .ref (B.2.1 13 b2 r2))] rfl (gnl_lt hnL (by decide)) ?_
          refine g_goto X 10 (by decide) dX5_copyFrom_41 ?_
          refine gG_L [1, 2, 0] (L' := [(0, .ref (B.2.1 13 b r)), (1, .ref (B.2.1 13 b2 r2)), (2, .int (nI (i + 1)))]) rfl ?_
          refine ih (i + 1) V8 (by omega) (by rw [hV8]; exact hm.up14) (by rw [hV8, gup_ne (by simp)]; exact h1) (fun j h hj => ?_)
          by_cases he : j = i
          · subst he
            rw [hV8, gup_eq]
            exact lat_in h
          · rw [hV8, gup_ne (by omega)]
            exact h2 j h (by omega)
  exact loop xs.length 0 V1 (by omega) (by rw [hV1]; exact rowmod.rf.up13) (by rw [hV1, gup_eq]) (fun j h hj => absurd hj (by omega))
end
section
/-! THE BRIDGE AS A VALUE: S = (numbers: 0 tick, 1 direction, 2 places, 3 bears, 4 axle toll, 5 toll for ten, 6 carts; rows: 0, 1 queues, 2 those on the bridge; boxes: 1 coins, 2 payers, 3 axles, 4 kept; carts: 1 end, 2 axles, 3 weight, 4 pace, 5 coins, 6 cheat, 7 paid, 8 state, 9 way; ticks of being over) -/
abbrev gSt : Type := (Nat → Nat) × (Nat → List Nat) × (Nat → Nat → Nat) × (Nat → Nat → Nat) × (Nat → Int32)
def AbsC (V : gMem) (b : Nat) (S : gSt) : Prop :=
  (∀ k, k < 7 → V 10 b 0 k = nI (S.1 k)) ∧ (∀ r, r < 3 → RowIs V b r (S.2.1 r)) ∧ (∀ e, e < 2 → ∀ k, 1 ≤ k → k ≤ 4 → V 12 b e k = nI (S.2.2.1 e k)) ∧
  (∀ i, i < S.1 6 → ∀ k, 1 ≤ k → k ≤ 9 → V 15 b i k = nI (S.2.2.2.1 i k)) ∧ (∀ i, i < S.1 6 → V 15 b i 10 = S.2.2.2.2 i) ∧ (∀ i, i < 16 → V 15 b i 0 = nI i)
def sN (S : gSt) (k v : Nat) : gSt := (fun k' => if k' = k then v else S.1 k', S.2)
def sQ (S : gSt) (r : Nat) (xs : List Nat) : gSt := (S.1, fun r' => if r' = r then xs else S.2.1 r', S.2.2)
def sG (S : gSt) (e k v : Nat) : gSt := (S.1, S.2.1, fun e' k' => if e' = e ∧ k' = k then v else S.2.2.1 e' k', S.2.2.2)
def sC (S : gSt) (i k v : Nat) : gSt := (S.1, S.2.1, S.2.2.1, fun i' k' => if i' = i ∧ k' = k then v else S.2.2.2.1 i' k', S.2.2.2.2)
def sO (S : gSt) (i : Nat) (v : Int32) : gSt := (S.1, S.2.1, S.2.2.1, S.2.2.2.1, fun i' => if i' = i then v else S.2.2.2.2 i')
/-- nothing but one bridge is another one -/
def brmod (V V' : gMem) (b : Nat) : Prop := ∀ K b' i', ¬ (10 ≤ K ∧ K ≤ 15 ∧ b' = b) → V' K b' i' = V K b' i'
theorem brmod.rf {V : gMem} {b : Nat} : brmod V V b := fun _ _ _ _ => rfl
theorem brmod.trans {V V1 V2 : gMem} {b : Nat} (h : brmod V V1 b) (h2 : brmod V1 V2 b) : brmod V V2 b := fun K b' i' hn => (h2 K b' i' hn).trans (h K b' i' hn)
theorem brmod.up {V V1 : gMem} {K b i j : Nat} {x : Int32} (h : brmod V V1 b) (hK : 10 ≤ K) (hK2 : K ≤ 15) : brmod V (gup V1 K b i j x) b := fun K' b' i' hn => (gup_off V1 x (fun q => hn ⟨by omega, by omega, q.2.1⟩)).trans (h K' b' i' hn)
theorem rowmod.br {V V' : gMem} {b r : Nat} (h : rowmod V V' b r) : brmod V V' b := fun K b' i' hn => h K b' i' (fun q => hn ⟨by omega, by omega, q.2.1⟩)
theorem RowIs.same {V V' : gMem} {b r : Nat} {xs : List Nat} (h : RowIs V b r xs) (e1 : V' 13 b r = V 13 b r) (e2 : V' 14 b r = V 14 b r) : RowIs V' b r xs := ⟨by rw [e1]; exact h.1, h.2.1, fun j hj => by rw [e2]; exact h.2.2 j hj⟩
theorem AbsC.bnd {V : gMem} {b : Nat} {S : gSt} (h : AbsC V b S) {r : Nat} (hr : r < 3) : (S.2.1 r).length ≤ 16 := (h.2.1 r hr).2.1
theorem AbsC.other {V V' : gMem} {b b' : Nat} {S : gSt} (h : AbsC V b S) (hm : brmod V V' b') (hne : b ≠ b') : AbsC V' b S := by
  have e : ∀ K i, V' K b i = V K b i := fun K i => hm K b i (fun q => hne q.2.2)
  exact ⟨fun k hk => by rw [e]; exact h.1 k hk, fun r hr => (h.2.1 r hr).same (e _ _) (e _ _), fun x hx k h1 h2 => by rw [e]; exact h.2.2.1 x hx k h1 h2, fun i hi k h1 h2 => by rw [e]; exact h.2.2.2.1 i hi k h1 h2, fun i hi => by rw [e]; exact h.2.2.2.2.1 i hi, fun i hi => by rw [e]; exact h.2.2.2.2.2 i hi⟩
theorem AbsC.setN {V : gMem} {b : Nat} {S : gSt} (h : AbsC V b S) (k v : Nat) (hk : k < 6) : AbsC (gup V 10 b 0 k (nI v)) b (sN S k v) := by
  have h6 : (sN S k v).1 6 = S.1 6 := if_neg (by omega)
  refine ⟨fun k' hk' => ?_, fun r hr => (h.2.1 r hr).same (gup_off _ _ (by simp)) (gup_off _ _ (by simp)), fun e he k' h1 h2 => ?_, fun i hi k' h1 h2 => ?_, fun i hi => ?_, fun i hi => ?_⟩
  · by_cases hq : k' = k
    · subst hq; rw [gup_eq]; simp [sN]
    · rw [gup_ne (by omega), h.1 k' hk']; simp [sN, hq]
  · rw [gup_ne (by simp)]; exact h.2.2.1 e he k' h1 h2
  · rw [gup_ne (by simp)]; exact h.2.2.2.1 i (h6 ▸ hi) k' h1 h2
  · rw [gup_ne (by simp)]; exact h.2.2.2.2.1 i (h6 ▸ hi)
  · rw [gup_ne (by simp)]; exact h.2.2.2.2.2 i hi
theorem AbsC.setG {V : gMem} {b : Nat} {S : gSt} (h : AbsC V b S) (e k v : Nat) : AbsC (gup V 12 b e k (nI v)) b (sG S e k v) := by
  refine ⟨fun k' hk' => ?_, fun r hr => (h.2.1 r hr).same (gup_off _ _ (by simp)) (gup_off _ _ (by simp)), fun e' he k' h1 h2 => ?_, fun i hi k' h1 h2 => ?_, fun i hi => ?_, fun i hi => ?_⟩
  · rw [gup_ne (by simp)]; exact h.1 k' hk'
  · by_cases hq : e' = e ∧ k' = k
    · obtain ⟨rfl, rfl⟩ := hq; rw [gup_eq]; simp [sG]
    · rw [gup_ne (by omega), h.2.2.1 e' he k' h1 h2]; simp [sG, hq]
  · rw [gup_ne (by simp)]; exact h.2.2.2.1 i hi k' h1 h2
  · rw [gup_ne (by simp)]; exact h.2.2.2.2.1 i hi
  · rw [gup_ne (by simp)]; exact h.2.2.2.2.2 i hi
theorem AbsC.setC {V : gMem} {b : Nat} {S : gSt} (h : AbsC V b S) (i k v : Nat) (hk : 1 ≤ k ∧ k ≤ 9) : AbsC (gup V 15 b i k (nI v)) b (sC S i k v) := by
  refine ⟨fun k' hk' => ?_, fun r hr => (h.2.1 r hr).same (gup_off _ _ (by simp)) (gup_off _ _ (by simp)), fun e' he k' h1 h2 => ?_, fun i' hi k' h1 h2 => ?_, fun i' hi => ?_, fun i' hi => ?_⟩
  · rw [gup_ne (by simp)]; exact h.1 k' hk'
  · rw [gup_ne (by simp)]; exact h.2.2.1 e' he k' h1 h2
  · by_cases hq : i' = i ∧ k' = k
    · obtain ⟨rfl, rfl⟩ := hq; rw [gup_eq]; simp [sC]
    · rw [gup_ne (by omega), h.2.2.2.1 i' hi k' h1 h2]; simp [sC, hq]
  · rw [gup_ne (by omega)]; exact h.2.2.2.2.1 i' hi
  · rw [gup_ne (by omega)]; exact h.2.2.2.2.2 i' hi
theorem AbsC.setO {V : gMem} {b : Nat} {S : gSt} (h : AbsC V b S) (i : Nat) (v : Int32) : AbsC (gup V 15 b i 10 v) b (sO S i v) := by
  refine ⟨fun k' hk' => ?_, fun r hr => (h.2.1 r hr).same (gup_off _ _ (by simp)) (gup_off _ _ (by simp)), fun e' he k' h1 h2 => ?_, fun i' hi k' h1 h2 => ?_, fun i' hi => ?_, fun i' hi => ?_⟩
  · rw [gup_ne (by simp)]; exact h.1 k' hk'
  · rw [gup_ne (by simp)]; exact h.2.2.1 e' he k' h1 h2
  · rw [gup_ne (by omega)]; exact h.2.2.2.1 i' hi k' h1 h2
  · by_cases hq : i' = i
    · subst hq; rw [gup_eq]; simp [sO]
    · rw [gup_ne (by omega), h.2.2.2.2.1 i' hi]; simp [sO, hq]
  · rw [gup_ne (by omega)]; exact h.2.2.2.2.2 i' hi
theorem AbsC.setQ {V V' : gMem} {b : Nat} {S : gSt} (h : AbsC V b S) {r : Nat} {xs : List Nat} (hx : RowIs V' b r xs) (hm : rowmod V V' b r) : AbsC V' b (sQ S r xs) := by
  have e : ∀ K i, K ≠ 13 → K ≠ 14 → V' K b i = V K b i := fun K i h1 h2 => hm K b i (fun q => by omega)
  refine ⟨fun k' hk' => ?_, fun r' hr => ?_, fun e' he k' h1 h2 => ?_, fun i' hi k' h1 h2 => ?_, fun i' hi => ?_, fun i' hi => ?_⟩
  · rw [e 10 0 (by decide) (by decide)]; exact h.1 k' hk'
  · by_cases hq : r' = r
    · subst hq; simp only [sQ, if_true]; exact hx
    · simp only [sQ, if_neg hq]; exact (h.2.1 r' hr).mod hm (fun q => hq q.2)
  · rw [e 12 e' (by decide) (by decide)]; exact h.2.2.1 e' he k' h1 h2
  · rw [e 15 i' (by decide) (by decide)]; exact h.2.2.2.1 i' hi k' h1 h2
  · rw [e 15 i' (by decide) (by decide)]; exact h.2.2.2.2.1 i' hi
  · rw [e 15 i' (by decide) (by decide)]; exact h.2.2.2.2.2 i' hi
end
section
abbrev rmX0_gateAt : Room := { frames := 0, cells := 0, slots := 0, locals := 0 }
set_option maxRecDepth 20000 in
theorem k_gateAt {l : Launch} {B : gB} (hI : gI B) (V : gMem) (b : Nat) (e : Nat) (hb : b < 3) (he : e < 2) : gM l B yX0_gateAt cX0_gateAt 2 (some (.object "FogBridge$Gate")) rmX0_gateAt [.ref (B.2.1 10 b 0), .int (nI e)] V (fun v V' => v = some (.ref (B.2.1 12 b e)) ∧ V' = V) := by
  refine gM_of (own := RX0) (L := [(0, .ref (B.2.1 10 b 0)), (1, .int (nI e))]) (by decide +kernel) rfl hI (Nat.le_of_ble_eq_true rfl) rfl ?_
  intro Z hnL hR X F
  refine g_iload_n X 1 rfl dX0_gateAt_0 ?_
  by_cases h0 : e = 0
  · skip
    refine g_if_ne X 11 (by decide) dX0_gateAt_1 (fun c1 => ?_) (fun c1 => ?_)
    · exact absurd c1 (fun q => q (by rw [h0]; rfl))
    · refine g_aload_n X 0 rfl dX0_gateAt_4 ?_
      refine gg_X0_firstGate X (gP_10 (by first | assumption | decide | omega)) fX0_33 dX0_gateAt_5 ?_
      refine g_goto X 15 (by decide) dX0_gateAt_8 ?_
      refine g_aret X F (Or.inr ⟨_, rfl⟩) ?_ rfl dX0_gateAt_15
      exact ⟨by rw [h0], rfl⟩
  · have h1 : e = 1 := by omega
    refine g_if_ne X 11 (by decide) dX0_gateAt_1 (fun c2 => ?_) (fun c2 => ?_)
    · refine g_aload_n X 0 rfl dX0_gateAt_11 ?_
      refine gg_X0_secondGate X (gP_10 (by first | assumption | decide | omega)) fX0_37 dX0_gateAt_12 ?_
      refine g_aret X F (Or.inr ⟨_, rfl⟩) ?_ rfl dX0_gateAt_15
      exact ⟨by rw [h1], rfl⟩
    · first | exact absurd (nI_ne0 (by omega) (by omega)) c2 | exact absurd c2 (nI_ne0 (by omega) (by omega))

abbrev rmX0_cartAt : Room := { frames := 1, cells := 0, slots := 0, locals := 21 }
set_option maxRecDepth 20000 in
theorem k_cartAt {l : Launch} {B : gB} (hI : gI B) (V : gMem) (b : Nat) (S : gSt) (i : Nat) (hb : b < 3) (hS : AbsC V b S) (hn : S.1 6 ≤ 16) (hi : i < S.1 6) : gM l B yX0_cartAt cX0_cartAt 2 (some (.object "FogBridge$Cart")) rmX0_cartAt [.ref (B.2.1 10 b 0), .int (nI i)] V (fun v V' => v = some (.ref (B.2.1 15 b i)) ∧ V' = V) := by
  refine gM_of (own := RX0) (L := [(0, .ref (B.2.1 10 b 0)), (1, .int (nI i))]) (by decide +kernel) rfl hI (Nat.le_of_ble_eq_true rfl) rfl ?_
  intro Z hnL hR X F
  refine g_iload_n X 1 rfl dX0_cartAt_0 ?_
  refine g_aload_n X 0 rfl dX0_cartAt_1 ?_
  refine gg_X0_cartCount X (gP_10 (by first | assumption | decide | omega)) fX0_50 dX0_cartAt_2 ?_
  refine gG_top (nI (S.1 6)) (hS.1 6 (by decide)) ?_
  refine g_icmp_ge X 29 (by decide) dX0_cartAt_5 (fun c1 => ?_) (fun c1 => ?_)
  · first | exact absurd (nI_ge hi (by omega)) c1 | exact absurd c1 (nI_ge hi (by omega))
  · have hi16 : i < 16 := by omega
    refine g_iload_n X 1 rfl dX0_cartAt_8 ?_
    refine g_aload_n X 0 rfl dX0_cartAt_9 ?_
    refine gg_X0_carts X (gP_10 (by first | assumption | decide | omega)) fX0_26 dX0_cartAt_10 ?_
    refine g_alenC X (by first | assumption | decide | omega) dX0_cartAt_13 ?_
    refine g_callS X hR (As := [.int (nI i), .int 16]) (rest := []) mX6_isIndex lX0_53 (k_isIndex1 hI V (nI i) 16 (nI_pos' (by omega)) (nI_lt (b := 16) hi16 (by decide))) rfl rfl (Nat.le_of_ble_eq_true rfl) ⟨Nat.le_of_ble_eq_true rfl, Nat.le_of_ble_eq_true rfl, Nat.le_of_ble_eq_true rfl, Nat.le_of_ble_eq_true rfl⟩ dX0_cartAt_14 (fun r2 V3 h4 => ?_)
    refine gG_ret h4.1 h4.2 ?_
    refine gG_st [.int 1] rfl ?_
    refine g_if_eq X 29 (by decide) dX0_cartAt_17 (fun c5 => ?_) (fun c5 => ?_)
    ·  exact absurd c5 (by decide)
    · refine g_aload_n X 0 rfl dX0_cartAt_20 ?_
      refine gg_X0_carts X (gP_10 (by first | assumption | decide | omega)) fX0_26 dX0_cartAt_21 ?_
      refine g_iload_n X 1 rfl dX0_cartAt_24 ?_
      refine g_aaldC X (i) rfl hi16 (by first | assumption | decide | omega) dX0_cartAt_25 ?_
      refine g_goto X 30 (by decide) dX0_cartAt_26 ?_
      refine g_aret X F (Or.inr ⟨_, rfl⟩) ?_ rfl dX0_cartAt_30
      exact ⟨rfl, rfl⟩

set_option maxRecDepth 20000 in
theorem k_cartAtm {l : Launch} {B : gB} (hI : gI B) (V : gMem) (b : Nat) (S : gSt) (hb : b < 3) (hS : AbsC V b S) (hn : S.1 6 ≤ 16) : gM l B yX0_cartAt cX0_cartAt 2 (some (.object "FogBridge$Cart")) rmX0_cartAt [.ref (B.2.1 10 b 0), .int ((-1))] V (fun v V' => v = some .null ∧ V' = V) := by
  refine gM_of (own := RX0) (L := [(0, .ref (B.2.1 10 b 0)), (1, .int ((-1)))]) (by decide +kernel) rfl hI (Nat.le_of_ble_eq_true rfl) rfl ?_
  intro Z hnL hR X F
  refine g_iload_n X 1 rfl dX0_cartAt_0 ?_
  refine g_aload_n X 0 rfl dX0_cartAt_1 ?_
  refine gg_X0_cartCount X (gP_10 (by first | assumption | decide | omega)) fX0_50 dX0_cartAt_2 ?_
  refine gG_top (nI (S.1 6)) (hS.1 6 (by decide)) ?_
  refine g_icmp_ge X 29 (by decide) dX0_cartAt_5 (fun c1 => ?_) (fun c1 => ?_)
  · exact absurd c1 (fun q => absurd (Int32.le_trans (nI_pos' (by omega)) q) (by decide))
  · refine g_iload_n X 1 rfl dX0_cartAt_8 ?_
    refine g_aload_n X 0 rfl dX0_cartAt_9 ?_
    refine gg_X0_carts X (gP_10 (by first | assumption | decide | omega)) fX0_26 dX0_cartAt_10 ?_
    refine g_alenC X (by first | assumption | decide | omega) dX0_cartAt_13 ?_
    refine g_callS X hR (As := [.int ((-1)), .int 16]) (rest := []) mX6_isIndex lX0_53 (k_isIndexN hI V (-1) 16 (by decide)) rfl rfl (Nat.le_of_ble_eq_true rfl) ⟨Nat.le_of_ble_eq_true rfl, Nat.le_of_ble_eq_true rfl, Nat.le_of_ble_eq_true rfl, Nat.le_of_ble_eq_true rfl⟩ dX0_cartAt_14 (fun r2 V3 h4 => ?_)
    refine gG_ret h4.1 h4.2 ?_
    refine gG_st [.int 0] rfl ?_
    refine g_if_eq X 29 (by decide) dX0_cartAt_17 (fun c5 => ?_) (fun c5 => ?_)
    · refine g_null X dX0_cartAt_29 ?_
      refine g_aret X F (Or.inl rfl) ?_ rfl dX0_cartAt_30
      exact ⟨rfl, rfl⟩
    ·  exact absurd c5 (by decide)

set_option maxRecDepth 20000 in
theorem k_cartAtout {l : Launch} {B : gB} (hI : gI B) (V : gMem) (b : Nat) (S : gSt) (x : Int32) (hb : b < 3) (hS : AbsC V b S) (hn : S.1 6 ≤ 16) (hx : ¬ (0 ≤ x ∧ x < nI (S.1 6))) : gM l B yX0_cartAt cX0_cartAt 2 (some (.object "FogBridge$Cart")) rmX0_cartAt [.ref (B.2.1 10 b 0), .int x] V (fun v V' => v = some .null ∧ V' = V) := by
  refine gM_of (own := RX0) (L := [(0, .ref (B.2.1 10 b 0)), (1, .int x)]) (by decide +kernel) rfl hI (Nat.le_of_ble_eq_true rfl) rfl ?_
  intro Z hnL hR X F
  refine g_iload_n X 1 rfl dX0_cartAt_0 ?_
  refine g_aload_n X 0 rfl dX0_cartAt_1 ?_
  refine gg_X0_cartCount X (gP_10 (by first | assumption | decide | omega)) fX0_50 dX0_cartAt_2 ?_
  refine gG_top (nI (S.1 6)) (hS.1 6 (by decide)) ?_
  refine g_icmp_ge X 29 (by decide) dX0_cartAt_5 (fun c1 => ?_) (fun c1 => ?_)
  · refine g_null X dX0_cartAt_29 ?_
    refine g_aret X F (Or.inl rfl) ?_ rfl dX0_cartAt_30
    exact ⟨rfl, rfl⟩
  · refine g_iload_n X 1 rfl dX0_cartAt_8 ?_
    refine g_aload_n X 0 rfl dX0_cartAt_9 ?_
    refine gg_X0_carts X (gP_10 (by first | assumption | decide | omega)) fX0_26 dX0_cartAt_10 ?_
    refine g_alenC X (by first | assumption | decide | omega) dX0_cartAt_13 ?_
    have hx0 : x < 0 := Int32.not_le.mp fun q => hx ⟨q, Int32.not_le.mp c1⟩
    refine g_callS X hR (As := [.int x, .int 16]) (rest := []) mX6_isIndex lX0_53 (k_isIndexN hI V x 16 hx0) rfl rfl (Nat.le_of_ble_eq_true rfl) ⟨Nat.le_of_ble_eq_true rfl, Nat.le_of_ble_eq_true rfl, Nat.le_of_ble_eq_true rfl, Nat.le_of_ble_eq_true rfl⟩ dX0_cartAt_14 (fun r2 V3 h4 => ?_)
    refine gG_ret h4.1 h4.2 ?_
    refine gG_st [.int 0] rfl ?_
    refine g_if_eq X 29 (by decide) dX0_cartAt_17 (fun c5 => ?_) (fun c5 => ?_)
    · refine g_null X dX0_cartAt_29 ?_
      refine g_aret X F (Or.inl rfl) ?_ rfl dX0_cartAt_30
      exact ⟨rfl, rfl⟩
    ·  exact absurd c5 (by decide)

def sToll (S : gSt) (ax wt : Nat) : Nat := ax * S.1 4 + wt / 10 * S.1 5

abbrev rmX0_tollFor : Room := { frames := 0, cells := 0, slots := 0, locals := 0 }
set_option maxRecDepth 20000 in
theorem k_tollFor {l : Launch} {B : gB} (hI : gI B) (V : gMem) (b : Nat) (S : gSt) (ax : Nat) (wt : Nat) (hb : b < 3) (hS : AbsC V b S) (hw : wt < 2 ^ 31) : gM l B yX0_tollFor cX0_tollFor 3 (some .int) rmX0_tollFor [.ref (B.2.1 10 b 0), .int (nI ax), .int (nI wt)] V (fun v V' => v = some (.int (nI (sToll S ax wt))) ∧ V' = V) := by
  refine gM_of (own := RX0) (L := [(0, .ref (B.2.1 10 b 0)), (1, .int (nI ax)), (2, .int (nI wt))]) (by decide +kernel) rfl hI (Nat.le_of_ble_eq_true rfl) rfl ?_
  intro Z hnL hR X F
  refine g_iload_n X 1 rfl dX0_tollFor_0 ?_
  refine g_aload_n X 0 rfl dX0_tollFor_1 ?_
  refine gg_X0_axleToll X (gP_10 (by first | assumption | decide | omega)) fX0_18 dX0_tollFor_2 ?_
  refine gG_top (nI (S.1 4)) (hS.1 4 (by decide)) ?_
  refine g_imul X dX0_tollFor_5 ?_
  refine gG_top (nI (ax * (S.1 4))) (pk_mul ax (S.1 4)) ?_
  refine g_iload_n X 2 rfl dX0_tollFor_6 ?_
  refine g_bipush X 10 (by decide) dX0_tollFor_7 ?_
  refine g_idiv X (by decide) dX0_tollFor_9 ?_
  refine gG_top (nI (wt / 10)) (pk_div (d := 10) hw (by decide) (by decide)) ?_
  refine g_aload_n X 0 rfl dX0_tollFor_10 ?_
  refine gg_X0_tenToll X (gP_10 (by first | assumption | decide | omega)) fX0_21 dX0_tollFor_11 ?_
  refine gG_top (nI (S.1 5)) (hS.1 5 (by decide)) ?_
  refine g_imul X dX0_tollFor_14 ?_
  refine gG_top (nI ((wt / 10) * (S.1 5))) (pk_mul (wt / 10) (S.1 5)) ?_
  refine g_iadd X dX0_tollFor_15 ?_
  refine gG_top (nI ((ax * (S.1 4)) + ((wt / 10) * (S.1 5)))) (nI_add (ax * (S.1 4)) ((wt / 10) * (S.1 5))) ?_
  refine g_iret X F ?_ rfl dX0_tollFor_16
  exact ⟨rfl, rfl⟩

def sTake (S : gSt) (e i pd hn : Nat) : gSt :=
  let S1 := sG S e 1 (S.2.2.1 e 1 + pd)
  let S2 := sG S1 e 2 (S1.2.2.1 e 2 + 1)
  let S3 := sG S2 e 3 (S2.2.2.1 e 3 + S2.2.2.2.1 i 2)
  sG S3 e 4 (S3.2.2.1 e 4 + (hn - pd))

abbrev rmX3_take : Room := { frames := 0, cells := 0, slots := 0, locals := 0 }
set_option maxRecDepth 20000 in
theorem k_take {l : Launch} {B : gB} (hI : gI B) (V : gMem) (b : Nat) (S : gSt) (e : Nat) (i : Nat) (pd : Nat) (hn : Nat) (hb : b < 3) (hS : AbsC V b S) (he : e < 2) (hi : i < S.1 6) (hN : S.1 6 ≤ 16) (hp : pd ≤ hn) : gM l B yX3_take cX3_take 4 none rmX3_take [.ref (B.2.1 12 b e), .ref (B.2.1 15 b i), .int (nI pd), .int (nI hn)] V (fun v V' => v = none ∧ AbsC V' b (sTake S e i pd hn) ∧ brmod V V' b) := by
  refine gM_of (own := RX3) (L := [(0, .ref (B.2.1 12 b e)), (1, .ref (B.2.1 15 b i)), (2, .int (nI pd)), (3, .int (nI hn))]) (by decide +kernel) rfl hI (Nat.le_of_ble_eq_true rfl) rfl ?_
  intro Z hnL hR X F
  refine g_aload_n X 0 rfl dX3_take_0 ?_
  refine g_dup X rfl dX3_take_1 ?_
  refine gg_X3_coins X (gP_12 (by first | assumption | decide | omega) (by first | assumption | decide | omega)) fX3_18 dX3_take_2 ?_
  refine gG_top (nI (S.2.2.1 e 1)) (hS.2.2.1 e (by first | assumption | decide | omega) 1 (by decide) (by decide)) ?_
  refine g_iload_n X 2 rfl dX3_take_5 ?_
  refine g_iadd X dX3_take_6 ?_
  refine gG_top (nI ((S.2.2.1 e 1) + pd)) (nI_add (S.2.2.1 e 1) pd) ?_
  refine gp_X3_coins X (gP_12 (by first | assumption | decide | omega) (by first | assumption | decide | omega)) fX3_18 dX3_take_7 ?_
  refine gG_nm (fun V1 hV1 => ?_)
  obtain ⟨S2, eS2⟩ : ∃ y, y = sG S e 1 ((S.2.2.1 e 1) + pd) := ⟨_, rfl⟩
  have hS2 : AbsC V1 b S2 := by rw [eS2, hV1]; exact hS.setG e 1 ((S.2.2.1 e 1) + pd)
  have mS2 : brmod V V1 b := by rw [hV1]; exact brmod.rf.up (by decide) (by decide)
  have nS2 : S2.1 = S.1 := by rw [eS2]; exact rfl
  refine g_aload_n X 0 rfl dX3_take_10 ?_
  refine g_dup X rfl dX3_take_11 ?_
  refine gg_X3_payers X (gP_12 (by first | assumption | decide | omega) (by first | assumption | decide | omega)) fX3_22 dX3_take_12 ?_
  refine gG_top (nI (S2.2.2.1 e 2)) (hS2.2.2.1 e (by first | assumption | decide | omega) 2 (by decide) (by decide)) ?_
  refine g_iconst X 1 (by decide) dX3_take_15 ?_
  refine g_iadd X dX3_take_16 ?_
  refine gG_top (nI ((S2.2.2.1 e 2) + 1)) (nI_1 _) ?_
  refine gp_X3_payers X (gP_12 (by first | assumption | decide | omega) (by first | assumption | decide | omega)) fX3_22 dX3_take_17 ?_
  refine gG_nm (fun V3 hV3 => ?_)
  obtain ⟨S4, eS4⟩ : ∃ y, y = sG S2 e 2 ((S2.2.2.1 e 2) + 1) := ⟨_, rfl⟩
  have hS4 : AbsC V3 b S4 := by rw [eS4, hV3]; exact hS2.setG e 2 ((S2.2.2.1 e 2) + 1)
  have mS4 : brmod V V3 b := by rw [hV3]; exact mS2.up (by decide) (by decide)
  have nS4 : S4.1 = S.1 := by rw [eS4]; exact nS2
  refine g_aload_n X 0 rfl dX3_take_20 ?_
  refine g_dup X rfl dX3_take_21 ?_
  refine gg_X3_axles X (gP_12 (by first | assumption | decide | omega) (by first | assumption | decide | omega)) fX3_25 dX3_take_22 ?_
  refine gG_top (nI (S4.2.2.1 e 3)) (hS4.2.2.1 e (by first | assumption | decide | omega) 3 (by decide) (by decide)) ?_
  refine g_aload_n X 1 rfl dX3_take_25 ?_
  refine gg_X1_axles X (gP_15 (by first | assumption | decide | omega) (by first | assumption | decide | omega)) fX3_28 dX3_take_26 ?_
  refine gG_top (nI (S4.2.2.2.1 i 2)) (hS4.2.2.2.1 i (by rw [nS4]; first | assumption | omega) 2 (by decide) (by decide)) ?_
  refine g_iadd X dX3_take_29 ?_
  refine gG_top (nI ((S4.2.2.1 e 3) + (S4.2.2.2.1 i 2))) (nI_add (S4.2.2.1 e 3) (S4.2.2.2.1 i 2)) ?_
  refine gp_X3_axles X (gP_12 (by first | assumption | decide | omega) (by first | assumption | decide | omega)) fX3_25 dX3_take_30 ?_
  refine gG_nm (fun V5 hV5 => ?_)
  obtain ⟨S6, eS6⟩ : ∃ y, y = sG S4 e 3 ((S4.2.2.1 e 3) + (S4.2.2.2.1 i 2)) := ⟨_, rfl⟩
  have hS6 : AbsC V5 b S6 := by rw [eS6, hV5]; exact hS4.setG e 3 ((S4.2.2.1 e 3) + (S4.2.2.2.1 i 2))
  have mS6 : brmod V V5 b := by rw [hV5]; exact mS4.up (by decide) (by decide)
  have nS6 : S6.1 = S.1 := by rw [eS6]; exact nS4
  refine g_aload_n X 0 rfl dX3_take_33 ?_
  refine g_dup X rfl dX3_take_34 ?_
  refine gg_X3_keptByCheats X (gP_12 (by first | assumption | decide | omega) (by first | assumption | decide | omega)) fX3_31 dX3_take_35 ?_
  refine gG_top (nI (S6.2.2.1 e 4)) (hS6.2.2.1 e (by first | assumption | decide | omega) 4 (by decide) (by decide)) ?_
  refine g_iload_n X 3 rfl dX3_take_38 ?_
  refine g_iload_n X 2 rfl dX3_take_39 ?_
  refine g_isub X dX3_take_40 ?_
  refine gG_top (nI (hn - pd)) (pk_sub hp) ?_
  refine g_iadd X dX3_take_41 ?_
  refine gG_top (nI ((S6.2.2.1 e 4) + (hn - pd))) (nI_add (S6.2.2.1 e 4) (hn - pd)) ?_
  refine gp_X3_keptByCheats X (gP_12 (by first | assumption | decide | omega) (by first | assumption | decide | omega)) fX3_31 dX3_take_42 ?_
  refine gG_nm (fun V7 hV7 => ?_)
  obtain ⟨S8, eS8⟩ : ∃ y, y = sG S6 e 4 ((S6.2.2.1 e 4) + (hn - pd)) := ⟨_, rfl⟩
  have hS8 : AbsC V7 b S8 := by rw [eS8, hV7]; exact hS6.setG e 4 ((S6.2.2.1 e 4) + (hn - pd))
  have mS8 : brmod V V7 b := by rw [hV7]; exact mS6.up (by decide) (by decide)
  have nS8 : S8.1 = S.1 := by rw [eS8]; exact nS6
  refine g_vret X F ?_ rfl dX3_take_45
  subst eS8 eS6 eS4 eS2
  exact ⟨rfl, hS8, mS8⟩

def sDue (S : gSt) (i : Nat) : Nat := if S.2.2.2.1 i 6 = 0 then sToll S (S.2.2.2.1 i 2) (S.2.2.2.1 i 3) else sToll S 1 (S.2.2.2.1 i 3)
def sPay (S : gSt) (e i : Nat) : gSt := sTake (sC (sC S i 5 (S.2.2.2.1 i 5 - sDue S i)) i 7 1) e i (sDue S i) (sToll S (S.2.2.2.1 i 2) (S.2.2.2.1 i 3))
/-- the bounds that the document sets a cart and the tolls -/
def sCartOk (S : gSt) (i : Nat) : Prop := S.2.2.2.1 i 1 ≤ 1 ∧ (1 ≤ S.2.2.2.1 i 2 ∧ S.2.2.2.1 i 2 ≤ 4) ∧ S.2.2.2.1 i 3 ≤ 200 ∧ (1 ≤ S.2.2.2.1 i 4 ∧ S.2.2.2.1 i 4 ≤ 3) ∧ S.2.2.2.1 i 5 ≤ 100 ∧ S.2.2.2.1 i 6 ≤ 1 ∧ S.2.2.2.1 i 7 ≤ 1 ∧ S.2.2.2.1 i 8 ≤ 3
def sNumOk (S : gSt) : Prop := S.1 1 ≤ 1 ∧ (4 ≤ S.1 2 ∧ S.1 2 ≤ 30) ∧ S.1 3 ≤ 500 ∧ S.1 4 ≤ 9 ∧ S.1 5 ≤ 9 ∧ S.1 6 ≤ 16
theorem sToll_le {S : gSt} (h : sNumOk S) {a w : Nat} (ha : a ≤ 4) (hw : w ≤ 200) : sToll S a w ≤ 216 := by
  obtain ⟨-, -, -, h4, h5, -⟩ := h
  have h1 : a * S.1 4 ≤ 4 * 9 := Nat.mul_le_mul ha h4
  have h2 : w / 10 * S.1 5 ≤ 20 * 9 := Nat.mul_le_mul (by omega) h5
  unfold sToll
  omega
theorem sToll_one {S : gSt} {a w : Nat} (ha : 1 ≤ a) : sToll S 1 w ≤ sToll S a w := by
  unfold sToll
  have : 1 * S.1 4 ≤ a * S.1 4 := Nat.mul_le_mul_right _ ha
  omega
theorem sDue_le {S : gSt} {i : Nat} (h : sCartOk S i) : sDue S i ≤ sToll S (S.2.2.2.1 i 2) (S.2.2.2.1 i 3) := by
  unfold sDue
  split
  · exact Nat.le_refl _
  · exact sToll_one h.2.1.1
theorem sDue_216 {S : gSt} {i : Nat} (hn : sNumOk S) (h : sCartOk S i) : sDue S i ≤ 216 := Nat.le_trans (sDue_le h) (sToll_le hn h.2.1.2 h.2.2.1)

abbrev rmX0_pays : Room := { frames := 1, cells := 0, slots := 0, locals := 23 }
set_option maxRecDepth 20000 in
theorem k_pays {l : Launch} {B : gB} (hI : gI B) (V : gMem) (b : Nat) (S : gSt) (e : Nat) (i : Nat) (hb : b < 3) (hS : AbsC V b S) (he : e < 2) (hi : i < S.1 6) (hn : sNumOk S) (hc : sCartOk S i) : gM l B yX0_pays cX0_pays 5 (some .boolean) rmX0_pays [.ref (B.2.1 10 b 0), .ref (B.2.1 15 b i), .ref (B.2.1 12 b e)] V (fun v V' => v = some (.int (if S.2.2.2.1 i 5 < sDue S i then 0 else 1)) ∧ AbsC V' b (if S.2.2.2.1 i 5 < sDue S i then S else sPay S e i) ∧ brmod V V' b) := by
  refine gM_of (own := RX0) (L := [(0, .ref (B.2.1 10 b 0)), (1, .ref (B.2.1 15 b i)), (2, .ref (B.2.1 12 b e))]) (by decide +kernel) rfl hI (Nat.le_of_ble_eq_true rfl) rfl ?_
  intro Z hnL hR X F
  have hN : S.1 6 ≤ 16 := hn.2.2.2.2.2
  have h216 := sDue_216 hn hc
  have hle := sDue_le hc
  have hw2 := hc.2.2.1
  have hco := hc.2.2.2.2.1
  refine g_aload_n X 0 rfl dX0_pays_0 ?_
  refine g_aload_n X 1 rfl dX0_pays_1 ?_
  refine gg_X1_axles X (gP_15 (by first | assumption | decide | omega) (by first | assumption | decide | omega)) fX0_93 dX0_pays_2 ?_
  refine gG_top (nI (S.2.2.2.1 i 2)) (hS.2.2.2.1 i (by first | assumption | omega) 2 (by decide) (by decide)) ?_
  refine g_aload_n X 1 rfl dX0_pays_5 ?_
  refine gg_X1_weight X (gP_15 (by first | assumption | decide | omega) (by first | assumption | decide | omega)) fX0_87 dX0_pays_6 ?_
  refine gG_top (nI (S.2.2.2.1 i 3)) (hS.2.2.2.1 i (by first | assumption | omega) 3 (by decide) (by decide)) ?_
  refine g_callV X hR (rest := []) mX0_tollFor lX0_107 (k_tollFor hI V b S (S.2.2.2.1 i 2) (S.2.2.2.1 i 3) (by first | assumption | decide | omega) hS (by omega)) rfl rfl (Nat.le_of_ble_eq_true rfl) (gP_10 (by first | assumption | decide | omega)) rfl rfl rfl ⟨Nat.le_of_ble_eq_true rfl, Nat.le_of_ble_eq_true rfl, Nat.le_of_ble_eq_true rfl, Nat.le_of_ble_eq_true rfl⟩ dX0_pays_9 (fun r1 V2 h3 => ?_)
  refine gG_ret h3.1 h3.2 ?_
  refine gG_st [.int (nI (sToll S (S.2.2.2.1 i 2) (S.2.2.2.1 i 3)))] rfl ?_
  refine g_istore_n X rfl dX0_pays_12 [(3, .int (nI (sToll S (S.2.2.2.1 i 2) (S.2.2.2.1 i 3)))), (0, .ref (B.2.1 10 b 0)), (1, .ref (B.2.1 15 b i)), (2, .ref (B.2.1 12 b e))] rfl (gnl_lt hnL (by decide)) ?_
  refine g_aload_n X 2 rfl dX0_pays_13 ?_
  refine gg_X1_isCheat X (gP_15 (by first | assumption | decide | omega) (by first | assumption | decide | omega)) fX0_190 dX0_pays_14 ?_
  refine gG_top (nI (S.2.2.2.1 i 6)) (hS.2.2.2.1 i (by first | assumption | omega) 6 (by decide) (by decide)) ?_
  by_cases hz : S.2.2.2.1 i 6 = 0
  · skip
    refine g_if_eq X 32 (by decide) dX0_pays_17 (fun c4 => ?_) (fun c4 => ?_)
    · refine g_iload_n X 0 rfl dX0_pays_32 ?_
      refine gG_top (nI (sDue S i)) (by rw [show sDue S i = sToll S (S.2.2.2.1 i 2) (S.2.2.2.1 i 3) from if_pos hz]) ?_
      refine g_istore X dX0_pays_33 [(4, .int (nI (sDue S i))), (3, .int (nI (sToll S (S.2.2.2.1 i 2) (S.2.2.2.1 i 3)))), (0, .ref (B.2.1 10 b 0)), (1, .ref (B.2.1 15 b i)), (2, .ref (B.2.1 12 b e))] rfl (gnl_lt hnL (by decide)) ?_
      refine g_aload_n X 3 rfl dX0_pays_35 ?_
      refine gg_X1_coins X (gP_15 (by first | assumption | decide | omega) (by first | assumption | decide | omega)) fX0_99 dX0_pays_36 ?_
      refine gG_top (nI (S.2.2.2.1 i 5)) (hS.2.2.2.1 i (by first | assumption | omega) 5 (by decide) (by decide)) ?_
      refine g_iload X 0 rfl dX0_pays_39 ?_
      refine g_icmp_ge X 46 (by decide) dX0_pays_41 (fun c5 => ?_) (fun c5 => ?_)
      · refine g_aload_n X 3 rfl dX0_pays_46 ?_
        refine g_dup X rfl dX0_pays_47 ?_
        refine gg_X1_coins X (gP_15 (by first | assumption | decide | omega) (by first | assumption | decide | omega)) fX0_99 dX0_pays_48 ?_
        refine gG_top (nI (S.2.2.2.1 i 5)) (hS.2.2.2.1 i (by first | assumption | omega) 5 (by decide) (by decide)) ?_
        refine g_iload X 0 rfl dX0_pays_51 ?_
        refine g_isub X dX0_pays_53 ?_
        refine gG_top (nI (S.2.2.2.1 i 5 - sDue S i)) (pk_sub (by have := ixle c5 (by omega) (by omega); omega)) ?_
        refine gp_X1_coins X (gP_15 (by first | assumption | decide | omega) (by first | assumption | decide | omega)) fX0_99 dX0_pays_54 ?_
        refine gG_nm (fun V6 hV6 => ?_)
        obtain ⟨S7, eS7⟩ : ∃ y, y = sC S i 5 (S.2.2.2.1 i 5 - sDue S i) := ⟨_, rfl⟩
        have hS7 : AbsC V6 b S7 := by rw [eS7, hV6]; exact hS.setC i 5 (S.2.2.2.1 i 5 - sDue S i) (by decide)
        have mS7 : brmod V V6 b := by rw [hV6]; exact brmod.rf.up (by decide) (by decide)
        have nS7 : S7.1 = S.1 := by rw [eS7]; exact rfl
        refine g_aload_n X 3 rfl dX0_pays_57 ?_
        refine g_iconst X 1 (by decide) dX0_pays_58 ?_
        refine gp_X1_hasPaid X rfl rfl (gP_15 (by first | assumption | decide | omega) (by first | assumption | decide | omega)) fX0_173 dX0_pays_59 ?_
        refine gG_nm (fun V8 hV8 => ?_)
        obtain ⟨S9, eS9⟩ : ∃ y, y = sC S7 i 7 1 := ⟨_, rfl⟩
        have hS9 : AbsC V8 b S9 := by rw [eS9, hV8]; exact hS7.setC i 7 1 (by decide)
        have mS9 : brmod V V8 b := by rw [hV8]; exact mS7.up (by decide) (by decide)
        have nS9 : S9.1 = S.1 := by rw [eS9]; exact nS7
        refine g_aload_n X 4 rfl dX0_pays_62 ?_
        refine g_aload_n X 3 rfl dX0_pays_63 ?_
        refine g_iload X 0 rfl dX0_pays_64 ?_
        refine g_iload_n X 1 rfl dX0_pays_66 ?_
        refine g_callV X hR (rest := []) mX3_take lX0_193 (k_take hI V8 b S9 e i (sDue S i) (sToll S (S.2.2.2.1 i 2) (S.2.2.2.1 i 3)) (by first | assumption | decide | omega | (rw [nS9]; first | assumption | omega)) hS9 (by first | assumption | decide | omega | (rw [nS9]; first | assumption | omega)) (by first | assumption | decide | omega | (rw [nS9]; first | assumption | omega)) (by first | assumption | decide | omega | (rw [nS9]; first | assumption | omega)) hle) rfl rfl (Nat.le_of_ble_eq_true rfl) (gP_12 (by first | assumption | decide | omega) (by first | assumption | decide | omega)) rfl rfl rfl ⟨Nat.le_of_ble_eq_true rfl, Nat.le_of_ble_eq_true rfl, Nat.le_of_ble_eq_true rfl, Nat.le_of_ble_eq_true rfl⟩ dX0_pays_67 (fun r10 V11 h12 => ?_)
        refine gG_rv h12.1 ?_
        obtain ⟨-, haV11, hbV11⟩ := h12
        obtain ⟨S13, eS13⟩ : ∃ y, y = sTake S9 e i (sDue S i) (sToll S (S.2.2.2.1 i 2) (S.2.2.2.1 i 3)) := ⟨_, rfl⟩
        have hS13 : AbsC V11 b S13 := by rw [eS13]; exact haV11
        have mS13 : brmod V V11 b := mS9.trans hbV11
        have nS13 : S13.1 = S.1 := by rw [eS13]; exact nS9
        refine gG_st [] rfl ?_
        refine g_iconst X 1 (by decide) dX0_pays_70 ?_
        refine g_zret X F rfl ?_ rfl dX0_pays_71
        subst eS13 eS9 eS7
        exact ⟨by rw [if_neg (by have := ixle c5 (by omega) (by omega); omega)], by rw [if_neg (by have := ixle c5 (by omega) (by omega); omega)]; exact hS13, mS13⟩
      · refine g_iconst X 0 (by decide) dX0_pays_44 ?_
        refine g_zret X F rfl ?_ rfl dX0_pays_45
        exact ⟨by rw [if_pos (by have := ixnle c5 (by omega) (by omega); omega)], by rw [if_pos (by have := ixnle c5 (by omega) (by omega); omega)]; exact hS, brmod.rf⟩
    · first | exact absurd (by rw [hz]; rfl) c4 | exact absurd c4 (by rw [hz]; rfl)
  · skip
    refine g_if_eq X 32 (by decide) dX0_pays_17 (fun c14 => ?_) (fun c14 => ?_)
    · first | exact absurd (nI_ne0 (by omega) (by have := hc.2.2.2.2.2.1; omega)) c14 | exact absurd c14 (nI_ne0 (by omega) (by have := hc.2.2.2.2.2.1; omega))
    · refine g_aload_n X 1 rfl dX0_pays_20 ?_
      refine g_iconst X 1 (by decide) dX0_pays_21 ?_
      refine g_aload_n X 2 rfl dX0_pays_22 ?_
      refine gg_X1_weight X (gP_15 (by first | assumption | decide | omega) (by first | assumption | decide | omega)) fX0_87 dX0_pays_23 ?_
      refine gG_top (nI (S.2.2.2.1 i 3)) (hS.2.2.2.1 i (by first | assumption | omega) 3 (by decide) (by decide)) ?_
      refine g_callV X hR (rest := []) mX0_tollFor lX0_107 (k_tollFor hI V b S 1 (S.2.2.2.1 i 3) (by first | assumption | decide | omega) hS (by omega)) rfl rfl (Nat.le_of_ble_eq_true rfl) (gP_10 (by first | assumption | decide | omega)) rfl rfl rfl ⟨Nat.le_of_ble_eq_true rfl, Nat.le_of_ble_eq_true rfl, Nat.le_of_ble_eq_true rfl, Nat.le_of_ble_eq_true rfl⟩ dX0_pays_26 (fun r15 V16 h17 => ?_)
      refine gG_ret h17.1 h17.2 ?_
      refine gG_st [.int (nI (sToll S 1 (S.2.2.2.1 i 3)))] rfl ?_
      refine g_goto X 33 (by decide) dX0_pays_29 ?_
      refine gG_top (nI (sDue S i)) (by rw [show sDue S i = sToll S 1 (S.2.2.2.1 i 3) from if_neg hz]) ?_
      refine g_istore X dX0_pays_33 [(4, .int (nI (sDue S i))), (3, .int (nI (sToll S (S.2.2.2.1 i 2) (S.2.2.2.1 i 3)))), (0, .ref (B.2.1 10 b 0)), (1, .ref (B.2.1 15 b i)), (2, .ref (B.2.1 12 b e))] rfl (gnl_lt hnL (by decide)) ?_
      refine g_aload_n X 3 rfl dX0_pays_35 ?_
      refine gg_X1_coins X (gP_15 (by first | assumption | decide | omega) (by first | assumption | decide | omega)) fX0_99 dX0_pays_36 ?_
      refine gG_top (nI (S.2.2.2.1 i 5)) (hS.2.2.2.1 i (by first | assumption | omega) 5 (by decide) (by decide)) ?_
      refine g_iload X 0 rfl dX0_pays_39 ?_
      refine g_icmp_ge X 46 (by decide) dX0_pays_41 (fun c18 => ?_) (fun c18 => ?_)
      · refine g_aload_n X 3 rfl dX0_pays_46 ?_
        refine g_dup X rfl dX0_pays_47 ?_
        refine gg_X1_coins X (gP_15 (by first | assumption | decide | omega) (by first | assumption | decide | omega)) fX0_99 dX0_pays_48 ?_
        refine gG_top (nI (S.2.2.2.1 i 5)) (hS.2.2.2.1 i (by first | assumption | omega) 5 (by decide) (by decide)) ?_
        refine g_iload X 0 rfl dX0_pays_51 ?_
        refine g_isub X dX0_pays_53 ?_
        refine gG_top (nI (S.2.2.2.1 i 5 - sDue S i)) (pk_sub (by have := ixle c18 (by omega) (by omega); omega)) ?_
        refine gp_X1_coins X (gP_15 (by first | assumption | decide | omega) (by first | assumption | decide | omega)) fX0_99 dX0_pays_54 ?_
        refine gG_nm (fun V19 hV19 => ?_)
        obtain ⟨S20, eS20⟩ : ∃ y, y = sC S i 5 (S.2.2.2.1 i 5 - sDue S i) := ⟨_, rfl⟩
        have hS20 : AbsC V19 b S20 := by rw [eS20, hV19]; exact hS.setC i 5 (S.2.2.2.1 i 5 - sDue S i) (by decide)
        have mS20 : brmod V V19 b := by rw [hV19]; exact brmod.rf.up (by decide) (by decide)
        have nS20 : S20.1 = S.1 := by rw [eS20]; exact rfl
        refine g_aload_n X 3 rfl dX0_pays_57 ?_
        refine g_iconst X 1 (by decide) dX0_pays_58 ?_
        refine gp_X1_hasPaid X rfl rfl (gP_15 (by first | assumption | decide | omega) (by first | assumption | decide | omega)) fX0_173 dX0_pays_59 ?_
        refine gG_nm (fun V21 hV21 => ?_)
        obtain ⟨S22, eS22⟩ : ∃ y, y = sC S20 i 7 1 := ⟨_, rfl⟩
        have hS22 : AbsC V21 b S22 := by rw [eS22, hV21]; exact hS20.setC i 7 1 (by decide)
        have mS22 : brmod V V21 b := by rw [hV21]; exact mS20.up (by decide) (by decide)
        have nS22 : S22.1 = S.1 := by rw [eS22]; exact nS20
        refine g_aload_n X 4 rfl dX0_pays_62 ?_
        refine g_aload_n X 3 rfl dX0_pays_63 ?_
        refine g_iload X 0 rfl dX0_pays_64 ?_
        refine g_iload_n X 1 rfl dX0_pays_66 ?_
        refine g_callV X hR (rest := []) mX3_take lX0_193 (k_take hI V21 b S22 e i (sDue S i) (sToll S (S.2.2.2.1 i 2) (S.2.2.2.1 i 3)) (by first | assumption | decide | omega | (rw [nS22]; first | assumption | omega)) hS22 (by first | assumption | decide | omega | (rw [nS22]; first | assumption | omega)) (by first | assumption | decide | omega | (rw [nS22]; first | assumption | omega)) (by first | assumption | decide | omega | (rw [nS22]; first | assumption | omega)) hle) rfl rfl (Nat.le_of_ble_eq_true rfl) (gP_12 (by first | assumption | decide | omega) (by first | assumption | decide | omega)) rfl rfl rfl ⟨Nat.le_of_ble_eq_true rfl, Nat.le_of_ble_eq_true rfl, Nat.le_of_ble_eq_true rfl, Nat.le_of_ble_eq_true rfl⟩ dX0_pays_67 (fun r23 V24 h25 => ?_)
        refine gG_rv h25.1 ?_
        obtain ⟨-, haV24, hbV24⟩ := h25
        obtain ⟨S26, eS26⟩ : ∃ y, y = sTake S22 e i (sDue S i) (sToll S (S.2.2.2.1 i 2) (S.2.2.2.1 i 3)) := ⟨_, rfl⟩
        have hS26 : AbsC V24 b S26 := by rw [eS26]; exact haV24
        have mS26 : brmod V V24 b := mS22.trans hbV24
        have nS26 : S26.1 = S.1 := by rw [eS26]; exact nS22
        refine gG_st [] rfl ?_
        refine g_iconst X 1 (by decide) dX0_pays_70 ?_
        refine g_zret X F rfl ?_ rfl dX0_pays_71
        subst eS26 eS22 eS20
        exact ⟨by rw [if_neg (by have := ixle c18 (by omega) (by omega); omega)], by rw [if_neg (by have := ixle c18 (by omega) (by omega); omega)]; exact hS26, mS26⟩
      · refine g_iconst X 0 (by decide) dX0_pays_44 ?_
        refine g_zret X F rfl ?_ rfl dX0_pays_45
        exact ⟨by rw [if_pos (by have := ixnle c18 (by omega) (by omega); omega)], by rw [if_pos (by have := ixnle c18 (by omega) (by omega); omega)]; exact hS, brmod.rf⟩

def sW (S : gSt) : Nat := ((S.2.1 2).map (fun i => S.2.2.2.1 i 3)).sum
theorem lat_some {xs : List Nat} {j i : Nat} (h : xs[j]? = some i) : lat xs j = nI i := by simp [lat, h]
theorem get_some {xs : List Nat} {j : Nat} (h : j < xs.length) : ∃ i, xs[j]? = some i := ⟨xs[j], List.getElem?_eq_getElem h⟩
theorem take_sum {xs : List Nat} {j i : Nat} (f : Nat → Nat) (h : xs[j]? = some i) : ((xs.take (j + 1)).map f).sum = ((xs.take j).map f).sum + f i := by
  rw [List.take_add_one, h]
  simp
theorem len31 {xs : List Nat} (h : xs.length ≤ 16) : xs.length < 2 ^ 31 := by omega

abbrev rmX0_weightOnBridge : Room := { frames := 2, cells := 0, slots := 0, locals := 42 }
set_option maxRecDepth 20000 in
theorem k_wob {l : Launch} {B : gB} (hI : gI B) (V : gMem) (b : Nat) (S : gSt) (hb : b < 3) (hS : AbsC V b S) (hn : S.1 6 ≤ 16) (hmem : ∀ i ∈ S.2.1 2, i < S.1 6) : gM l B yX0_weightOnBridge cX0_weightOnBridge 4 (some .int) rmX0_weightOnBridge [.ref (B.2.1 10 b 0)] V (fun v V' => v = some (.int (nI (sW S))) ∧ V' = V) := by
  refine gM_of (own := RX0) (L := [(0, .ref (B.2.1 10 b 0))]) (by decide +kernel) rfl hI (Nat.le_of_ble_eq_true rfl) rfl ?_
  intro Z hnL hR X F
  have hlen : (S.2.1 2).length ≤ 16 := hS.bnd (by decide)
  refine g_iconst X 0 (by decide) dX0_weightOnBridge_0 ?_
  refine g_istore_n X rfl dX0_weightOnBridge_1 [(1, .int 0), (0, .ref (B.2.1 10 b 0))] rfl (gnl_lt hnL (by decide)) ?_
  refine g_iconst X 0 (by decide) dX0_weightOnBridge_2 ?_
  refine g_istore_n X rfl dX0_weightOnBridge_3 [(2, .int 0), (1, .int 0), (0, .ref (B.2.1 10 b 0))] rfl (gnl_lt hnL (by decide)) ?_
  refine gG_L [2, 1, 0] (L' := [(0, .ref (B.2.1 10 b 0)), (1, .int 0), (2, .int 0)]) rfl ?_
  have loop : ∀ (f : Nat) (j : Nat) , j + f = (S.2.1 2).length →  gG Z B (0, 0) V 4 [(0, .ref (B.2.1 10 b 0)), (1, .int (nI ((((S.2.1 2).take j).map (fun i => S.2.2.2.1 i 3)).sum))), (2, .int (nI j))] [] := by
    intro f
    induction f with
    | zero =>
      intro j  hf 
      refine g_iload_n X 2 rfl dX0_weightOnBridge_4 ?_
      refine g_aload_n X 0 rfl dX0_weightOnBridge_5 ?_
      refine gg_X0_crossing X (gP_10 (by first | assumption | decide | omega)) fX0_43 dX0_weightOnBridge_6 ?_
      refine gg_X5_size X (gP_13 (by first | assumption | decide | omega) (by first | assumption | decide | omega)) fX0_80 dX0_weightOnBridge_9 ?_
      refine gG_top (nI (S.2.1 2).length) ((hS.2.1 2 (by decide)).1) ?_
      refine g_icmp_ge X 45 (by decide) dX0_weightOnBridge_12 (fun c1 => ?_) (fun c1 => ?_)
      · refine g_iload_n X 1 rfl dX0_weightOnBridge_45 ?_
        refine g_iret X F ?_ rfl dX0_weightOnBridge_46
        exact ⟨by rw [show sW S = (((S.2.1 2).take j).map (fun i => S.2.2.2.1 i 3)).sum by rw [List.take_of_length_le (by omega)]; rfl], rfl⟩
      · first | exact absurd (nI_le (by omega) (by omega)) c1 | exact absurd c1 (nI_le (by omega) (by omega))
    | succ f ih =>
      intro j  hf 
      refine g_iload_n X 2 rfl dX0_weightOnBridge_4 ?_
      refine g_aload_n X 0 rfl dX0_weightOnBridge_5 ?_
      refine gg_X0_crossing X (gP_10 (by first | assumption | decide | omega)) fX0_43 dX0_weightOnBridge_6 ?_
      refine gg_X5_size X (gP_13 (by first | assumption | decide | omega) (by first | assumption | decide | omega)) fX0_80 dX0_weightOnBridge_9 ?_
      refine gG_top (nI (S.2.1 2).length) ((hS.2.1 2 (by decide)).1) ?_
      refine g_icmp_ge X 45 (by decide) dX0_weightOnBridge_12 (fun c2 => ?_) (fun c2 => ?_)
      · first | exact absurd (nI_ge (by omega) (by omega)) c2 | exact absurd c2 (nI_ge (by omega) (by omega))
      · refine g_aload_n X 0 rfl dX0_weightOnBridge_15 ?_
        refine g_aload_n X 0 rfl dX0_weightOnBridge_16 ?_
        refine gg_X0_crossing X (gP_10 (by first | assumption | decide | omega)) fX0_43 dX0_weightOnBridge_17 ?_
        refine g_iload_n X 2 rfl dX0_weightOnBridge_20 ?_
        refine g_callV X hR (rest := [.ref (B.2.1 10 b 0)]) mX5_at lX0_83 (k_at hI V b 2 (S.2.1 2) j (by first | assumption | decide | omega) (by first | assumption | decide | omega) (hS.2.1 2 (by decide)) (by omega)) rfl rfl (Nat.le_of_ble_eq_true rfl) (gP_13 (by first | assumption | decide | omega) (by first | assumption | decide | omega)) rfl rfl rfl ⟨Nat.le_of_ble_eq_true rfl, Nat.le_of_ble_eq_true rfl, Nat.le_of_ble_eq_true rfl, Nat.le_of_ble_eq_true rfl⟩ dX0_weightOnBridge_21 (fun r3 V4 h5 => ?_)
        refine gG_ret h5.1 h5.2 ?_
        refine gG_st [.int (lat (S.2.1 2) j), .ref (B.2.1 10 b 0)] rfl ?_
        obtain ⟨i, hgi⟩ := get_some (xs := S.2.1 2) (j := j) (by omega)
        have hmi : i ∈ S.2.1 2 := List.mem_of_getElem? hgi
        have hli := hmem i hmi
        refine gG_top (nI i) (lat_some hgi) ?_
        refine g_callV X hR (rest := []) mX0_cartAt lX0_57 (k_cartAt hI V b S i (by first | assumption | decide | omega) hS (by first | assumption | decide | omega) (by first | assumption | decide | omega)) rfl rfl (Nat.le_of_ble_eq_true rfl) (gP_10 (by first | assumption | decide | omega)) rfl rfl rfl ⟨Nat.le_of_ble_eq_true rfl, Nat.le_of_ble_eq_true rfl, Nat.le_of_ble_eq_true rfl, Nat.le_of_ble_eq_true rfl⟩ dX0_weightOnBridge_24 (fun r6 V7 h8 => ?_)
        refine gG_ret h8.1 h8.2 ?_
        refine gG_st [.ref (B.2.1 15 b i)] rfl ?_
        refine g_astore_n X rfl dX0_weightOnBridge_27 [(3, .ref (B.2.1 15 b i)), (0, .ref (B.2.1 10 b 0)), (1, .int (nI ((((S.2.1 2).take j).map (fun i => S.2.2.2.1 i 3)).sum))), (2, .int (nI j))] rfl (gnl_lt hnL (by decide)) ?_
        refine g_aload_n X 0 rfl dX0_weightOnBridge_28 ?_
        refine g_ifnull X dX0_weightOnBridge_29 ?_
        refine g_iload_n X 2 rfl dX0_weightOnBridge_32 ?_
        refine g_aload_n X 0 rfl dX0_weightOnBridge_33 ?_
        refine gg_X1_weight X (gP_15 (by first | assumption | decide | omega) (by first | assumption | decide | omega)) fX0_87 dX0_weightOnBridge_34 ?_
        refine gG_top (nI (S.2.2.2.1 i 3)) (hS.2.2.2.1 i (by first | assumption | omega) 3 (by decide) (by decide)) ?_
        refine g_iadd X dX0_weightOnBridge_37 ?_
        refine gG_top (nI (((((S.2.1 2).take j).map (fun i => S.2.2.2.1 i 3)).sum) + (S.2.2.2.1 i 3))) (nI_add ((((S.2.1 2).take j).map (fun i => S.2.2.2.1 i 3)).sum) (S.2.2.2.1 i 3)) ?_
        refine gG_top (nI ((((S.2.1 2).take (j + 1)).map (fun i => S.2.2.2.1 i 3)).sum)) (by rw [take_sum _ hgi]) ?_
        refine g_istore_n X rfl dX0_weightOnBridge_38 [(1, .int (nI ((((S.2.1 2).take (j + 1)).map (fun i => S.2.2.2.1 i 3)).sum))), (3, .ref (B.2.1 15 b i)), (0, .ref (B.2.1 10 b 0)), (2, .int (nI j))] rfl (gnl_lt hnL (by decide)) ?_
        refine g_iinc X 3 rfl (nI (j + 1)) (iinc_1 _) dX0_weightOnBridge_39 [(2, .int (nI (j + 1))), (1, .int (nI ((((S.2.1 2).take (j + 1)).map (fun i => S.2.2.2.1 i 3)).sum))), (3, .ref (B.2.1 15 b i)), (0, .ref (B.2.1 10 b 0))] rfl (gnl_lt hnL (by decide)) ?_
        refine g_goto X 4 (by decide) dX0_weightOnBridge_42 ?_
        refine gG_L [3, 1, 0] (L' := [(0, .ref (B.2.1 10 b 0)), (1, .int (nI ((((S.2.1 2).take (j + 1)).map (fun i => S.2.2.2.1 i 3)).sum))), (2, .int (nI (j + 1)))]) rfl ?_
        refine ih (j + 1) (by omega)
  exact loop (S.2.1 2).length 0 (by omega)

def sFree (S : gSt) : Bool := match (S.2.1 2).getLast? with
  | none => true
  | some l => decide (S.2.2.2.1 l 1 = S.1 1) && decide (0 < S.2.2.2.1 l 9)
def sRoom (S : gSt) (i : Nat) : Bool := sFree S && decide (sW S + S.2.2.2.1 i 3 ≤ S.1 3)
theorem llast_some {xs : List Nat} {l : Nat} (h : xs.getLast? = some l) : llast xs = nI l := by
  rw [List.getLast?_eq_getElem?] at h
  unfold llast
  rw [if_neg (by intro q; rw [List.length_eq_zero_iff.mp q] at h; cases h), lat_some h]
theorem llast_none {xs : List Nat} (h : xs.getLast? = none) : llast xs = -1 := by
  rw [List.getLast?_eq_none_iff] at h
  subst h
  rfl
theorem getLast_mem {xs : List Nat} {l : Nat} (h : xs.getLast? = some l) : l ∈ xs := List.mem_of_getLast? h
theorem sum_le {xs : List Nat} {f : Nat → Nat} {c : Nat} (h : ∀ i ∈ xs, f i ≤ c) : (xs.map f).sum ≤ xs.length * c := by
  induction xs with
  | nil => simp
  | cons a l ih =>
    have h1 := ih (fun i hi => h i (List.mem_cons_of_mem _ hi))
    have h2 := h a List.mem_cons_self
    simp only [List.map_cons, List.sum_cons, List.length_cons, Nat.succ_mul]
    omega

abbrev rmX0_hasRoomFor : Room := { frames := 3, cells := 0, slots := 0, locals := 65 }
set_option maxRecDepth 20000 in
theorem k_room {l : Launch} {B : gB} (hI : gI B) (V : gMem) (b : Nat) (S : gSt) (i : Nat) (hb : b < 3) (hS : AbsC V b S) (hn : sNumOk S) (hc : ∀ i, i < S.1 6 → sCartOk S i) (hmem : ∀ i ∈ S.2.1 2, i < S.1 6) (hway : ∀ i ∈ S.2.1 2, S.2.2.2.1 i 9 < S.1 2) (hi : i < S.1 6) : gM l B yX0_hasRoomFor cX0_hasRoomFor 4 (some .boolean) rmX0_hasRoomFor [.ref (B.2.1 10 b 0), .ref (B.2.1 15 b i)] V (fun v V' => v = some (.int (if sRoom S i = true then 1 else 0)) ∧ V' = V) := by
  refine gM_of (own := RX0) (L := [(0, .ref (B.2.1 10 b 0)), (1, .ref (B.2.1 15 b i))]) (by decide +kernel) rfl hI (Nat.le_of_ble_eq_true rfl) rfl ?_
  intro Z hnL hR X F
  have hN : S.1 6 ≤ 16 := hn.2.2.2.2.2
  have hlen : (S.2.1 2).length ≤ 16 := hS.bnd (by decide)
  have hW : sW S + S.2.2.2.1 i 3 ≤ 3400 := by
    have h1 := sum_le (f := fun i => S.2.2.2.1 i 3) (c := 200) (fun i hi => (hc i (hmem i hi)).2.2.1)
    have h2 := (hc i hi).2.2.1
    have h3 : (S.2.1 2).length * 200 ≤ 16 * 200 := Nat.mul_le_mul_right _ hlen
    unfold sW
    omega
  refine g_aload_n X 0 rfl dX0_hasRoomFor_0 ?_
  refine g_aload_n X 0 rfl dX0_hasRoomFor_1 ?_
  refine gg_X0_crossing X (gP_10 (by first | assumption | decide | omega)) fX0_43 dX0_hasRoomFor_2 ?_
  refine g_callV X hR (rest := [.ref (B.2.1 10 b 0)]) mX5_last lX0_184 (k_last hI V b 2 (S.2.1 2) (by first | assumption | decide | omega) (by first | assumption | decide | omega) (hS.2.1 2 (by decide))) rfl rfl (Nat.le_of_ble_eq_true rfl) (gP_13 (by first | assumption | decide | omega) (by first | assumption | decide | omega)) rfl rfl rfl ⟨Nat.le_of_ble_eq_true rfl, Nat.le_of_ble_eq_true rfl, Nat.le_of_ble_eq_true rfl, Nat.le_of_ble_eq_true rfl⟩ dX0_hasRoomFor_5 (fun r1 V2 h3 => ?_)
  refine gG_ret h3.1 h3.2 ?_
  refine gG_st [.int (llast (S.2.1 2)), .ref (B.2.1 10 b 0)] rfl ?_
  cases hlast : (S.2.1 2).getLast? with
  | none =>
    refine gG_top (-1) (llast_none hlast) ?_
    refine g_callV X hR (rest := []) mX0_cartAt lX0_57 (k_cartAtm hI V b S (by first | assumption | decide | omega) hS hN) rfl rfl (Nat.le_of_ble_eq_true rfl) (gP_10 (by first | assumption | decide | omega)) rfl rfl rfl ⟨Nat.le_of_ble_eq_true rfl, Nat.le_of_ble_eq_true rfl, Nat.le_of_ble_eq_true rfl, Nat.le_of_ble_eq_true rfl⟩ dX0_hasRoomFor_8 (fun r4 V5 h6 => ?_)
    refine gG_ret h6.1 h6.2 ?_
    refine gG_st [.null] rfl ?_
    refine g_astore_nN X rfl dX0_hasRoomFor_11 [(2, .null), (0, .ref (B.2.1 10 b 0)), (1, .ref (B.2.1 15 b i))] rfl (gnl_lt hnL (by decide)) ?_
    refine g_aload_nN X 0 rfl dX0_hasRoomFor_12 ?_
    refine g_ifnullN X 34 (by decide) dX0_hasRoomFor_13 ?_
    refine g_iconst X 1 (by decide) dX0_hasRoomFor_34 ?_
    refine g_goto X 39 (by decide) dX0_hasRoomFor_35 ?_
    have hfree : sFree S = true := by simp [sFree, hlast]
    have hz : True := trivial
    refine g_istore_n X rfl dX0_hasRoomFor_39 [(3, .int 1), (2, .null), (0, .ref (B.2.1 10 b 0)), (1, .ref (B.2.1 15 b i))] rfl (gnl_lt hnL (by decide)) ?_
    refine g_iload_n X 0 rfl dX0_hasRoomFor_40 ?_
    refine g_if_eq X 64 (by decide) dX0_hasRoomFor_41 (fun c7 => ?_) (fun c7 => ?_)
    ·  exact absurd c7 (by decide)
    · refine g_aload_n X 2 rfl dX0_hasRoomFor_44 ?_
      refine g_callV X hR (rest := []) mX0_weightOnBridge lX0_187 (k_wob hI V b S (by first | assumption | decide | omega) hS hN (by first | assumption | decide | omega)) rfl rfl (Nat.le_of_ble_eq_true rfl) (gP_10 (by first | assumption | decide | omega)) rfl rfl rfl ⟨Nat.le_of_ble_eq_true rfl, Nat.le_of_ble_eq_true rfl, Nat.le_of_ble_eq_true rfl, Nat.le_of_ble_eq_true rfl⟩ dX0_hasRoomFor_45 (fun r8 V9 h10 => ?_)
      refine gG_ret h10.1 h10.2 ?_
      refine gG_st [.int (nI (sW S))] rfl ?_
      refine g_aload_n X 3 rfl dX0_hasRoomFor_48 ?_
      refine gg_X1_weight X (gP_15 (by first | assumption | decide | omega) (by first | assumption | decide | omega)) fX0_87 dX0_hasRoomFor_49 ?_
      refine gG_top (nI (S.2.2.2.1 i 3)) (hS.2.2.2.1 i (by first | assumption | omega) 3 (by decide) (by decide)) ?_
      refine g_iadd X dX0_hasRoomFor_52 ?_
      refine gG_top (nI ((sW S) + (S.2.2.2.1 i 3))) (nI_add (sW S) (S.2.2.2.1 i 3)) ?_
      refine g_aload_n X 2 rfl dX0_hasRoomFor_53 ?_
      refine gg_X0_bears X (gP_10 (by first | assumption | decide | omega)) fX0_15 dX0_hasRoomFor_54 ?_
      refine gG_top (nI (S.1 3)) (hS.1 3 (by decide)) ?_
      refine g_icmp_gt X 64 (by decide) dX0_hasRoomFor_57 (fun c11 => ?_) (fun c11 => ?_)
      · refine g_iconst X 0 (by decide) dX0_hasRoomFor_64 ?_
        refine g_zret X F rfl ?_ rfl dX0_hasRoomFor_65
        have hq : S.1 3 < sW S + S.2.2.2.1 i 3 := ixlt c11 (by have := hn.2.2.1; omega) (by have := hW; omega)
        exact ⟨by simp [sRoom, hfree, hq], rfl⟩
      · refine g_iconst X 1 (by decide) dX0_hasRoomFor_60 ?_
        refine g_goto X 65 (by decide) dX0_hasRoomFor_61 ?_
        refine g_zret X F rfl ?_ rfl dX0_hasRoomFor_65
        have hq : sW S + S.2.2.2.1 i 3 ≤ S.1 3 := ixnlt c11 (by have := hn.2.2.1; omega) (by have := hW; omega)
        exact ⟨by simp [sRoom, hfree, hq], rfl⟩
  | some l =>
    have hml := getLast_mem hlast
    have hll := hmem l hml
    refine gG_top (nI l) (llast_some hlast) ?_
    refine g_callV X hR (rest := []) mX0_cartAt lX0_57 (k_cartAt hI V b S l (by first | assumption | decide | omega) hS hN hll) rfl rfl (Nat.le_of_ble_eq_true rfl) (gP_10 (by first | assumption | decide | omega)) rfl rfl rfl ⟨Nat.le_of_ble_eq_true rfl, Nat.le_of_ble_eq_true rfl, Nat.le_of_ble_eq_true rfl, Nat.le_of_ble_eq_true rfl⟩ dX0_hasRoomFor_8 (fun r12 V13 h14 => ?_)
    refine gG_ret h14.1 h14.2 ?_
    refine gG_st [.ref (B.2.1 15 b l)] rfl ?_
    refine g_astore_n X rfl dX0_hasRoomFor_11 [(2, .ref (B.2.1 15 b l)), (0, .ref (B.2.1 10 b 0)), (1, .ref (B.2.1 15 b i))] rfl (gnl_lt hnL (by decide)) ?_
    refine g_aload_n X 0 rfl dX0_hasRoomFor_12 ?_
    refine g_ifnull X dX0_hasRoomFor_13 ?_
    refine g_aload_n X 0 rfl dX0_hasRoomFor_16 ?_
    refine gg_X1_end X (gP_15 (by first | assumption | decide | omega) (by first | assumption | decide | omega)) fX0_100 dX0_hasRoomFor_17 ?_
    refine gG_top (nI (S.2.2.2.1 l 1)) (hS.2.2.2.1 l (by first | assumption | omega) 1 (by decide) (by decide)) ?_
    refine g_aload_n X 1 rfl dX0_hasRoomFor_20 ?_
    refine gg_X0_direction X (gP_10 (by first | assumption | decide | omega)) fX0_61 dX0_hasRoomFor_21 ?_
    refine gG_top (nI (S.1 1)) (hS.1 1 (by decide)) ?_
    refine g_icmp_ne X 38 (by decide) dX0_hasRoomFor_24 (fun c15 => ?_) (fun c15 => ?_)
    · refine g_iconst X 0 (by decide) dX0_hasRoomFor_38 ?_
      have hfree : sFree S = false := by
        have h1 : ¬ S.2.2.2.1 l 1 = S.1 1 := fun q => c15 (by rw [q])
        simp [sFree, hlast, h1]
      have hz : True := trivial
      refine g_istore_n X rfl dX0_hasRoomFor_39 [(3, .int 0), (2, .ref (B.2.1 15 b l)), (0, .ref (B.2.1 10 b 0)), (1, .ref (B.2.1 15 b i))] rfl (gnl_lt hnL (by decide)) ?_
      refine g_iload_n X 0 rfl dX0_hasRoomFor_40 ?_
      refine g_if_eq X 64 (by decide) dX0_hasRoomFor_41 (fun c16 => ?_) (fun c16 => ?_)
      · refine g_iconst X 0 (by decide) dX0_hasRoomFor_64 ?_
        refine g_zret X F rfl ?_ rfl dX0_hasRoomFor_65
        exact ⟨by simp [sRoom, hfree], rfl⟩
      ·  exact absurd c16 (by decide)
    · refine g_aload_n X 0 rfl dX0_hasRoomFor_27 ?_
      refine gg_X1_way X (gP_15 (by first | assumption | decide | omega) (by first | assumption | decide | omega)) fX0_133 dX0_hasRoomFor_28 ?_
      refine gG_top (nI (S.2.2.2.1 l 9)) (hS.2.2.2.1 l (by first | assumption | omega) 9 (by decide) (by decide)) ?_
      refine g_if_le X 38 (by decide) dX0_hasRoomFor_31 (fun c17 => ?_) (fun c17 => ?_)
      · refine g_iconst X 0 (by decide) dX0_hasRoomFor_38 ?_
        have hfree : sFree S = false := by
          have h2 : S.2.2.2.1 l 9 = 0 := ixle0 c17 (by have := hway l hml; have := hn.2.1; omega)
          simp [sFree, hlast, h2]
        have hz : True := trivial
        refine g_istore_n X rfl dX0_hasRoomFor_39 [(3, .int 0), (2, .ref (B.2.1 15 b l)), (0, .ref (B.2.1 10 b 0)), (1, .ref (B.2.1 15 b i))] rfl (gnl_lt hnL (by decide)) ?_
        refine g_iload_n X 0 rfl dX0_hasRoomFor_40 ?_
        refine g_if_eq X 64 (by decide) dX0_hasRoomFor_41 (fun c18 => ?_) (fun c18 => ?_)
        · refine g_iconst X 0 (by decide) dX0_hasRoomFor_64 ?_
          refine g_zret X F rfl ?_ rfl dX0_hasRoomFor_65
          exact ⟨by simp [sRoom, hfree], rfl⟩
        ·  exact absurd c18 (by decide)
      · refine g_iconst X 1 (by decide) dX0_hasRoomFor_34 ?_
        refine g_goto X 39 (by decide) dX0_hasRoomFor_35 ?_
        have hfree : sFree S = true := by
          have h1 : S.2.2.2.1 l 1 = S.1 1 := (nI_eq (by have := (hc l hll).1; omega) (by have := hn.1; omega)).mp c15
          have h2 : 0 < S.2.2.2.1 l 9 := ixnle0 c17 (by have := hway l hml; have := hn.2.1; omega)
          simp [sFree, hlast, h1, h2]
        have hz : True := trivial
        refine g_istore_n X rfl dX0_hasRoomFor_39 [(3, .int 1), (2, .ref (B.2.1 15 b l)), (0, .ref (B.2.1 10 b 0)), (1, .ref (B.2.1 15 b i))] rfl (gnl_lt hnL (by decide)) ?_
        refine g_iload_n X 0 rfl dX0_hasRoomFor_40 ?_
        refine g_if_eq X 64 (by decide) dX0_hasRoomFor_41 (fun c19 => ?_) (fun c19 => ?_)
        ·  exact absurd c19 (by decide)
        · refine g_aload_n X 2 rfl dX0_hasRoomFor_44 ?_
          refine g_callV X hR (rest := []) mX0_weightOnBridge lX0_187 (k_wob hI V b S (by first | assumption | decide | omega) hS hN (by first | assumption | decide | omega)) rfl rfl (Nat.le_of_ble_eq_true rfl) (gP_10 (by first | assumption | decide | omega)) rfl rfl rfl ⟨Nat.le_of_ble_eq_true rfl, Nat.le_of_ble_eq_true rfl, Nat.le_of_ble_eq_true rfl, Nat.le_of_ble_eq_true rfl⟩ dX0_hasRoomFor_45 (fun r20 V21 h22 => ?_)
          refine gG_ret h22.1 h22.2 ?_
          refine gG_st [.int (nI (sW S))] rfl ?_
          refine g_aload_n X 3 rfl dX0_hasRoomFor_48 ?_
          refine gg_X1_weight X (gP_15 (by first | assumption | decide | omega) (by first | assumption | decide | omega)) fX0_87 dX0_hasRoomFor_49 ?_
          refine gG_top (nI (S.2.2.2.1 i 3)) (hS.2.2.2.1 i (by first | assumption | omega) 3 (by decide) (by decide)) ?_
          refine g_iadd X dX0_hasRoomFor_52 ?_
          refine gG_top (nI ((sW S) + (S.2.2.2.1 i 3))) (nI_add (sW S) (S.2.2.2.1 i 3)) ?_
          refine g_aload_n X 2 rfl dX0_hasRoomFor_53 ?_
          refine gg_X0_bears X (gP_10 (by first | assumption | decide | omega)) fX0_15 dX0_hasRoomFor_54 ?_
          refine gG_top (nI (S.1 3)) (hS.1 3 (by decide)) ?_
          refine g_icmp_gt X 64 (by decide) dX0_hasRoomFor_57 (fun c23 => ?_) (fun c23 => ?_)
          · refine g_iconst X 0 (by decide) dX0_hasRoomFor_64 ?_
            refine g_zret X F rfl ?_ rfl dX0_hasRoomFor_65
            have hq : S.1 3 < sW S + S.2.2.2.1 i 3 := ixlt c23 (by have := hn.2.2.1; omega) (by have := hW; omega)
            exact ⟨by simp [sRoom, hfree, hq], rfl⟩
          · refine g_iconst X 1 (by decide) dX0_hasRoomFor_60 ?_
            refine g_goto X 65 (by decide) dX0_hasRoomFor_61 ?_
            refine g_zret X F rfl ?_ rfl dX0_hasRoomFor_65
            have hq : sW S + S.2.2.2.1 i 3 ≤ S.1 3 := ixnlt c23 (by have := hn.2.2.1; omega) (by have := hW; omega)
            exact ⟨by simp [sRoom, hfree, hq], rfl⟩

def sCome (S : gSt) : gSt := match S.2.1 (S.1 1) with
  | [] => S
  | i :: ys => if sRoom S i = true then
      (let S1 := sQ S (S.1 1) ys
       if S1.2.2.2.1 i 7 = 0 ∧ S1.2.2.2.1 i 5 < sDue S1 i then sC S1 i 8 3
       else
        let S2 := if S1.2.2.2.1 i 7 = 0 then sPay S1 (S.1 1) i else S1
        let S3 := sC S2 i 8 1
        let S4 := sC S3 i 9 0
        sQ S4 2 (S4.2.1 2 ++ [i]))
    else S
/-- all that a run keeps -/
def WF (S : gSt) : Prop := sNumOk S ∧ (∀ i, i < S.1 6 → sCartOk S i) ∧
  (∀ e, e < 2 → (S.2.1 e).Nodup ∧ ∀ i, i ∈ S.2.1 e ↔ (i < S.1 6 ∧ S.2.2.2.1 i 8 = 0 ∧ S.2.2.2.1 i 1 = e)) ∧
  (S.2.1 2).Pairwise (fun i j => S.2.2.2.1 j 9 < S.2.2.2.1 i 9) ∧ (∀ i, i ∈ S.2.1 2 ↔ (i < S.1 6 ∧ S.2.2.2.1 i 8 = 1)) ∧ (∀ i ∈ S.2.1 2, S.2.2.2.1 i 9 < S.1 2) ∧
  (∀ i ∈ S.2.1 2, ∀ j ∈ S.2.1 2, S.2.2.2.1 i 1 = S.2.2.2.1 j 1) ∧ (∀ i, i < S.1 6 → S.2.2.2.1 i 8 = 2 → ∃ t : Nat, t ≤ S.1 0 ∧ S.2.2.2.2 i = nI t)
theorem nodup_le : ∀ (n : Nat) (l : List Nat), l.Nodup → (∀ x ∈ l, x < n) → l.length ≤ n := by
  intro n
  induction n with
  | zero =>
    intro l _ h
    cases l with
    | nil => exact Nat.le_refl _
    | cons a l => exact absurd (h a List.mem_cons_self) (Nat.not_lt_zero _)
  | succ n ih =>
    intro l hn h
    have h1 := ih (l.erase n) (hn.erase n) (fun x hx => by
      have h2 := h x (List.mem_of_mem_erase hx)
      have h3 : x ≠ n := fun q => by subst q; exact (List.Nodup.mem_erase_iff hn).mp hx |>.1 rfl
      omega)
    have h4 := List.length_erase (a := n) (l := l)
    split at h4 <;> omega
theorem WF.ne {S : gSt} (h : WF S) : (S.2.1 2).Nodup := h.2.2.2.1.imp (fun q e => by subst e; exact Nat.lt_irrefl _ q)
theorem WF.mem {S : gSt} (h : WF S) {i : Nat} (hi : i ∈ S.2.1 2) : i < S.1 6 := ((h.2.2.2.2.1 i).mp hi).1
theorem WF.qmem {S : gSt} (h : WF S) {e i : Nat} (he : e < 2) (hi : i ∈ S.2.1 e) : i < S.1 6 ∧ S.2.2.2.1 i 8 = 0 ∧ S.2.2.2.1 i 1 = e := ((h.2.2.1 e he).2 i).mp hi
/-- a cart that waits: there is room for it in the row on the bridge -/
theorem WF.lt16 {S : gSt} (h : WF S) {i : Nat} (hi : i < S.1 6) (hs : S.2.2.2.1 i 8 ≠ 1) : (S.2.1 2).length < 16 := by
  have h1 : i ∉ S.2.1 2 := fun q => hs ((h.2.2.2.2.1 i).mp q).2
  have h2 := nodup_le (S.1 6) (i :: S.2.1 2) (List.nodup_cons.mpr ⟨h1, h.ne⟩) (fun x hx => by
    rcases List.mem_cons.mp hx with q | q
    · rw [q]; exact hi
    · exact h.mem q)
  have h3 := h.1.2.2.2.2.2
  simp only [List.length_cons] at h2
  omega
theorem WF.qlt16 {S : gSt} (h : WF S) {e i : Nat} (he : e < 2) (hi : i < S.1 6) (hs : ¬ i ∈ S.2.1 e) : (S.2.1 e).length < 16 := by
  have h2 := nodup_le (S.1 6) (i :: S.2.1 e) (List.nodup_cons.mpr ⟨hs, (h.2.2.1 e he).1⟩) (fun x hx => by
    rcases List.mem_cons.mp hx with q | q
    · rw [q]; exact hi
    · exact (h.qmem he q).1)
  have h3 := h.1.2.2.2.2.2
  simp only [List.length_cons] at h2
  omega
theorem lat_nil {xs : List Nat} (h : xs = []) : lat xs 0 = -1 := by subst h; rfl
theorem lat_cons {xs ys : List Nat} {i : Nat} (h : xs = i :: ys) : lat xs 0 = nI i := by subst h; rfl

abbrev rmX0_comeOn : Room := { frames := 4, cells := 0, slots := 0, locals := 88 }
set_option maxRecDepth 20000 in
theorem k_comeOn {l : Launch} {B : gB} (hI : gI B) (V : gMem) (b : Nat) (S : gSt) (hb : b < 3) (hS : AbsC V b S) (hw : WF S) : gM l B yX0_comeOn cX0_comeOn 3 none rmX0_comeOn [.ref (B.2.1 10 b 0)] V (fun v V' => v = none ∧ AbsC V' b (sCome S) ∧ brmod V V' b) := by
  refine gM_of (own := RX0) (L := [(0, .ref (B.2.1 10 b 0))]) (by decide +kernel) rfl hI (Nat.le_of_ble_eq_true rfl) rfl ?_
  intro Z hnL hR X F
  have hN : S.1 6 ≤ 16 := hw.1.2.2.2.2.2
  have hd : S.1 1 < 2 := by have := hw.1.1; omega
  refine g_aload_n X 0 rfl dX0_comeOn_0 ?_
  refine g_aload_n X 0 rfl dX0_comeOn_1 ?_
  refine gg_X0_direction X (gP_10 (by first | assumption | decide | omega)) fX0_61 dX0_comeOn_2 ?_
  refine gG_top (nI (S.1 1)) (hS.1 1 (by decide)) ?_
  refine g_callV X hR (rest := []) mX0_gateAt lX0_153 (k_gateAt hI V b (S.1 1) (by first | assumption | decide | omega) hd) rfl rfl (Nat.le_of_ble_eq_true rfl) (gP_10 (by first | assumption | decide | omega)) rfl rfl rfl ⟨Nat.le_of_ble_eq_true rfl, Nat.le_of_ble_eq_true rfl, Nat.le_of_ble_eq_true rfl, Nat.le_of_ble_eq_true rfl⟩ dX0_comeOn_5 (fun r1 V2 h3 => ?_)
  refine gG_ret h3.1 h3.2 ?_
  refine gG_st [.ref (B.2.1 12 b (S.1 1))] rfl ?_
  refine g_astore_n X rfl dX0_comeOn_8 [(1, .ref (B.2.1 12 b (S.1 1))), (0, .ref (B.2.1 10 b 0))] rfl (gnl_lt hnL (by decide)) ?_
  refine g_aload_n X 1 rfl dX0_comeOn_9 ?_
  refine g_aload_n X 0 rfl dX0_comeOn_10 ?_
  refine gg_X3_waiting X (gP_12 (by first | assumption | decide | omega) (by first | assumption | decide | omega)) fX0_157 dX0_comeOn_11 ?_
  refine g_iconst X 0 (by decide) dX0_comeOn_14 ?_
  refine g_callV X hR (rest := [.ref (B.2.1 10 b 0)]) mX5_at lX0_83 (k_at hI V b (S.1 1) (S.2.1 (S.1 1)) 0 (by first | assumption | decide | omega) (by omega) (hS.2.1 (S.1 1) (by omega)) (by first | assumption | decide | omega)) rfl rfl (Nat.le_of_ble_eq_true rfl) (gP_13 (by first | assumption | decide | omega) (by first | assumption | decide | omega)) rfl rfl rfl ⟨Nat.le_of_ble_eq_true rfl, Nat.le_of_ble_eq_true rfl, Nat.le_of_ble_eq_true rfl, Nat.le_of_ble_eq_true rfl⟩ dX0_comeOn_15 (fun r4 V5 h6 => ?_)
  refine gG_ret h6.1 h6.2 ?_
  refine gG_st [.int (lat (S.2.1 (S.1 1)) 0), .ref (B.2.1 10 b 0)] rfl ?_
  cases hq : S.2.1 (S.1 1) with
  | nil =>
    refine gG_top (-1) (lat_nil rfl) ?_
    refine g_callV X hR (rest := []) mX0_cartAt lX0_57 (k_cartAtm hI V b S (by first | assumption | decide | omega) hS (by first | assumption | decide | omega)) rfl rfl (Nat.le_of_ble_eq_true rfl) (gP_10 (by first | assumption | decide | omega)) rfl rfl rfl ⟨Nat.le_of_ble_eq_true rfl, Nat.le_of_ble_eq_true rfl, Nat.le_of_ble_eq_true rfl, Nat.le_of_ble_eq_true rfl⟩ dX0_comeOn_18 (fun r7 V8 h9 => ?_)
    refine gG_ret h9.1 h9.2 ?_
    refine gG_st [.null] rfl ?_
    refine g_astore_nN X rfl dX0_comeOn_21 [(2, .null), (1, .ref (B.2.1 12 b (S.1 1))), (0, .ref (B.2.1 10 b 0))] rfl (gnl_lt hnL (by decide)) ?_
    refine g_aload_nN X 0 rfl dX0_comeOn_22 ?_
    refine g_ifnullN X 34 (by decide) dX0_comeOn_23 ?_
    refine g_vret X F ?_ rfl dX0_comeOn_34
    rw [show sCome S = S by unfold sCome; rw [hq]]
    exact ⟨rfl, hS, brmod.rf⟩
  | cons i ys =>
    have hiq : i ∈ S.2.1 (S.1 1) := by rw [hq]; exact List.mem_cons_self
    obtain ⟨hi, hst, hend⟩ := hw.qmem hd hiq
    have hci := hw.2.1 i hi
    refine gG_top (nI i) (lat_cons rfl) ?_
    refine g_callV X hR (rest := []) mX0_cartAt lX0_57 (k_cartAt hI V b S i (by first | assumption | decide | omega) hS (by first | assumption | decide | omega) (by first | assumption | decide | omega)) rfl rfl (Nat.le_of_ble_eq_true rfl) (gP_10 (by first | assumption | decide | omega)) rfl rfl rfl ⟨Nat.le_of_ble_eq_true rfl, Nat.le_of_ble_eq_true rfl, Nat.le_of_ble_eq_true rfl, Nat.le_of_ble_eq_true rfl⟩ dX0_comeOn_18 (fun r10 V11 h12 => ?_)
    refine gG_ret h12.1 h12.2 ?_
    refine gG_st [.ref (B.2.1 15 b i)] rfl ?_
    refine g_astore_n X rfl dX0_comeOn_21 [(2, .ref (B.2.1 15 b i)), (1, .ref (B.2.1 12 b (S.1 1))), (0, .ref (B.2.1 10 b 0))] rfl (gnl_lt hnL (by decide)) ?_
    refine g_aload_n X 0 rfl dX0_comeOn_22 ?_
    refine g_ifnull X dX0_comeOn_23 ?_
    refine g_aload_n X 2 rfl dX0_comeOn_26 ?_
    refine g_aload_n X 0 rfl dX0_comeOn_27 ?_
    refine g_callV X hR (rest := []) mX0_hasRoomFor lX0_169 (k_room hI V b S i (by first | assumption | decide | omega) hS hw.1 hw.2.1 (fun _ q => hw.mem q) hw.2.2.2.2.2.1 hi) rfl rfl (Nat.le_of_ble_eq_true rfl) (gP_10 (by first | assumption | decide | omega)) rfl rfl rfl ⟨Nat.le_of_ble_eq_true rfl, Nat.le_of_ble_eq_true rfl, Nat.le_of_ble_eq_true rfl, Nat.le_of_ble_eq_true rfl⟩ dX0_comeOn_28 (fun r13 V14 h15 => ?_)
    refine gG_ret h15.1 h15.2 ?_
    refine gG_st [.int (if sRoom S i = true then 1 else 0)] rfl ?_
    by_cases hroom : sRoom S i = true
    · refine gG_top 1 (if_pos hroom) ?_
      refine g_if_ne X 35 (by decide) dX0_comeOn_31 (fun c16 => ?_) (fun c16 => ?_)
      · refine g_aload_n X 1 rfl dX0_comeOn_35 ?_
        refine gg_X3_waiting X (gP_12 (by first | assumption | decide | omega) (by first | assumption | decide | omega)) fX0_157 dX0_comeOn_36 ?_
        refine g_callV X hR (rest := []) mX5_removeFirst lX0_147 (k_removeFirst hI V b (S.1 1) i ys (by first | assumption | decide | omega) (by omega) (by have := hS.2.1 (S.1 1) (by omega); rw [hq] at this; exact this)) rfl rfl (Nat.le_of_ble_eq_true rfl) (gP_13 (by first | assumption | decide | omega) (by first | assumption | decide | omega)) rfl rfl rfl ⟨Nat.le_of_ble_eq_true rfl, Nat.le_of_ble_eq_true rfl, Nat.le_of_ble_eq_true rfl, Nat.le_of_ble_eq_true rfl⟩ dX0_comeOn_39 (fun r17 V18 h19 => ?_)
        refine gG_rv h19.1 ?_
        obtain ⟨-, hrowV18, hmodV18⟩ := h19
        obtain ⟨S20, eS20⟩ : ∃ y, y = sQ S (S.1 1) ys := ⟨_, rfl⟩
        have hS20 : AbsC V18 b S20 := by rw [eS20]; exact hS.setQ hrowV18 hmodV18
        have mS20 : brmod V V18 b := brmod.rf.trans hmodV18.br
        have nS20 : S20.1 = S.1 := by rw [eS20]; exact rfl
        refine gG_st [] rfl ?_
        have hc1 : sCartOk S20 i := by rw [eS20]; exact hci
        have hn1 : sNumOk S20 := by rw [eS20]; exact hw.1
        have hi1 : i < S20.1 6 := by rw [nS20]; exact hi
        have hst1 : S20.2.2.2.1 i 8 = 0 := by rw [eS20]; exact hst
        have hl1 : (S20.2.1 2).length < 16 := by rw [eS20]; show (if 2 = S.1 1 then ys else S.2.1 2).length < 16; rw [if_neg (by omega)]; exact hw.lt16 hi (by omega)
        refine g_aload_n X 0 rfl dX0_comeOn_42 ?_
        refine gg_X1_hasPaid X (gP_15 (by first | assumption | decide | omega) (by first | assumption | decide | omega)) fX0_173 dX0_comeOn_43 ?_
        refine gG_top (nI (S20.2.2.2.1 i 7)) (hS20.2.2.2.1 i (by rw [nS20]; first | assumption | omega) 7 (by decide) (by decide)) ?_
        by_cases hp : S20.2.2.2.1 i 7 = 0
        · refine gG_top 0 (by rw [hp]; rfl) ?_
          refine g_if_ne X 58 (by decide) dX0_comeOn_46 (fun c21 => ?_) (fun c21 => ?_)
          ·  exact absurd c21 (by decide)
          · refine g_aload_n X 2 rfl dX0_comeOn_49 ?_
            refine g_aload_n X 0 rfl dX0_comeOn_50 ?_
            refine g_aload_n X 1 rfl dX0_comeOn_51 ?_
            refine g_callV X hR (rest := []) mX0_pays lX0_177 (k_pays hI V18 b S20 (S.1 1) i (by first | assumption | decide | omega | (rw [nS20]; first | assumption | omega)) hS20 hd hi1 hn1 hc1) rfl rfl (Nat.le_of_ble_eq_true rfl) (gP_10 (by first | assumption | decide | omega)) rfl rfl rfl ⟨Nat.le_of_ble_eq_true rfl, Nat.le_of_ble_eq_true rfl, Nat.le_of_ble_eq_true rfl, Nat.le_of_ble_eq_true rfl⟩ dX0_comeOn_52 (fun r22 V23 h24 => ?_)
            refine gG_rv h24.1 ?_
            obtain ⟨-, haV23, hbV23⟩ := h24
            obtain ⟨S25, eS25⟩ : ∃ y, y = if S20.2.2.2.1 i 5 < sDue S20 i then S20 else sPay S20 (S.1 1) i := ⟨_, rfl⟩
            have hS25 : AbsC V23 b S25 := by rw [eS25]; exact haV23
            have mS25 : brmod V V23 b := mS20.trans hbV23
            refine gG_st [.int (if S20.2.2.2.1 i 5 < sDue S20 i then 0 else 1)] rfl ?_
            by_cases hd2 : S20.2.2.2.1 i 5 < sDue S20 i
            · refine gG_top 0 (if_pos hd2) ?_
              refine g_if_eq X 82 (by decide) dX0_comeOn_55 (fun c26 => ?_) (fun c26 => ?_)
              · have eP : S25 = S20 := by rw [eS25]; exact if_pos hd2
                refine g_aload_n X 0 rfl dX0_comeOn_82 ?_
                refine g_iconst X 3 (by decide) dX0_comeOn_83 ?_
                refine gp_X1_state X (gP_15 (by first | assumption | decide | omega) (by first | assumption | decide | omega)) fX0_74 dX0_comeOn_84 ?_
                refine gG_nm (fun V27 hV27 => ?_)
                obtain ⟨S28, eS28⟩ : ∃ y, y = sC S25 i 8 3 := ⟨_, rfl⟩
                have hS28 : AbsC V27 b S28 := by rw [eS28, hV27]; exact hS25.setC i 8 3 (by decide)
                have mS28 : brmod V V27 b := by rw [hV27]; exact mS25.up (by decide) (by decide)
                have nS28 : S28.1 = S25.1 := by rw [eS28]; exact rfl
                refine g_vret X F ?_ rfl dX0_comeOn_87
                have hfin : S28 = sCome S := by
                  rw [eS28, eP]
                  unfold sCome
                  rw [hq]
                  simp only []
                  rw [if_pos hroom]
                  rw [eS20] at hp hd2 ⊢
                  rw [if_pos ⟨hp, hd2⟩]
                exact ⟨rfl, hfin ▸ hS28, mS28⟩
              ·  exact absurd c26 (by decide)
            · refine gG_top 1 (if_neg hd2) ?_
              refine g_if_eq X 82 (by decide) dX0_comeOn_55 (fun c29 => ?_) (fun c29 => ?_)
              ·  exact absurd c29 (by decide)
              · have eP : S25 = sPay S20 (S.1 1) i := by rw [eS25]; exact if_neg hd2
                have hl2 : (S25.2.1 2).length < 16 := by rw [eP]; exact hl1
                have hi2 : i < S25.1 6 := by rw [eP]; exact hi1
                refine g_aload_n X 0 rfl dX0_comeOn_58 ?_
                refine g_iconst X 1 (by decide) dX0_comeOn_59 ?_
                refine gp_X1_state X (gP_15 (by first | assumption | decide | omega) (by first | assumption | decide | omega)) fX0_74 dX0_comeOn_60 ?_
                refine gG_nm (fun V30 hV30 => ?_)
                obtain ⟨S31, eS31⟩ : ∃ y, y = sC S25 i 8 1 := ⟨_, rfl⟩
                have hS31 : AbsC V30 b S31 := by rw [eS31, hV30]; exact hS25.setC i 8 1 (by decide)
                have mS31 : brmod V V30 b := by rw [hV30]; exact mS25.up (by decide) (by decide)
                have nS31 : S31.1 = S25.1 := by rw [eS31]; exact rfl
                refine g_aload_n X 0 rfl dX0_comeOn_63 ?_
                refine g_iconst X 0 (by decide) dX0_comeOn_64 ?_
                refine gp_X1_way X (gP_15 (by first | assumption | decide | omega) (by first | assumption | decide | omega)) fX0_133 dX0_comeOn_65 ?_
                refine gG_nm (fun V32 hV32 => ?_)
                obtain ⟨S33, eS33⟩ : ∃ y, y = sC S31 i 9 0 := ⟨_, rfl⟩
                have hS33 : AbsC V32 b S33 := by rw [eS33, hV32]; exact hS31.setC i 9 0 (by decide)
                have mS33 : brmod V V32 b := by rw [hV32]; exact mS31.up (by decide) (by decide)
                have nS33 : S33.1 = S25.1 := by rw [eS33]; exact nS31
                refine g_aload_n X 2 rfl dX0_comeOn_68 ?_
                refine gg_X0_crossing X (gP_10 (by first | assumption | decide | omega)) fX0_43 dX0_comeOn_69 ?_
                refine g_aload_n X 0 rfl dX0_comeOn_72 ?_
                refine gg_X1_number X (gP_15 (by first | assumption | decide | omega) (by first | assumption | decide | omega)) fX0_160 dX0_comeOn_73 ?_
                refine gG_top (nI i) (hS33.2.2.2.2.2 i (by first | assumption | omega)) ?_
                refine g_callV X hR (rest := []) mX5_addLast lX0_181 (k_addLast hI V32 b 2 (S33.2.1 2) i (by first | assumption | decide | omega | (rw [nS33]; first | assumption | omega)) (by first | assumption | decide | omega | (rw [nS33]; first | assumption | omega)) (hS33.2.1 2 (by decide)) (by rw [eS33, eS31]; exact hl2)) rfl rfl (Nat.le_of_ble_eq_true rfl) (gP_13 (by first | assumption | decide | omega) (by first | assumption | decide | omega)) rfl rfl rfl ⟨Nat.le_of_ble_eq_true rfl, Nat.le_of_ble_eq_true rfl, Nat.le_of_ble_eq_true rfl, Nat.le_of_ble_eq_true rfl⟩ dX0_comeOn_76 (fun r34 V35 h36 => ?_)
                refine gG_rv h36.1 ?_
                obtain ⟨-, hrowV35, hmodV35⟩ := h36
                obtain ⟨S37, eS37⟩ : ∃ y, y = sQ S33 2 ((S33.2.1 2) ++ [i]) := ⟨_, rfl⟩
                have hS37 : AbsC V35 b S37 := by rw [eS37]; exact hS33.setQ hrowV35 hmodV35
                have mS37 : brmod V V35 b := mS33.trans hmodV35.br
                have nS37 : S37.1 = S25.1 := by rw [eS37]; exact nS33
                refine gG_st [] rfl ?_
                refine g_goto X 87 (by decide) dX0_comeOn_79 ?_
                refine g_vret X F ?_ rfl dX0_comeOn_87
                have hfin : S37 = sCome S := by
                  rw [eS37, eS33, eS31, eP]
                  unfold sCome
                  rw [hq]
                  simp only []
                  rw [if_pos hroom]
                  rw [eS20] at hp hd2 ⊢
                  rw [if_neg (fun q => hd2 q.2), if_pos hp]
                exact ⟨rfl, hfin ▸ hS37, mS37⟩
        · skip
          refine g_if_ne X 58 (by decide) dX0_comeOn_46 (fun c38 => ?_) (fun c38 => ?_)
          · refine g_aload_n X 0 rfl dX0_comeOn_58 ?_
            refine g_iconst X 1 (by decide) dX0_comeOn_59 ?_
            refine gp_X1_state X (gP_15 (by first | assumption | decide | omega) (by first | assumption | decide | omega)) fX0_74 dX0_comeOn_60 ?_
            refine gG_nm (fun V39 hV39 => ?_)
            obtain ⟨S40, eS40⟩ : ∃ y, y = sC S20 i 8 1 := ⟨_, rfl⟩
            have hS40 : AbsC V39 b S40 := by rw [eS40, hV39]; exact hS20.setC i 8 1 (by decide)
            have mS40 : brmod V V39 b := by rw [hV39]; exact mS20.up (by decide) (by decide)
            have nS40 : S40.1 = S.1 := by rw [eS40]; exact nS20
            refine g_aload_n X 0 rfl dX0_comeOn_63 ?_
            refine g_iconst X 0 (by decide) dX0_comeOn_64 ?_
            refine gp_X1_way X (gP_15 (by first | assumption | decide | omega) (by first | assumption | decide | omega)) fX0_133 dX0_comeOn_65 ?_
            refine gG_nm (fun V41 hV41 => ?_)
            obtain ⟨S42, eS42⟩ : ∃ y, y = sC S40 i 9 0 := ⟨_, rfl⟩
            have hS42 : AbsC V41 b S42 := by rw [eS42, hV41]; exact hS40.setC i 9 0 (by decide)
            have mS42 : brmod V V41 b := by rw [hV41]; exact mS40.up (by decide) (by decide)
            have nS42 : S42.1 = S.1 := by rw [eS42]; exact nS40
            refine g_aload_n X 2 rfl dX0_comeOn_68 ?_
            refine gg_X0_crossing X (gP_10 (by first | assumption | decide | omega)) fX0_43 dX0_comeOn_69 ?_
            refine g_aload_n X 0 rfl dX0_comeOn_72 ?_
            refine gg_X1_number X (gP_15 (by first | assumption | decide | omega) (by first | assumption | decide | omega)) fX0_160 dX0_comeOn_73 ?_
            refine gG_top (nI i) (hS42.2.2.2.2.2 i (by first | assumption | omega)) ?_
            refine g_callV X hR (rest := []) mX5_addLast lX0_181 (k_addLast hI V41 b 2 (S42.2.1 2) i (by first | assumption | decide | omega | (rw [nS42]; first | assumption | omega)) (by first | assumption | decide | omega | (rw [nS42]; first | assumption | omega)) (hS42.2.1 2 (by decide)) (by rw [eS42, eS40]; exact hl1)) rfl rfl (Nat.le_of_ble_eq_true rfl) (gP_13 (by first | assumption | decide | omega) (by first | assumption | decide | omega)) rfl rfl rfl ⟨Nat.le_of_ble_eq_true rfl, Nat.le_of_ble_eq_true rfl, Nat.le_of_ble_eq_true rfl, Nat.le_of_ble_eq_true rfl⟩ dX0_comeOn_76 (fun r43 V44 h45 => ?_)
            refine gG_rv h45.1 ?_
            obtain ⟨-, hrowV44, hmodV44⟩ := h45
            obtain ⟨S46, eS46⟩ : ∃ y, y = sQ S42 2 ((S42.2.1 2) ++ [i]) := ⟨_, rfl⟩
            have hS46 : AbsC V44 b S46 := by rw [eS46]; exact hS42.setQ hrowV44 hmodV44
            have mS46 : brmod V V44 b := mS42.trans hmodV44.br
            have nS46 : S46.1 = S.1 := by rw [eS46]; exact nS42
            refine gG_st [] rfl ?_
            refine g_goto X 87 (by decide) dX0_comeOn_79 ?_
            refine g_vret X F ?_ rfl dX0_comeOn_87
            have hfin : S46 = sCome S := by
              rw [eS46, eS42, eS40]
              unfold sCome
              rw [hq]
              simp only []
              rw [if_pos hroom]
              rw [eS20] at hp ⊢
              rw [if_neg (fun q => hp q.1), if_neg hp]
            exact ⟨rfl, hfin ▸ hS46, mS46⟩
          · first | exact absurd (nI_ne0 (by omega) (by have := hc1.2.2.2.2.2.2.1; omega)) c38 | exact absurd c38 (nI_ne0 (by omega) (by have := hc1.2.2.2.2.2.2.1; omega))
      ·  exact absurd c16 (by decide)
    · refine gG_top 0 (if_neg hroom) ?_
      refine g_if_ne X 35 (by decide) dX0_comeOn_31 (fun c47 => ?_) (fun c47 => ?_)
      ·  exact absurd c47 (by decide)
      · refine g_vret X F ?_ rfl dX0_comeOn_34
        rw [show sCome S = S by unfold sCome; rw [hq]; simp [hroom]]
        exact ⟨rfl, hS, brmod.rf⟩
end
section
/-! a tick on the bridge -/
def goOnL (pl tk : Nat) : List Nat → Nat → gSt → gSt × Nat
  | [], _, S => (S, 0)
  | i :: is, lim, S =>
    if min (S.2.2.2.1 i 9 + S.2.2.2.1 i 4) (lim - 1) < pl then goOnL pl tk is (min (S.2.2.2.1 i 9 + S.2.2.2.1 i 4) (lim - 1)) (sC S i 9 (min (S.2.2.2.1 i 9 + S.2.2.2.1 i 4) (lim - 1)))
    else ((goOnL pl tk is lim (sO (sC S i 8 2) i (nI tk))).1, (goOnL pl tk is lim (sO (sC S i 8 2) i (nI tk))).2 + 1)
def sGoOn (S : gSt) : gSt × Nat :=
  (sQ (goOnL (S.1 2) (S.1 0) (S.2.1 2) (S.1 2 + 4) S).1 2 ((S.2.1 2).drop (goOnL (S.1 2) (S.1 0) (S.2.1 2) (S.1 2 + 4) S).2), (goOnL (S.1 2) (S.1 0) (S.2.1 2) (S.1 2 + 4) S).2)
theorem goOnL_le (pl tk : Nat) : ∀ (is : List Nat) (lim : Nat) (S : gSt), (goOnL pl tk is lim S).2 ≤ is.length := by
  intro is
  induction is with
  | nil => intro lim S; exact Nat.le_refl _
  | cons i is ih =>
    intro lim S
    unfold goOnL
    split
    · exact Nat.le_succ_of_le (ih _ _)
    · exact Nat.succ_le_succ (ih _ _)
theorem sQ_sQ (S : gSt) (r : Nat) (a c : List Nat) : sQ (sQ S r a) r c = sQ S r c := by
  unfold sQ
  congr 1
  congr 1
  funext r'
  by_cases h : r' = r <;> simp [h]
theorem drop_cons {xs is : List Nat} {j i : Nat} (h : xs.drop j = i :: is) : xs[j]? = some i ∧ xs.drop (j + 1) = is ∧ j < xs.length := by
  have h1 : xs[j]? = some i := by
    have := congrArg (fun l => l[0]?) h
    simpa using this
  refine ⟨h1, ?_, (List.getElem?_eq_some_iff.mp h1).1⟩
  rw [← List.drop_drop, h]
  rfl
theorem drop_ex {xs : List Nat} {j : Nat} (h : j < xs.length) : ∃ c ys, xs.drop j = c :: ys := by
  cases hd : xs.drop j with
  | nil => have := congrArg List.length hd; simp at this; omega
  | cons c ys => exact ⟨c, ys, rfl⟩
theorem AbsC.sameQ {V : gMem} {b : Nat} {S : gSt} (h : AbsC V b S) {r : Nat} (hr : r < 3) {xs : List Nat} (e : S.2.1 r = xs) : AbsC V b (sQ S r xs) := h.setQ (e ▸ h.2.1 r hr) rowmod.rf
theorem nI_min {a c : Nat} (h : a ≤ c) : nI a = nI (min a c) := by rw [Nat.min_eq_left h]
theorem nI_min' {a c : Nat} (h : c ≤ a) : nI c = nI (min a c) := by rw [Nat.min_eq_right h]

theorem minI {a c : Nat} (ha : a < 2 ^ 31) (hc : c < 2 ^ 31) : (if nI c < nI a then nI c else nI a) = nI (min a c) := by
  by_cases h : c < a
  · rw [if_pos (nI_lt h ha), Nat.min_eq_right (Nat.le_of_lt h)]
  · rw [if_neg (nI_nlt (Nat.le_of_not_lt h) hc), Nat.min_eq_left (Nat.le_of_not_lt h)]

abbrev rmX0_goOn : Room := { frames := 2, cells := 0, slots := 0, locals := 42 }
set_option maxRecDepth 20000 in
theorem k_goOn {l : Launch} {B : gB} (hI : gI B) (V : gMem) (b : Nat) (S : gSt) (hb : b < 3) (hS : AbsC V b S) (hw : WF S) : gM l B yX0_goOn cX0_goOn 6 (some .int) rmX0_goOn [.ref (B.2.1 10 b 0)] V (fun v V' => v = some (.int (nI (sGoOn S).2)) ∧ AbsC V' b (sGoOn S).1 ∧ brmod V V' b) := by
  refine gM_of (own := RX0) (L := [(0, .ref (B.2.1 10 b 0))]) (by decide +kernel) rfl hI (Nat.le_of_ble_eq_true rfl) rfl ?_
  intro Z hnL hR X F
  refine g_iconst X 0 (by decide) dX0_goOn_0 ?_
  refine g_istore_n X rfl dX0_goOn_1 [(1, .int 0), (0, .ref (B.2.1 10 b 0))] rfl (gnl_lt hnL (by decide)) ?_
  refine g_aload_n X 1 rfl dX0_goOn_2 ?_
  refine gg_X0_places X (gP_10 (by first | assumption | decide | omega)) fX0_9 dX0_goOn_3 ?_
  refine gG_top (nI (S.1 2)) (hS.1 2 (by decide)) ?_
  refine g_iconst X 3 (by decide) dX0_goOn_6 ?_
  refine g_iadd X dX0_goOn_7 ?_
  refine gG_top (nI ((S.1 2) + 3)) (nI_add (S.1 2) 3) ?_
  refine g_istore_n X rfl dX0_goOn_8 [(2, .int (nI ((S.1 2) + 3))), (1, .int 0), (0, .ref (B.2.1 10 b 0))] rfl (gnl_lt hnL (by decide)) ?_
  refine gG_L [2, 1, 0] (L' := [(0, .ref (B.2.1 10 b 0)), (1, .int 0), (2, .int (nI ((S.1 2) + 3)))]) rfl ?_
  refine gG_Le [(0, .ref (B.2.1 10 b 0)), (1, .int (nI 0)), (2, .int (nI (S.1 2 + 4) - 1))] (by rw [show nI (S.1 2 + 4) - 1 = nI (S.1 2 + 3) from nI_pred _]; rfl) ?_
  refine g_iconst X 0 (by decide) dX0_goOn_9 ?_
  refine g_istore_n X rfl dX0_goOn_10 [(3, .int 0), (0, .ref (B.2.1 10 b 0)), (1, .int (nI 0)), (2, .int (nI (S.1 2 + 4) - 1))] rfl (gnl_lt hnL (by decide)) ?_
  refine gG_Le [(3, .int (nI 0)), (0, .ref (B.2.1 10 b 0)), (1, .int (nI 0)), (2, .int (nI (S.1 2 + 4) - 1))] rfl ?_
  refine gG_L [1, 2, 3, 0] (L' := [(0, .ref (B.2.1 10 b 0)), (1, .int (nI 0)), (2, .int (nI (S.1 2 + 4) - 1)), (3, .int (nI 0))]) rfl ?_
  have loop : ∀ (is : List Nat) (j m lim : Nat) (V1 : gMem) (S1 : gSt), j ≤ (S.2.1 2).length → (S.2.1 2).drop j = is → AbsC V1 b S1 → brmod V V1 b → S1.1 = S.1 ∧ S1.2.1 = S.2.1 → (∀ i ∈ is, S1.2.2.2.1 i 9 = S.2.2.2.1 i 9 ∧ S1.2.2.2.1 i 4 = S.2.2.2.1 i 4) → is.Pairwise (fun i j => S.2.2.2.1 j 9 < S.2.2.2.1 i 9) → (∀ i ∈ is, S.2.2.2.1 i 9 < lim) → lim ≤ 34 → goOnL (S.1 2) (S.1 0) (S.2.1 2) (S.1 2 + 4) S = ((goOnL (S.1 2) (S.1 0) is lim S1).1, (goOnL (S.1 2) (S.1 0) is lim S1).2 + m) → gG Z B (0, 0) V1 11 [(0, .ref (B.2.1 10 b 0)), (1, .int (nI m)), (2, .int (nI lim - 1)), (3, .int (nI j))] [] := by
    intro is
    induction is with
    | nil =>
      intro j m lim V1 S1 hjb hd hA hm hq1 hun hpw hlim hl34 hF
      have hX : (S1.2.1 2).length = (S.2.1 2).length := by rw [hq1.2]
      have hXl : (S.2.1 2).length ≤ 16 := hS.bnd (by decide)
      have hjl : (S.2.1 2).length ≤ j := by
        have := congrArg List.length hd; simp at this; omega
      have hmeq : (goOnL (S.1 2) (S.1 0) (S.2.1 2) (S.1 2 + 4) S) = (S1, m) := by rw [hF]; show (S1, 0 + m) = (S1, m); rw [Nat.zero_add]
      have hml : m ≤ (S.2.1 2).length := by
        have := goOnL_le (S.1 2) (S.1 0) (S.2.1 2) (S.1 2 + 4) S; rw [hmeq] at this; exact this
      refine g_iload_n X 3 rfl dX0_goOn_11 ?_
      refine g_aload_n X 0 rfl dX0_goOn_12 ?_
      refine gg_X0_crossing X (gP_10 (by first | assumption | decide | omega)) fX0_43 dX0_goOn_13 ?_
      refine gg_X5_size X (gP_13 (by first | assumption | decide | omega) (by first | assumption | decide | omega)) fX0_80 dX0_goOn_16 ?_
      refine gG_top (nI (S1.2.1 2).length) ((hA.2.1 2 (by decide)).1) ?_
      refine g_icmp_ge X 109 (by decide) dX0_goOn_19 (fun c1 => ?_) (fun c1 => ?_)
      · refine g_iconst X 0 (by decide) dX0_goOn_109 ?_
        refine g_istore_n X rfl dX0_goOn_110 [(3, .int 0), (0, .ref (B.2.1 10 b 0)), (1, .int (nI m)), (2, .int (nI lim - 1))] rfl (gnl_lt hnL (by decide)) ?_
        refine gG_L [1, 2, 0] (L' := [(0, .ref (B.2.1 10 b 0)), (1, .int (nI m)), (3, .int 0)]) rfl ?_
        have hS2 : sGoOn S = (sQ S1 2 ((S.2.1 2).drop m), m) := by simp only [sGoOn, hmeq]
        have loop2 : ∀ (f : Nat) (k : Nat) (V2 : gMem), k + f = m → AbsC V2 b (sQ S1 2 ((S.2.1 2).drop k)) → brmod V V2 b → gG Z B (0, 0) V2 111 [(0, .ref (B.2.1 10 b 0)), (1, .int (nI m)), (3, .int (nI k))] [] := by
          intro f
          induction f with
          | zero =>
            intro k V2 hf h2 m2
            refine g_iload_n X 2 rfl dX0_goOn_111 ?_
            refine g_iload_n X 1 rfl dX0_goOn_112 ?_
            refine g_icmp_ge X 129 (by decide) dX0_goOn_113 (fun c2 => ?_) (fun c2 => ?_)
            · refine g_iload_n X 1 rfl dX0_goOn_129 ?_
              refine g_iret X F ?_ rfl dX0_goOn_130
              have hkm : k = m := by omega
              subst hkm
              rw [hS2]
              exact ⟨rfl, h2, m2⟩
            · first | exact absurd (nI_le (by omega) (by omega)) c2 | exact absurd c2 (nI_le (by omega) (by omega))
          | succ f ih =>
            intro k V2 hf h2 m2
            obtain ⟨c, ys, hdr⟩ := drop_ex (xs := S.2.1 2) (j := k) (by omega)
            have hdc := drop_cons hdr
            have hrc : RowIs V2 b 2 (c :: ys) := by
              have h3 := h2.2.1 2 (by decide)
              simp only [sQ, if_true] at h3
              rw [hdr] at h3; exact h3
            refine g_iload_n X 2 rfl dX0_goOn_111 ?_
            refine g_iload_n X 1 rfl dX0_goOn_112 ?_
            refine g_icmp_ge X 129 (by decide) dX0_goOn_113 (fun c3 => ?_) (fun c3 => ?_)
            · first | exact absurd (nI_ge (by omega) (by omega)) c3 | exact absurd c3 (nI_ge (by omega) (by omega))
            · refine g_aload_n X 0 rfl dX0_goOn_116 ?_
              refine gg_X0_crossing X (gP_10 (by first | assumption | decide | omega)) fX0_43 dX0_goOn_117 ?_
              refine g_callV X hR (rest := []) mX5_removeFirst lX0_147 (k_removeFirst hI V2 b 2 c ys (by first | assumption | decide | omega) (by first | assumption | decide | omega) hrc) rfl rfl (Nat.le_of_ble_eq_true rfl) (gP_13 (by first | assumption | decide | omega) (by first | assumption | decide | omega)) rfl rfl rfl ⟨Nat.le_of_ble_eq_true rfl, Nat.le_of_ble_eq_true rfl, Nat.le_of_ble_eq_true rfl, Nat.le_of_ble_eq_true rfl⟩ dX0_goOn_120 (fun r4 V5 h6 => ?_)
              refine gG_rv h6.1 ?_
              obtain ⟨-, hrowV5, hmodV5⟩ := h6
              refine gG_st [] rfl ?_
              refine g_iinc X 2 rfl (nI (k + 1)) (iinc_1 _) dX0_goOn_123 [(3, .int (nI (k + 1))), (0, .ref (B.2.1 10 b 0)), (1, .int (nI m))] rfl (gnl_lt hnL (by decide)) ?_
              refine g_goto X 111 (by decide) dX0_goOn_126 ?_
              refine gG_L [1, 2, 0] (L' := [(0, .ref (B.2.1 10 b 0)), (1, .int (nI m)), (3, .int (nI (k + 1)))]) rfl ?_
              refine ih (k + 1) V5 (by omega) (by have := h2.setQ hrowV5 hmodV5; rw [sQ_sQ, ← hdc.2.1] at this; exact this) (m2.trans hmodV5.br)
        exact loop2 m 0 V1 (by omega) (hA.sameQ (by decide) (by rw [hq1.2]; simp)) hm
      · first | exact absurd (nI_le (by omega) (by omega)) c1 | exact absurd c1 (nI_le (by omega) (by omega))
    | cons i is ih =>
      intro j m lim V1 S1 hjb hd hA hm hq1 hun hpw hlim hl34 hF
      have hX : (S1.2.1 2).length = (S.2.1 2).length := by rw [hq1.2]
      have hXl : (S.2.1 2).length ≤ 16 := hS.bnd (by decide)
      obtain ⟨hg, hd2, hjl⟩ := drop_cons hd
      have him : i ∈ S.2.1 2 := List.mem_of_getElem? hg
      have hin : i < S.1 6 := hw.mem him
      have hin1 : i < S1.1 6 := by rw [hq1.1]; exact hin
      have hN : S.1 6 ≤ 16 := hw.1.2.2.2.2.2
      have hN1 : S1.1 6 ≤ 16 := by rw [hq1.1]; exact hN
      have hl0 := hlim i List.mem_cons_self
      have hpace := (hw.2.1 i hin).2.2.2.1
      have hpl := hw.1.2.1
      obtain ⟨hu9, hu4⟩ := hun i List.mem_cons_self
      rw [List.pairwise_cons] at hpw
      refine g_iload_n X 3 rfl dX0_goOn_11 ?_
      refine g_aload_n X 0 rfl dX0_goOn_12 ?_
      refine gg_X0_crossing X (gP_10 (by first | assumption | decide | omega)) fX0_43 dX0_goOn_13 ?_
      refine gg_X5_size X (gP_13 (by first | assumption | decide | omega) (by first | assumption | decide | omega)) fX0_80 dX0_goOn_16 ?_
      refine gG_top (nI (S1.2.1 2).length) ((hA.2.1 2 (by decide)).1) ?_
      refine g_icmp_ge X 109 (by decide) dX0_goOn_19 (fun c7 => ?_) (fun c7 => ?_)
      · first | exact absurd (nI_ge (by omega) (by omega)) c7 | exact absurd c7 (nI_ge (by omega) (by omega))
      · refine g_aload_n X 0 rfl dX0_goOn_22 ?_
        refine g_aload_n X 0 rfl dX0_goOn_23 ?_
        refine gg_X0_crossing X (gP_10 (by first | assumption | decide | omega)) fX0_43 dX0_goOn_24 ?_
        refine g_iload_n X 3 rfl dX0_goOn_27 ?_
        refine g_callV X hR (rest := [.ref (B.2.1 10 b 0)]) mX5_at lX0_83 (k_at hI V1 b 2 (S1.2.1 2) j (by first | assumption | decide | omega) (by first | assumption | decide | omega) (hA.2.1 2 (by decide)) (by omega)) rfl rfl (Nat.le_of_ble_eq_true rfl) (gP_13 (by first | assumption | decide | omega) (by first | assumption | decide | omega)) rfl rfl rfl ⟨Nat.le_of_ble_eq_true rfl, Nat.le_of_ble_eq_true rfl, Nat.le_of_ble_eq_true rfl, Nat.le_of_ble_eq_true rfl⟩ dX0_goOn_28 (fun r8 V9 h10 => ?_)
        refine gG_ret h10.1 h10.2 ?_
        refine gG_st [.int (lat (S1.2.1 2) j), .ref (B.2.1 10 b 0)] rfl ?_
        refine gG_top (nI i) (lat_some (by rw [hq1.2]; exact hg)) ?_
        refine g_callV X hR (rest := []) mX0_cartAt lX0_57 (k_cartAt hI V1 b S1 i (by first | assumption | decide | omega) hA hN1 hin1) rfl rfl (Nat.le_of_ble_eq_true rfl) (gP_10 (by first | assumption | decide | omega)) rfl rfl rfl ⟨Nat.le_of_ble_eq_true rfl, Nat.le_of_ble_eq_true rfl, Nat.le_of_ble_eq_true rfl, Nat.le_of_ble_eq_true rfl⟩ dX0_goOn_31 (fun r11 V12 h13 => ?_)
        refine gG_ret h13.1 h13.2 ?_
        refine gG_st [.ref (B.2.1 15 b i)] rfl ?_
        refine g_astore X dX0_goOn_34 [(4, .ref (B.2.1 15 b i)), (0, .ref (B.2.1 10 b 0)), (1, .int (nI m)), (2, .int (nI lim - 1)), (3, .int (nI j))] rfl (gnl_lt hnL (by decide)) ?_
        refine g_aload X 0 rfl dX0_goOn_36 ?_
        refine g_ifnonnull X 44 (by decide) dX0_goOn_38 ?_
        refine g_aload X 0 rfl dX0_goOn_44 ?_
        refine gg_X1_way X (gP_15 (by first | assumption | decide | omega) (by first | assumption | decide | omega)) fX0_133 dX0_goOn_46 ?_
        refine gG_top (nI (S1.2.2.2.1 i 9)) (hA.2.2.2.1 i (by first | assumption | omega) 9 (by decide) (by decide)) ?_
        refine g_aload X 0 rfl dX0_goOn_49 ?_
        refine gg_X1_pace X (gP_15 (by first | assumption | decide | omega) (by first | assumption | decide | omega)) fX0_96 dX0_goOn_51 ?_
        refine gG_top (nI (S1.2.2.2.1 i 4)) (hA.2.2.2.1 i (by first | assumption | omega) 4 (by decide) (by decide)) ?_
        refine g_iadd X dX0_goOn_54 ?_
        refine gG_top (nI ((S1.2.2.2.1 i 9) + (S1.2.2.2.1 i 4))) (nI_add (S1.2.2.2.1 i 9) (S1.2.2.2.1 i 4)) ?_
        refine g_iload_n X 3 rfl dX0_goOn_55 ?_
        refine gG_top (nI (lim - 1)) (nI_dec (by omega)) ?_
        refine g_min X hR qL_X0_142 ⟨Nat.le_of_ble_eq_true rfl, Nat.le_of_ble_eq_true rfl, Nat.le_of_ble_eq_true rfl, Nat.le_of_ble_eq_true rfl⟩ (Nat.le_of_ble_eq_true rfl) dX0_goOn_56 ?_
        refine gG_top (nI (min (S1.2.2.2.1 i 9 + S1.2.2.2.1 i 4) (lim - 1))) (minI (by rw [hu9, hu4]; omega) (by omega)) ?_
        refine g_istore X dX0_goOn_59 [(5, .int (nI (min (S1.2.2.2.1 i 9 + S1.2.2.2.1 i 4) (lim - 1)))), (4, .ref (B.2.1 15 b i)), (0, .ref (B.2.1 10 b 0)), (1, .int (nI m)), (2, .int (nI lim - 1)), (3, .int (nI j))] rfl (gnl_lt hnL (by decide)) ?_
        refine g_iload X 0 rfl dX0_goOn_61 ?_
        refine g_aload_n X 2 rfl dX0_goOn_63 ?_
        refine gg_X0_places X (gP_10 (by first | assumption | decide | omega)) fX0_9 dX0_goOn_64 ?_
        refine gG_top (nI (S1.1 2)) (hA.1 2 (by decide)) ?_
        by_cases hlt : min (S1.2.2.2.1 i 9 + S1.2.2.2.1 i 4) (lim - 1) < S.1 2
        · skip
          refine g_icmp_ge X 85 (by decide) dX0_goOn_67 (fun c14 => ?_) (fun c14 => ?_)
          · first | exact absurd (nI_ge (by rw [hq1.1]; exact hlt) (by rw [hq1.1]; omega)) c14 | exact absurd c14 (nI_ge (by rw [hq1.1]; exact hlt) (by rw [hq1.1]; omega))
          · refine g_aload X 1 rfl dX0_goOn_70 ?_
            refine g_iload X 0 rfl dX0_goOn_72 ?_
            refine gp_X1_way X (gP_15 (by first | assumption | decide | omega) (by first | assumption | decide | omega)) fX0_133 dX0_goOn_74 ?_
            refine gG_nm (fun V15 hV15 => ?_)
            obtain ⟨S16, eS16⟩ : ∃ y, y = sC S1 i 9 (min (S1.2.2.2.1 i 9 + S1.2.2.2.1 i 4) (lim - 1)) := ⟨_, rfl⟩
            have hS16 : AbsC V15 b S16 := by rw [eS16, hV15]; exact hA.setC i 9 (min (S1.2.2.2.1 i 9 + S1.2.2.2.1 i 4) (lim - 1)) (by decide)
            have mS16 : brmod V V15 b := by rw [hV15]; exact hm.up (by decide) (by decide)
            have nS16 : S16.1 = S1.1 := by rw [eS16]; exact rfl
            refine g_iload X 0 rfl dX0_goOn_77 ?_
            refine g_iconst X 1 (by decide) dX0_goOn_79 ?_
            refine g_isub X dX0_goOn_80 ?_
            refine g_istore_n X rfl dX0_goOn_81 [(2, .int ((nI (min (S1.2.2.2.1 i 9 + S1.2.2.2.1 i 4) (lim - 1))) - 1)), (5, .int (nI (min (S1.2.2.2.1 i 9 + S1.2.2.2.1 i 4) (lim - 1)))), (4, .ref (B.2.1 15 b i)), (0, .ref (B.2.1 10 b 0)), (1, .int (nI m)), (3, .int (nI j))] rfl (gnl_lt hnL (by decide)) ?_
            refine g_goto X 103 (by decide) dX0_goOn_82 ?_
            refine g_iinc X 5 rfl (nI (j + 1)) (iinc_1 _) dX0_goOn_103 [(3, .int (nI (j + 1))), (2, .int ((nI (min (S1.2.2.2.1 i 9 + S1.2.2.2.1 i 4) (lim - 1))) - 1)), (5, .int (nI (min (S1.2.2.2.1 i 9 + S1.2.2.2.1 i 4) (lim - 1)))), (4, .ref (B.2.1 15 b i)), (0, .ref (B.2.1 10 b 0)), (1, .int (nI m))] rfl (gnl_lt hnL (by decide)) ?_
            refine g_goto X 11 (by decide) dX0_goOn_106 ?_
            refine gG_L [4, 5, 1, 0] (L' := [(0, .ref (B.2.1 10 b 0)), (1, .int (nI m)), (2, .int ((nI (min (S1.2.2.2.1 i 9 + S1.2.2.2.1 i 4) (lim - 1))) - 1)), (3, .int (nI (j + 1)))]) rfl ?_
            rw [goOnL] at hF
            rw [if_pos hlt] at hF
            refine ih (j + 1) m (min (S1.2.2.2.1 i 9 + S1.2.2.2.1 i 4) (lim - 1)) V15 S16 (by omega) hd2 hS16 mS16 ?_ (fun k hk => ?_) hpw.2 (fun k hk => ?_) (by omega) ?_
            · rw [eS16]; exact hq1
            · have hne : k ≠ i := fun h => by subst h; exact Nat.lt_irrefl _ (hpw.1 k hk)
              rw [eS16]
              simp only [sC]
              rw [if_neg (fun h => hne h.1), if_neg (fun h => hne h.1)]
              exact hun k (List.mem_cons_of_mem _ hk)
            · have := hpw.1 k hk; rw [hu9, hu4]; omega
            · rw [eS16]; exact hF
        · skip
          refine g_icmp_ge X 85 (by decide) dX0_goOn_67 (fun c17 => ?_) (fun c17 => ?_)
          · refine g_aload X 1 rfl dX0_goOn_85 ?_
            refine g_iconst X 2 (by decide) dX0_goOn_87 ?_
            refine gp_X1_state X (gP_15 (by first | assumption | decide | omega) (by first | assumption | decide | omega)) fX0_74 dX0_goOn_88 ?_
            refine gG_nm (fun V18 hV18 => ?_)
            obtain ⟨S19, eS19⟩ : ∃ y, y = sC S1 i 8 2 := ⟨_, rfl⟩
            have hS19 : AbsC V18 b S19 := by rw [eS19, hV18]; exact hA.setC i 8 2 (by decide)
            have mS19 : brmod V V18 b := by rw [hV18]; exact hm.up (by decide) (by decide)
            have nS19 : S19.1 = S1.1 := by rw [eS19]; exact rfl
            refine g_aload X 1 rfl dX0_goOn_91 ?_
            refine g_aload_n X 2 rfl dX0_goOn_93 ?_
            refine gg_X0_tick X (gP_10 (by first | assumption | decide | omega)) fX0_71 dX0_goOn_94 ?_
            refine gG_top (nI (S1.1 0)) ((hS19.1 0 (by decide)).trans (by rw [nS19])) ?_
            refine gp_X1_overTick X (gP_15 (by first | assumption | decide | omega) (by first | assumption | decide | omega)) fX0_90 dX0_goOn_97 ?_
            refine gG_nm (fun V20 hV20 => ?_)
            obtain ⟨S21, eS21⟩ : ∃ y, y = sO S19 i (nI (S1.1 0)) := ⟨_, rfl⟩
            have hS21 : AbsC V20 b S21 := by rw [eS21, hV20]; exact hS19.setO i (nI (S1.1 0))
            have mS21 : brmod V V20 b := by rw [hV20]; exact mS19.up (by decide) (by decide)
            have nS21 : S21.1 = S1.1 := by rw [eS21]; exact nS19
            refine g_iinc X 3 rfl (nI (m + 1)) (iinc_1 _) dX0_goOn_100 [(1, .int (nI (m + 1))), (5, .int (nI (min (S1.2.2.2.1 i 9 + S1.2.2.2.1 i 4) (lim - 1)))), (4, .ref (B.2.1 15 b i)), (0, .ref (B.2.1 10 b 0)), (2, .int (nI lim - 1)), (3, .int (nI j))] rfl (gnl_lt hnL (by decide)) ?_
            refine g_iinc X 5 rfl (nI (j + 1)) (iinc_1 _) dX0_goOn_103 [(3, .int (nI (j + 1))), (1, .int (nI (m + 1))), (5, .int (nI (min (S1.2.2.2.1 i 9 + S1.2.2.2.1 i 4) (lim - 1)))), (4, .ref (B.2.1 15 b i)), (0, .ref (B.2.1 10 b 0)), (2, .int (nI lim - 1))] rfl (gnl_lt hnL (by decide)) ?_
            refine g_goto X 11 (by decide) dX0_goOn_106 ?_
            refine gG_L [4, 1, 5, 0] (L' := [(0, .ref (B.2.1 10 b 0)), (1, .int (nI (m + 1))), (2, .int (nI lim - 1)), (3, .int (nI (j + 1)))]) rfl ?_
            rw [goOnL] at hF
            rw [if_neg hlt] at hF
            refine ih (j + 1) (m + 1) lim V20 S21 (by omega) hd2 hS21 mS21 ?_ (fun k hk => ?_) hpw.2 (fun k hk => hlim k (List.mem_cons_of_mem _ hk)) hl34 ?_
            · rw [eS21, eS19]; exact hq1
            · have hne : k ≠ i := fun h => by subst h; exact Nat.lt_irrefl _ (hpw.1 k hk)
              rw [eS21, eS19]
              simp only [sO, sC]
              rw [if_neg (fun h => hne h.1), if_neg (fun h => hne h.1)]
              exact hun k (List.mem_cons_of_mem _ hk)
            · rw [eS21, eS19, hF]; rw [hq1.1]; simp only [Nat.add_assoc, Nat.add_comm 1 m]
          · first | exact absurd (nI_le (by rw [hq1.1]; omega) (by omega)) c17 | exact absurd c17 (nI_le (by rw [hq1.1]; omega) (by omega))
  have hpl := hw.1.2.1
  exact loop (S.2.1 2) 0 0 (S.1 2 + 4) V S (Nat.zero_le _) (by simp) hS brmod.rf ⟨rfl, rfl⟩ (fun _ _ => ⟨rfl, rfl⟩) hw.2.2.2.1 (fun i hi => by have := hw.2.2.2.2.2.1 i hi; omega) (by omega) (by simp)
end
section
/-! going back -/
def backL : List Nat → gSt → gSt
  | [], S => S
  | i :: is, S => backL is (sC S i 9 (S.2.2.2.1 i 9 - 1))
def sLeave (S : gSt) (l : Nat) (ys : List Nat) : gSt :=
  let S1 := sC S l 8 0
  let S2 := sQ S1 (S1.2.2.2.1 l 1) (l :: S1.2.1 (S1.2.2.2.1 l 1))
  sQ S2 2 ys
def sGoBack (S : gSt) : gSt := match (S.2.1 2).reverse with
  | [] => S
  | l :: rs => if S.2.2.2.1 l 9 = 0 then backL rs (sLeave S l rs.reverse) else backL (l :: rs) S
theorem iinc_dec (x : Int32) : x + Int32.ofInt (-1) = x - 1 := by
  have h : Int32.ofInt (-1) = -1 := by decide
  rw [h, Int32.sub_eq_add_neg]
theorem maxI {w : Nat} {nr : Int32} (hw : w < 2 ^ 31) (h : nr = -1 ∨ ∃ v : Nat, nr = nI v ∧ v ≤ w) : (if nI w < nr then nr else nI w) = nI w := by
  rcases h with rfl | ⟨v, rfl, hv⟩
  · rw [if_neg]
    intro q
    exact absurd (Int32.lt_of_lt_of_le q (by decide : (-1 : Int32) ≤ 0)) (nI_pos hw)
  · rw [if_neg (nI_nlt hv hw)]

abbrev rmX0_goBack : Room := { frames := 2, cells := 0, slots := 0, locals := 43 }
set_option maxRecDepth 20000 in
theorem k_goBack {l : Launch} {B : gB} (hI : gI B) (V : gMem) (b : Nat) (S : gSt) (hb : b < 3) (hS : AbsC V b S) (hw : WF S) : gM l B yX0_goBack cX0_goBack 5 none rmX0_goBack [.ref (B.2.1 10 b 0)] V (fun v V' => v = none ∧ AbsC V' b (sGoBack S) ∧ brmod V V' b) := by
  refine gM_of (own := RX0) (L := [(0, .ref (B.2.1 10 b 0))]) (by decide +kernel) rfl hI (Nat.le_of_ble_eq_true rfl) rfl ?_
  intro Z hnL hR X F
  refine g_iconst X (-1) (by decide) dX0_goBack_0 ?_
  refine g_istore_n X rfl dX0_goBack_1 [(1, .int ((-1))), (0, .ref (B.2.1 10 b 0))] rfl (gnl_lt hnL (by decide)) ?_
  refine g_aload_n X 1 rfl dX0_goBack_2 ?_
  refine gg_X0_crossing X (gP_10 (by first | assumption | decide | omega)) fX0_43 dX0_goBack_3 ?_
  refine gg_X5_size X (gP_13 (by first | assumption | decide | omega) (by first | assumption | decide | omega)) fX0_80 dX0_goBack_6 ?_
  refine gG_top (nI (S.2.1 2).length) ((hS.2.1 2 (by decide)).1) ?_
  refine g_iconst X 1 (by decide) dX0_goBack_9 ?_
  refine g_isub X dX0_goBack_10 ?_
  refine g_istore_n X rfl dX0_goBack_11 [(2, .int ((nI (S.2.1 2).length) - 1)), (1, .int ((-1))), (0, .ref (B.2.1 10 b 0))] rfl (gnl_lt hnL (by decide)) ?_
  refine gG_L [2, 1, 0] (L' := [(0, .ref (B.2.1 10 b 0)), (1, .int ((-1))), (2, .int ((nI (S.2.1 2).length) - 1))]) rfl ?_
  have hXl : (S.2.1 2).length ≤ 16 := hS.bnd (by decide)
  have loop : ∀ (k : Nat) (V1 : gMem) (S1 : gSt) (nr : Int32), k ≤ (S.2.1 2).length → AbsC V1 b S1 → brmod V V1 b → S1.1 = S.1 → (∀ j, j < k → (S1.2.1 2)[j]? = (S.2.1 2)[j]?) → (∀ i ∈ (S.2.1 2).take k, S1.2.2.2.1 i 9 = S.2.2.2.1 i 9 ∧ 0 < S.2.2.2.1 i 9) → (nr = -1 ∨ ∃ v : Nat, nr = nI v ∧ ∀ i ∈ (S.2.1 2).take k, v < S.2.2.2.1 i 9) → sGoBack S = backL ((S.2.1 2).take k).reverse S1 → gG Z B (0, 0) V1 12 [(0, .ref (B.2.1 10 b 0)), (1, .int nr), (2, .int (nI k - 1))] [] := by
    intro k
    induction k with
    | zero =>
      intro V1 S1 nr hk hA hm hq1 hr1 hun hnr hF
      refine g_iload_n X 2 rfl dX0_goBack_12 ?_
      refine gG_top ((-1)) (by decide) ?_
      refine g_if_lt X 103 (by decide) dX0_goBack_13 (fun c1 => ?_) (fun c1 => ?_)
      · refine g_vret X F ?_ rfl dX0_goBack_103
        rw [hF]
        exact ⟨rfl, hA, hm⟩
      ·  exact absurd c1 (by decide)
    | succ k ih =>
      intro V1 S1 nr hk hA hm hq1 hr1 hun hnr hF
      obtain ⟨i, hg⟩ := get_some (xs := S.2.1 2) (j := k) (by omega)
      have him : i ∈ S.2.1 2 := List.mem_of_getElem? hg
      have hin : i < S.1 6 := hw.mem him
      have hin1 : i < S1.1 6 := by rw [hq1]; exact hin
      have hN : S.1 6 ≤ 16 := hw.1.2.2.2.2.2
      have hN1 : S1.1 6 ≤ 16 := by rw [hq1]; exact hN
      have htk : (S.2.1 2).take (k + 1) = (S.2.1 2).take k ++ [i] := by rw [List.take_add_one, hg]; rfl
      have hit : i ∈ (S.2.1 2).take (k + 1) := by rw [htk]; simp
      obtain ⟨hu, hpos⟩ := hun i hit
      have hw30 : S.2.2.2.1 i 9 < 30 := by have := hw.2.2.2.2.2.1 i him; have := hw.1.2.1; omega
      have hpw : ∀ a ∈ (S.2.1 2).take k, S.2.2.2.1 i 9 < S.2.2.2.1 a 9 := by
        have h9 := hw.2.2.2.1.sublist (List.take_sublist (k + 1) (S.2.1 2))
        rw [htk, List.pairwise_append] at h9
        exact fun a ha => h9.2.2 a ha i (List.mem_singleton.mpr rfl)
      have hX : k < (S1.2.1 2).length := by
        have h9 := hr1 k (Nat.lt_succ_self k)
        rw [hg] at h9
        exact (List.getElem?_eq_some_iff.mp h9).1
      have hX16 : (S1.2.1 2).length ≤ 16 := hA.bnd (by decide)
      refine g_iload_n X 2 rfl dX0_goBack_12 ?_
      refine gG_top (nI k) (nI_pred k) ?_
      refine g_if_lt X 103 (by decide) dX0_goBack_13 (fun c2 => ?_) (fun c2 => ?_)
      · first | exact absurd (nI_pos (by omega)) c2 | exact absurd c2 (nI_pos (by omega))
      · refine g_aload_n X 0 rfl dX0_goBack_16 ?_
        refine g_aload_n X 0 rfl dX0_goBack_17 ?_
        refine gg_X0_crossing X (gP_10 (by first | assumption | decide | omega)) fX0_43 dX0_goBack_18 ?_
        refine g_iload_n X 2 rfl dX0_goBack_21 ?_
        refine gG_top (nI k) (nI_pred k) ?_
        refine g_callV X hR (rest := [.ref (B.2.1 10 b 0)]) mX5_at lX0_83 (k_at hI V1 b 2 (S1.2.1 2) k (by first | assumption | decide | omega) (by first | assumption | decide | omega) (hA.2.1 2 (by decide)) (by omega)) rfl rfl (Nat.le_of_ble_eq_true rfl) (gP_13 (by first | assumption | decide | omega) (by first | assumption | decide | omega)) rfl rfl rfl ⟨Nat.le_of_ble_eq_true rfl, Nat.le_of_ble_eq_true rfl, Nat.le_of_ble_eq_true rfl, Nat.le_of_ble_eq_true rfl⟩ dX0_goBack_22 (fun r3 V4 h5 => ?_)
        refine gG_ret h5.1 h5.2 ?_
        refine gG_st [.int (lat (S1.2.1 2) k), .ref (B.2.1 10 b 0)] rfl ?_
        refine gG_top (nI i) (lat_some (by rw [hr1 k (Nat.lt_succ_self k)]; exact hg)) ?_
        refine g_callV X hR (rest := []) mX0_cartAt lX0_57 (k_cartAt hI V1 b S1 i (by first | assumption | decide | omega) hA hN1 hin1) rfl rfl (Nat.le_of_ble_eq_true rfl) (gP_10 (by first | assumption | decide | omega)) rfl rfl rfl ⟨Nat.le_of_ble_eq_true rfl, Nat.le_of_ble_eq_true rfl, Nat.le_of_ble_eq_true rfl, Nat.le_of_ble_eq_true rfl⟩ dX0_goBack_25 (fun r6 V7 h8 => ?_)
        refine gG_ret h8.1 h8.2 ?_
        refine gG_st [.ref (B.2.1 15 b i)] rfl ?_
        refine g_astore_n X rfl dX0_goBack_28 [(3, .ref (B.2.1 15 b i)), (0, .ref (B.2.1 10 b 0)), (1, .int nr), (2, .int (nI (k + 1) - 1))] rfl (gnl_lt hnL (by decide)) ?_
        refine g_aload_n X 0 rfl dX0_goBack_29 ?_
        refine g_ifnonnull X 36 (by decide) dX0_goBack_30 ?_
        refine g_aload_n X 0 rfl dX0_goBack_36 ?_
        refine gg_X1_way X (gP_15 (by first | assumption | decide | omega) (by first | assumption | decide | omega)) fX0_133 dX0_goBack_37 ?_
        refine gG_top (nI (S1.2.2.2.1 i 9)) (hA.2.2.2.1 i (by first | assumption | omega) 9 (by decide) (by decide)) ?_
        refine g_iconst X 1 (by decide) dX0_goBack_40 ?_
        refine g_isub X dX0_goBack_41 ?_
        refine gG_top (nI (S.2.2.2.1 i 9 - 1)) (by rw [hu]; exact nI_dec hpos) ?_
        refine g_iload_n X 2 rfl dX0_goBack_42 ?_
        refine g_max X hR qL_X0_150 ⟨Nat.le_of_ble_eq_true rfl, Nat.le_of_ble_eq_true rfl, Nat.le_of_ble_eq_true rfl, Nat.le_of_ble_eq_true rfl⟩ (Nat.le_of_ble_eq_true rfl) dX0_goBack_43 ?_
        refine gG_top (nI (S.2.2.2.1 i 9 - 1)) (maxI (by omega) (hnr.imp id (fun h => h.elim fun v h => ⟨v, h.1, by have := h.2 i hit; omega⟩))) ?_
        refine g_istore X dX0_goBack_46 [(4, .int (nI (S.2.2.2.1 i 9 - 1))), (3, .ref (B.2.1 15 b i)), (0, .ref (B.2.1 10 b 0)), (1, .int nr), (2, .int (nI (k + 1) - 1))] rfl (gnl_lt hnL (by decide)) ?_
        refine g_iload X 0 rfl dX0_goBack_48 ?_
        refine g_if_lt X 67 (by decide) dX0_goBack_50 (fun c9 => ?_) (fun c9 => ?_)
        · first | exact absurd (nI_pos (by omega)) c9 | exact absurd c9 (nI_pos (by omega))
        · refine g_aload_n X 1 rfl dX0_goBack_53 ?_
          refine g_iload X 0 rfl dX0_goBack_54 ?_
          refine gp_X1_way X (gP_15 (by first | assumption | decide | omega) (by first | assumption | decide | omega)) fX0_133 dX0_goBack_56 ?_
          refine gG_nm (fun V10 hV10 => ?_)
          obtain ⟨S11, eS11⟩ : ∃ y, y = sC S1 i 9 (S.2.2.2.1 i 9 - 1) := ⟨_, rfl⟩
          have hS11 : AbsC V10 b S11 := by rw [eS11, hV10]; exact hA.setC i 9 (S.2.2.2.1 i 9 - 1) (by decide)
          have mS11 : brmod V V10 b := by rw [hV10]; exact hm.up (by decide) (by decide)
          have nS11 : S11.1 = S1.1 := by rw [eS11]; exact rfl
          refine g_iload X 0 rfl dX0_goBack_59 ?_
          refine g_iconst X 1 (by decide) dX0_goBack_61 ?_
          refine g_iadd X dX0_goBack_62 ?_
          refine gG_top (nI ((S.2.2.2.1 i 9 - 1) + 1)) (nI_1 _) ?_
          refine gG_top (nI (S.2.2.2.1 i 9)) (by rw [Nat.sub_add_cancel hpos]) ?_
          refine g_istore_n X rfl dX0_goBack_63 [(1, .int (nI (S.2.2.2.1 i 9))), (4, .int (nI (S.2.2.2.1 i 9 - 1))), (3, .ref (B.2.1 15 b i)), (0, .ref (B.2.1 10 b 0)), (2, .int (nI (k + 1) - 1))] rfl (gnl_lt hnL (by decide)) ?_
          refine g_goto X 97 (by decide) dX0_goBack_64 ?_
          refine g_iinc X 4 rfl (nI k - 1) (by rw [nI_pred]; exact iinc_dec _) dX0_goBack_97 [(2, .int (nI k - 1)), (1, .int (nI (S.2.2.2.1 i 9))), (4, .int (nI (S.2.2.2.1 i 9 - 1))), (3, .ref (B.2.1 15 b i)), (0, .ref (B.2.1 10 b 0))] rfl (gnl_lt hnL (by decide)) ?_
          refine g_goto X 12 (by decide) dX0_goBack_100 ?_
          refine gG_L [4, 1, 0] (L' := [(0, .ref (B.2.1 10 b 0)), (1, .int (nI (S.2.2.2.1 i 9))), (2, .int (nI k - 1))]) rfl ?_
          refine ih V10 S11 (nI (S.2.2.2.1 i 9)) (by omega) hS11 mS11 (by rw [eS11]; exact hq1) (fun j hj => by rw [eS11]; exact hr1 j (by omega)) (fun a ha => ?_) (Or.inr ⟨_, rfl, hpw⟩) ?_
          · have h9 := hun a (by rw [htk]; exact List.mem_append_left _ ha)
            have hne : a ≠ i := fun h => by subst h; exact Nat.lt_irrefl _ (hpw a ha)
            rw [eS11]
            simp only [sC]
            rw [if_neg (fun h => hne h.1)]
            exact h9
          · rw [hF, htk, List.reverse_append, List.reverse_singleton, List.singleton_append, eS11, backL, hu]
  have hN : S.1 6 ≤ 16 := hw.1.2.2.2.2.2
  rcases List.eq_nil_or_concat (S.2.1 2) with hq | ⟨ys, l, hq⟩
  · exact loop (S.2.1 2).length V S (-1) (Nat.le_refl _) hS brmod.rf rfl (fun _ _ => rfl) (fun i hi => by rw [hq] at hi; simp at hi) (Or.inl rfl) (by unfold sGoBack; rw [hq]; rfl)
  · have hq : S.2.1 2 = ys ++ [l] := hq.trans (List.concat_eq_append ..)
    have hlm : l ∈ S.2.1 2 := by rw [hq]; simp
    have hrev : (S.2.1 2).reverse = l :: ys.reverse := by rw [hq]; simp
    have hpwl : ∀ a ∈ ys, S.2.2.2.1 l 9 < S.2.2.2.1 a 9 := by
      have h9 := hw.2.2.2.1
      rw [hq, List.pairwise_append] at h9
      exact fun a ha => h9.2.2 a ha l (List.mem_singleton.mpr rfl)
    by_cases hz : S.2.2.2.1 l 9 = 0
    · have hl : l < S.1 6 := hw.mem hlm
      have hcl := hw.2.1 l hl
      have hlen : (S.2.1 2).length = ys.length + 1 := by rw [hq]; simp
      have hst : S.2.2.2.1 l 8 = 1 := ((hw.2.2.2.2.1 l).mp hlm).2
      have hq16 : (S.2.1 (S.2.2.2.1 l 1)).length < 16 := hw.qlt16 (by have := hcl.1; omega) hl (fun h => by have := (hw.qmem (by have := hcl.1; omega) h).2.1; omega)
      refine g_iload_n X 2 rfl dX0_goBack_12 ?_
      refine gG_top (nI ys.length) (by rw [hlen]; exact nI_pred _) ?_
      refine g_if_lt X 103 (by decide) dX0_goBack_13 (fun c12 => ?_) (fun c12 => ?_)
      · first | exact absurd (nI_pos (by omega)) c12 | exact absurd c12 (nI_pos (by omega))
      · refine g_aload_n X 0 rfl dX0_goBack_16 ?_
        refine g_aload_n X 0 rfl dX0_goBack_17 ?_
        refine gg_X0_crossing X (gP_10 (by first | assumption | decide | omega)) fX0_43 dX0_goBack_18 ?_
        refine g_iload_n X 2 rfl dX0_goBack_21 ?_
        refine gG_top (nI ys.length) (by rw [hlen]; exact nI_pred _) ?_
        refine g_callV X hR (rest := [.ref (B.2.1 10 b 0)]) mX5_at lX0_83 (k_at hI V b 2 (S.2.1 2) ys.length (by first | assumption | decide | omega) (by first | assumption | decide | omega) (hS.2.1 2 (by decide)) (by omega)) rfl rfl (Nat.le_of_ble_eq_true rfl) (gP_13 (by first | assumption | decide | omega) (by first | assumption | decide | omega)) rfl rfl rfl ⟨Nat.le_of_ble_eq_true rfl, Nat.le_of_ble_eq_true rfl, Nat.le_of_ble_eq_true rfl, Nat.le_of_ble_eq_true rfl⟩ dX0_goBack_22 (fun r13 V14 h15 => ?_)
        refine gG_ret h15.1 h15.2 ?_
        refine gG_st [.int (lat (S.2.1 2) ys.length), .ref (B.2.1 10 b 0)] rfl ?_
        refine gG_top (nI l) (lat_some (by rw [hq]; simp)) ?_
        refine g_callV X hR (rest := []) mX0_cartAt lX0_57 (k_cartAt hI V b S l (by first | assumption | decide | omega) hS hN hl) rfl rfl (Nat.le_of_ble_eq_true rfl) (gP_10 (by first | assumption | decide | omega)) rfl rfl rfl ⟨Nat.le_of_ble_eq_true rfl, Nat.le_of_ble_eq_true rfl, Nat.le_of_ble_eq_true rfl, Nat.le_of_ble_eq_true rfl⟩ dX0_goBack_25 (fun r16 V17 h18 => ?_)
        refine gG_ret h18.1 h18.2 ?_
        refine gG_st [.ref (B.2.1 15 b l)] rfl ?_
        refine g_astore_n X rfl dX0_goBack_28 [(3, .ref (B.2.1 15 b l)), (0, .ref (B.2.1 10 b 0)), (1, .int ((-1))), (2, .int (nI (S.2.1 2).length - 1))] rfl (gnl_lt hnL (by decide)) ?_
        refine g_aload_n X 0 rfl dX0_goBack_29 ?_
        refine g_ifnonnull X 36 (by decide) dX0_goBack_30 ?_
        refine g_aload_n X 0 rfl dX0_goBack_36 ?_
        refine gg_X1_way X (gP_15 (by first | assumption | decide | omega) (by first | assumption | decide | omega)) fX0_133 dX0_goBack_37 ?_
        refine gG_top (nI (S.2.2.2.1 l 9)) (hS.2.2.2.1 l (by first | assumption | omega) 9 (by decide) (by decide)) ?_
        refine g_iconst X 1 (by decide) dX0_goBack_40 ?_
        refine g_isub X dX0_goBack_41 ?_
        refine gG_top ((-1)) (by rw [hz]; decide) ?_
        refine g_iload_n X 2 rfl dX0_goBack_42 ?_
        refine g_max X hR qL_X0_150 ⟨Nat.le_of_ble_eq_true rfl, Nat.le_of_ble_eq_true rfl, Nat.le_of_ble_eq_true rfl, Nat.le_of_ble_eq_true rfl⟩ (Nat.le_of_ble_eq_true rfl) dX0_goBack_43 ?_
        refine gG_top ((-1)) (by decide) ?_
        refine g_istore X dX0_goBack_46 [(4, .int ((-1))), (3, .ref (B.2.1 15 b l)), (0, .ref (B.2.1 10 b 0)), (1, .int ((-1))), (2, .int (nI (S.2.1 2).length - 1))] rfl (gnl_lt hnL (by decide)) ?_
        refine g_iload X 0 rfl dX0_goBack_48 ?_
        refine g_if_lt X 67 (by decide) dX0_goBack_50 (fun c19 => ?_) (fun c19 => ?_)
        · refine g_aload_n X 1 rfl dX0_goBack_67 ?_
          refine g_iconst X 0 (by decide) dX0_goBack_68 ?_
          refine gp_X1_state X (gP_15 (by first | assumption | decide | omega) (by first | assumption | decide | omega)) fX0_74 dX0_goBack_69 ?_
          refine gG_nm (fun V20 hV20 => ?_)
          obtain ⟨S21, eS21⟩ : ∃ y, y = sC S l 8 0 := ⟨_, rfl⟩
          have hS21 : AbsC V20 b S21 := by rw [eS21, hV20]; exact hS.setC l 8 0 (by decide)
          have mS21 : brmod V V20 b := by rw [hV20]; exact brmod.rf.up (by decide) (by decide)
          have nS21 : S21.1 = S.1 := by rw [eS21]; exact rfl
          have hE : S21.2.2.2.1 l 1 = S.2.2.2.1 l 1 := by rw [eS21]; simp [sC]
          have hE2 : S21.2.2.2.1 l 1 < 2 := by rw [hE]; have := hcl.1; omega
          refine g_aload_n X 2 rfl dX0_goBack_72 ?_
          refine g_aload_n X 1 rfl dX0_goBack_73 ?_
          refine gg_X1_end X (gP_15 (by first | assumption | decide | omega) (by first | assumption | decide | omega)) fX0_100 dX0_goBack_74 ?_
          refine gG_top (nI (S21.2.2.2.1 l 1)) (hS21.2.2.2.1 l (by rw [nS21]; first | assumption | omega) 1 (by decide) (by decide)) ?_
          refine g_callV X hR (rest := []) mX0_gateAt lX0_153 (k_gateAt hI V20 b (S21.2.2.2.1 l 1) (by first | assumption | decide | omega | (rw [nS21]; first | assumption | omega)) (by first | assumption | decide | omega | (rw [nS21]; first | assumption | omega))) rfl rfl (Nat.le_of_ble_eq_true rfl) (gP_10 (by first | assumption | decide | omega)) rfl rfl rfl ⟨Nat.le_of_ble_eq_true rfl, Nat.le_of_ble_eq_true rfl, Nat.le_of_ble_eq_true rfl, Nat.le_of_ble_eq_true rfl⟩ dX0_goBack_77 (fun r22 V23 h24 => ?_)
          refine gG_ret h24.1 h24.2 ?_
          refine gG_st [.ref (B.2.1 12 b (S21.2.2.2.1 l 1))] rfl ?_
          refine gg_X3_waiting X (gP_12 (by first | assumption | decide | omega) (by first | assumption | decide | omega)) fX0_157 dX0_goBack_80 ?_
          refine g_aload_n X 1 rfl dX0_goBack_83 ?_
          refine gg_X1_number X (gP_15 (by first | assumption | decide | omega) (by first | assumption | decide | omega)) fX0_160 dX0_goBack_84 ?_
          refine gG_top (nI l) (hS21.2.2.2.2.2 l (by first | assumption | omega)) ?_
          refine g_callV X hR (rest := []) mX5_addFirst lX0_163 (k_addFirst hI V20 b (S21.2.2.2.1 l 1) (S21.2.1 (S21.2.2.2.1 l 1)) l (by first | assumption | decide | omega | (rw [nS21]; first | assumption | omega)) (by first | assumption | decide | omega | (rw [nS21]; first | assumption | omega)) (hS21.2.1 _ (by omega)) (by rw [hE, eS21]; exact hq16)) rfl rfl (Nat.le_of_ble_eq_true rfl) (gP_13 (by first | assumption | decide | omega) (by first | assumption | decide | omega)) rfl rfl rfl ⟨Nat.le_of_ble_eq_true rfl, Nat.le_of_ble_eq_true rfl, Nat.le_of_ble_eq_true rfl, Nat.le_of_ble_eq_true rfl⟩ dX0_goBack_87 (fun r25 V26 h27 => ?_)
          refine gG_rv h27.1 ?_
          obtain ⟨-, hrowV26, hmodV26⟩ := h27
          obtain ⟨S28, eS28⟩ : ∃ y, y = sQ S21 (S21.2.2.2.1 l 1) (l :: (S21.2.1 (S21.2.2.2.1 l 1))) := ⟨_, rfl⟩
          have hS28 : AbsC V26 b S28 := by rw [eS28]; exact hS21.setQ hrowV26 hmodV26
          have mS28 : brmod V V26 b := mS21.trans hmodV26.br
          have nS28 : S28.1 = S.1 := by rw [eS28]; exact nS21
          refine gG_st [] rfl ?_
          refine g_aload_n X 2 rfl dX0_goBack_90 ?_
          refine gg_X0_crossing X (gP_10 (by first | assumption | decide | omega)) fX0_43 dX0_goBack_91 ?_
          refine g_callV X hR (rest := []) mX5_removeLast lX0_166 (k_removeLast hI V26 b 2 ys l (by first | assumption | decide | omega | (rw [nS28]; first | assumption | omega)) (by first | assumption | decide | omega | (rw [nS28]; first | assumption | omega)) (by
                  have h9 := hS28.2.1 2 (by decide)
                  rw [show S28.2.1 2 = ys ++ [l] by rw [eS28]; simp only [sQ]; rw [if_neg (by omega), eS21]; exact hq] at h9
                  exact h9)) rfl rfl (Nat.le_of_ble_eq_true rfl) (gP_13 (by first | assumption | decide | omega) (by first | assumption | decide | omega)) rfl rfl rfl ⟨Nat.le_of_ble_eq_true rfl, Nat.le_of_ble_eq_true rfl, Nat.le_of_ble_eq_true rfl, Nat.le_of_ble_eq_true rfl⟩ dX0_goBack_94 (fun r29 V30 h31 => ?_)
          refine gG_rv h31.1 ?_
          obtain ⟨-, hrowV30, hmodV30⟩ := h31
          obtain ⟨S32, eS32⟩ : ∃ y, y = sQ S28 2 ys := ⟨_, rfl⟩
          have hS32 : AbsC V30 b S32 := by rw [eS32]; exact hS28.setQ hrowV30 hmodV30
          have mS32 : brmod V V30 b := mS28.trans hmodV30.br
          have nS32 : S32.1 = S.1 := by rw [eS32]; exact nS28
          refine gG_st [] rfl ?_
          refine g_iinc X 4 rfl (nI ys.length - 1) (by rw [hlen, nI_pred]; exact iinc_dec _) dX0_goBack_97 [(2, .int (nI ys.length - 1)), (4, .int ((-1))), (3, .ref (B.2.1 15 b l)), (0, .ref (B.2.1 10 b 0)), (1, .int ((-1)))] rfl (gnl_lt hnL (by decide)) ?_
          refine g_goto X 12 (by decide) dX0_goBack_100 ?_
          refine gG_L [3, 4, 0] (L' := [(0, .ref (B.2.1 10 b 0)), (1, .int ((-1))), (2, .int (nI ys.length - 1))]) rfl ?_
          have hL : S32 = sLeave S l ys := by rw [eS32, eS28, eS21]; rfl
          refine loop ys.length V30 S32 (-1) (by omega) hS32 mS32 (by rw [hL]; rfl) (fun j hj => ?_) (fun i hi => ?_) (Or.inl rfl) ?_
          · rw [hL, hq]
            show ys[j]? = (ys ++ [l])[j]?
            rw [List.getElem?_append_left hj]
          · rw [hq, List.take_left'] at hi
            · have h9 := hpwl i hi
              have hne : i ≠ l := fun h => by subst h; exact Nat.lt_irrefl _ h9
              rw [hL]
              refine ⟨?_, by omega⟩
              simp only [sLeave, sQ, sC]
              rw [if_neg (fun h => hne h.1)]
            · rfl
          · unfold sGoBack
            rw [hrev]
            simp only []
            rw [if_pos hz, hL, hq, List.take_left' rfl, List.reverse_reverse]
        ·  exact absurd c19 (by decide)
    · exact loop (S.2.1 2).length V S (-1) (Nat.le_refl _) hS brmod.rf rfl (fun _ _ => rfl) (fun i hi => ⟨rfl, by
        rw [List.take_length, hq] at hi
        rcases List.mem_append.mp hi with h | h
        · have := hpwl i h; omega
        · rw [List.mem_singleton.mp h]; omega⟩) (Or.inl rfl) (by
        unfold sGoBack
        rw [hrev]
        simp only []
        rw [if_neg hz, List.take_length, hrev])
end
section
/-! what a tick keeps: pure facts of S -/
theorem dec_ne {S : gSt} {i : Nat} {is : List Nat} (h : ∀ k ∈ is, S.2.2.2.1 k 9 < S.2.2.2.1 i 9) : i ∉ is := fun q => Nat.lt_irrefl _ (h i q)
/-- what goOnL leaves as it is -/
theorem goOnL_same (pl tk : Nat) : ∀ (is : List Nat) (lim : Nat) (S : gSt), (goOnL pl tk is lim S).1.1 = S.1 ∧ (goOnL pl tk is lim S).1.2.1 = S.2.1 ∧ (goOnL pl tk is lim S).1.2.2.1 = S.2.2.1 ∧ (∀ i k, k ≠ 8 → k ≠ 9 → (goOnL pl tk is lim S).1.2.2.2.1 i k = S.2.2.2.1 i k) ∧ (∀ i, i ∉ is → (∀ k, (goOnL pl tk is lim S).1.2.2.2.1 i k = S.2.2.2.1 i k) ∧ (goOnL pl tk is lim S).1.2.2.2.2 i = S.2.2.2.2 i) := by
  intro is
  induction is with
  | nil => intro lim S; exact ⟨rfl, rfl, rfl, fun _ _ _ _ => rfl, fun _ _ => ⟨fun _ => rfl, rfl⟩⟩
  | cons i is ih =>
    intro lim S
    unfold goOnL
    split
    · obtain ⟨a1, a2, a3, a4, a5⟩ := ih (min (S.2.2.2.1 i 9 + S.2.2.2.1 i 4) (lim - 1)) (sC S i 9 (min (S.2.2.2.1 i 9 + S.2.2.2.1 i 4) (lim - 1)))
      refine ⟨a1, a2, a3, fun j k h8 h9 => ?_, fun j hj => ?_⟩
      · rw [a4 j k h8 h9]; simp [sC, h9]
      · have h1 : j ≠ i := fun q => hj (by rw [q]; exact List.mem_cons_self)
        obtain ⟨b1, b2⟩ := a5 j (fun q => hj (List.mem_cons_of_mem _ q))
        exact ⟨fun k => by rw [b1 k]; simp [sC, h1], b2⟩
    · obtain ⟨a1, a2, a3, a4, a5⟩ := ih lim (sO (sC S i 8 2) i (nI tk))
      refine ⟨a1, a2, a3, fun j k h8 h9 => ?_, fun j hj => ?_⟩
      · rw [a4 j k h8 h9]; simp [sO, sC, h8]
      · have h1 : j ≠ i := fun q => hj (by rw [q]; exact List.mem_cons_self)
        obtain ⟨b1, b2⟩ := a5 j (fun q => hj (List.mem_cons_of_mem _ q))
        exact ⟨fun k => by rw [b1 k]; simp [sO, sC, h1], by rw [b2]; simp [sO, sC, h1]⟩
/-- what goOnL does: the first ones are over, the others go on -/
theorem goOnL_spec (pl tk : Nat) : ∀ (is : List Nat) (lim : Nat) (S : gSt), is.Pairwise (fun i j => S.2.2.2.1 j 9 < S.2.2.2.1 i 9) → (∀ i ∈ is, S.2.2.2.1 i 9 < lim) → (lim ≤ pl → (goOnL pl tk is lim S).2 = 0) ∧
    (∀ i ∈ is.take (goOnL pl tk is lim S).2, (goOnL pl tk is lim S).1.2.2.2.1 i 8 = 2 ∧ (goOnL pl tk is lim S).1.2.2.2.2 i = nI tk) ∧
    (∀ i ∈ is.drop (goOnL pl tk is lim S).2, (goOnL pl tk is lim S).1.2.2.2.1 i 8 = S.2.2.2.1 i 8 ∧ (goOnL pl tk is lim S).1.2.2.2.2 i = S.2.2.2.2 i ∧ (goOnL pl tk is lim S).1.2.2.2.1 i 9 < pl ∧ (goOnL pl tk is lim S).1.2.2.2.1 i 9 < lim) ∧
    (is.drop (goOnL pl tk is lim S).2).Pairwise (fun i j => (goOnL pl tk is lim S).1.2.2.2.1 j 9 < (goOnL pl tk is lim S).1.2.2.2.1 i 9) := by
  intro is
  induction is with
  | nil => intro lim S _ _; exact ⟨fun _ => rfl, fun i h => by simp at h, fun i h => by simp at h, by simp⟩
  | cons i is ih =>
    intro lim S hp hl
    rw [List.pairwise_cons] at hp
    have hi := hl i List.mem_cons_self
    have hni := dec_ne hp.1
    unfold goOnL
    split
    · rename_i hlt
      have hw : S.2.2.2.1 i 9 ≤ min (S.2.2.2.1 i 9 + S.2.2.2.1 i 4) (lim - 1) := by omega
      have hwl : min (S.2.2.2.1 i 9 + S.2.2.2.1 i 4) (lim - 1) < lim := by omega
      generalize min (S.2.2.2.1 i 9 + S.2.2.2.1 i 4) (lim - 1) = w at hlt hw hwl ⊢
      have e : ∀ k ∈ is, (sC S i 9 w).2.2.2.1 k 9 = S.2.2.2.1 k 9 := fun k hk => by
        have : k ≠ i := fun q => hni (q ▸ hk)
        simp [sC, this]
      have hp2 : is.Pairwise (fun a c => (sC S i 9 w).2.2.2.1 c 9 < (sC S i 9 w).2.2.2.1 a 9) := hp.2.imp_of_mem (fun ha hc q => by rw [e _ ha, e _ hc]; exact q)
      obtain ⟨b0, b1, b2, b3⟩ := ih w (sC S i 9 w) hp2 (fun k hk => by rw [e k hk]; have := hp.1 k hk; omega)
      have h0 := b0 (Nat.le_of_lt hlt)
      rw [h0] at b1 b2 b3 ⊢
      obtain ⟨-, -, -, -, s5⟩ := goOnL_same pl tk is w (sC S i 9 w)
      obtain ⟨s6, s7⟩ := s5 i hni
      have hwi : (goOnL pl tk is w (sC S i 9 w)).1.2.2.2.1 i 9 = w := by rw [s6]; simp [sC]
      rw [List.drop_zero] at b2 b3 ⊢
      refine ⟨fun _ => rfl, fun k h => by simp at h, fun k hk => ?_, ?_⟩
      · rcases List.mem_cons.mp hk with q | q
        · subst q
          exact ⟨by rw [s6]; simp [sC], by rw [s7]; rfl, by rw [hwi]; exact hlt, by rw [hwi]; exact hwl⟩
        · obtain ⟨c1, c2, c3, c4⟩ := b2 k q
          have : k ≠ i := fun z => hni (z ▸ q)
          exact ⟨by rw [c1]; simp [sC, this], by rw [c2]; rfl, c3, Nat.lt_trans c4 hwl⟩
      · rw [List.pairwise_cons]
        exact ⟨fun k hk => by rw [hwi]; exact (b2 k hk).2.2.2, b3⟩
    · rename_i hge
      have e : ∀ k ∈ is, (sO (sC S i 8 2) i (nI tk)).2.2.2.1 k 9 = S.2.2.2.1 k 9 := fun k hk => by simp [sO, sC]
      have hp2 : is.Pairwise (fun a c => (sO (sC S i 8 2) i (nI tk)).2.2.2.1 c 9 < (sO (sC S i 8 2) i (nI tk)).2.2.2.1 a 9) := hp.2.imp_of_mem (fun ha hc q => by rw [e _ ha, e _ hc]; exact q)
      obtain ⟨b0, b1, b2, b3⟩ := ih lim (sO (sC S i 8 2) i (nI tk)) hp2 (fun k hk => by rw [e k hk]; exact hl k (List.mem_cons_of_mem _ hk))
      obtain ⟨-, -, -, -, s5⟩ := goOnL_same pl tk is lim (sO (sC S i 8 2) i (nI tk))
      obtain ⟨s6, s7⟩ := s5 i hni
      refine ⟨fun q => absurd hge (by omega), fun k hk => ?_, fun k hk => ?_, ?_⟩
      · rw [List.take_succ_cons] at hk
        rcases List.mem_cons.mp hk with q | q
        · subst q
          exact ⟨by rw [s6]; simp [sO, sC], by rw [s7]; simp [sO]⟩
        · exact b1 k q
      · rw [List.drop_succ_cons] at hk
        obtain ⟨c1, c2, c3, c4⟩ := b2 k hk
        have : k ≠ i := fun z => hni (z ▸ List.mem_of_mem_drop hk)
        exact ⟨by rw [c1]; simp [sO, sC, this], by rw [c2]; simp [sO, sC, this], c3, c4⟩
      · rw [List.drop_succ_cons]
        exact b3
theorem sGoOn_num (S : gSt) : (sGoOn S).1.1 = S.1 := (goOnL_same _ _ _ _ S).1
theorem WF.goOn {S : gSt} (h : WF S) : WF (sGoOn S).1 := by
  obtain ⟨a1, a2, a3, a4, a5⟩ := goOnL_same (S.1 2) (S.1 0) (S.2.1 2) (S.1 2 + 4) S
  obtain ⟨b0, b1, b2, b3⟩ := goOnL_spec (S.1 2) (S.1 0) (S.2.1 2) (S.1 2 + 4) S h.2.2.2.1 (fun i hi => by have := h.2.2.2.2.2.1 i hi; omega)
  unfold sGoOn
  generalize goOnL (S.1 2) (S.1 0) (S.2.1 2) (S.1 2 + 4) S = r at *
  have hn : (sQ r.1 2 ((S.2.1 2).drop r.2)).1 = S.1 := a1
  have hmem : ∀ i, i ∈ S.2.1 2 → i ∈ (S.2.1 2).take r.2 ∨ i ∈ (S.2.1 2).drop r.2 := fun i hi => by
    rw [← List.take_append_drop r.2 (S.2.1 2)] at hi
    exact List.mem_append.mp hi
  have hst : ∀ i, r.1.2.2.2.1 i 8 = S.2.2.2.1 i 8 ∨ (r.1.2.2.2.1 i 8 = 2 ∧ S.2.2.2.1 i 8 = 1 ∧ i ∈ (S.2.1 2).take r.2) := fun i => by
    by_cases hi : i ∈ S.2.1 2
    · rcases hmem i hi with q | q
      · exact Or.inr ⟨(b1 i q).1, ((h.2.2.2.2.1 i).mp hi).2, q⟩
      · exact Or.inl (b2 i q).1
    · exact Or.inl ((a5 i hi).1 8)
  refine ⟨?_, fun i hi => ?_, fun e he => ?_, ?_, fun i => ?_, fun i hi => ?_, fun i hi j hj => ?_, fun i hi h8 => ?_⟩
  · show sNumOk (r.1.1, _)
    rw [a1]
    exact h.1
  · have hi' : i < S.1 6 := by rw [← a1]; exact hi
    obtain ⟨c1, c2, c3, c4, c5, c6, c7, c8⟩ := h.2.1 i hi'
    have e := fun k (h1 : k ≠ 8) (h2 : k ≠ 9) => a4 i k h1 h2
    refine ⟨?_, ?_, ?_, ?_, ?_, ?_, ?_, ?_⟩
    · show r.1.2.2.2.1 i 1 ≤ 1; rw [e 1 (by decide) (by decide)]; exact c1
    · show 1 ≤ r.1.2.2.2.1 i 2 ∧ r.1.2.2.2.1 i 2 ≤ 4; rw [e 2 (by decide) (by decide)]; exact c2
    · show r.1.2.2.2.1 i 3 ≤ 200; rw [e 3 (by decide) (by decide)]; exact c3
    · show 1 ≤ r.1.2.2.2.1 i 4 ∧ r.1.2.2.2.1 i 4 ≤ 3; rw [e 4 (by decide) (by decide)]; exact c4
    · show r.1.2.2.2.1 i 5 ≤ 100; rw [e 5 (by decide) (by decide)]; exact c5
    · show r.1.2.2.2.1 i 6 ≤ 1; rw [e 6 (by decide) (by decide)]; exact c6
    · show r.1.2.2.2.1 i 7 ≤ 1; rw [e 7 (by decide) (by decide)]; exact c7
    · show r.1.2.2.2.1 i 8 ≤ 3
      rcases hst i with q | q
      · rw [q]; exact c8
      · rw [q.1]; decide
  · have hq : (sQ r.1 2 ((S.2.1 2).drop r.2)).2.1 e = S.2.1 e := by
      simp only [sQ]; rw [if_neg (by omega), a2]
    rw [hq, hn]
    refine ⟨(h.2.2.1 e he).1, fun i => ((h.2.2.1 e he).2 i).trans ?_⟩
    show _ ↔ i < S.1 6 ∧ r.1.2.2.2.1 i 8 = 0 ∧ r.1.2.2.2.1 i 1 = e
    rw [a4 i 1 (by decide) (by decide)]
    rcases hst i with q | q
    · rw [q]
    · rw [q.1, q.2.1]; simp
  · exact b3
  · show i ∈ (S.2.1 2).drop r.2 ↔ i < r.1.1 6 ∧ r.1.2.2.2.1 i 8 = 1
    rw [a1]
    constructor
    · intro q
      have h1 := (h.2.2.2.2.1 i).mp (List.mem_of_mem_drop q)
      exact ⟨h1.1, by rw [(b2 i q).1]; exact h1.2⟩
    · rintro ⟨q1, q2⟩
      rcases hst i with q | q
      · have h1 : i ∈ S.2.1 2 := (h.2.2.2.2.1 i).mpr ⟨q1, by rw [← q]; exact q2⟩
        rcases hmem i h1 with z | z
        · have := (b1 i z).1; omega
        · exact z
      · omega
  · show r.1.2.2.2.1 i 9 < r.1.1 2
    rw [a1]
    exact (b2 i hi).2.2.1
  · show r.1.2.2.2.1 i 1 = r.1.2.2.2.1 j 1
    rw [a4 i 1 (by decide) (by decide), a4 j 1 (by decide) (by decide)]
    exact h.2.2.2.2.2.2.1 i (List.mem_of_mem_drop hi) j (List.mem_of_mem_drop hj)
  · show ∃ t : Nat, t ≤ r.1.1 0 ∧ r.1.2.2.2.2 i = nI t
    rw [a1]
    have hi' : i < S.1 6 := by rw [← a1]; exact hi
    by_cases hx : i ∈ S.2.1 2
    · rcases hmem i hx with q | q
      · exact ⟨S.1 0, Nat.le_refl _, (b1 i q).2⟩
      · have h9 : r.1.2.2.2.1 i 8 = 2 := h8
        rw [(b2 i q).1, ((h.2.2.2.2.1 i).mp hx).2] at h9
        cases h9
    · have h9 : r.1.2.2.2.1 i 8 = 2 := h8
      rw [(a5 i hx).1 8] at h9
      rw [(a5 i hx).2]
      exact h.2.2.2.2.2.2.2 i hi' h9
end
section
/-! THE CLAIM OUT OF ONE WALK OF THE LAW'S BODY. Your part is whole_start (and what it stands on); all else here is the same for every law, but numbers. -/
def R_law : String := "FogBridgeLaw"
def lw_P (b : Addr) (xs : List Int32) (args : Array Value) (s : State) : Prop := args = #[.ref b] ∧ s.IntsAt b xs ∧ xs.length ≤ 3584 ∧ (Jvm.Cond.and given_1 narrow_1).before args s = true
/-- what a walk over the start with the record d0 says of its end, said of the start itself -/
theorem lw_closed {s t : State} {o : Outcome} {d0 : Drawn} {L : List Loc} {k n : Nat} (hd0 : s.drawn.sameBut d0 lw_cs) (hv : ∃ v, o = .returned v) (hW : (s.setDrawn d0).WarmedH t.vm) (hs : (s.setDrawn d0).sameButNew ({ t with vm := s.vm } : State) L k n) : State.butDraws s t lw_cs (fun t1 => Framed s o t1 L k n) := by
  have h2 : t.drawn = d0 := congrArg State.drawn hs.1
  refine ⟨⟨hv, hW, State.sameButNew.setDrawn hs s.drawn⟩, ?_, by decide⟩
  rw [h2]
  exact hd0
def lw_Q (_ : Array Value) (s : State) (o : Outcome) (t : State) : Prop := o = .returned (some (.int 1)) ∧ State.butDraws s t lw_cs (fun t1 => Framed s o t1 [] 601024 7293034)
def lw_Z (below : List Frame) (a : Array Value) (s : State) : State → Prop := fun t => ∃ o, t.status = .running ∧ Ended t below o ∧ lw_Q a s o t
/-- the law's own end, with 1 on the stack, nothing written that was there before, its room as the claim has it; d0: the record of draws at this point (at the entry s.drawn: begin with 'refine W.base ?_' and 'have hd0 := Drawn.sameBut.refl s.drawn lw_cs') -/
theorem lw_ret {p : Program} {l : Launch} {e : Env} {s : State} {m : MethodId} {below : List Frame} {meth : Method} {c : Code} {b : Nat} {d0 : Drawn} (hd0 : s.drawn.sameBut d0 lw_cs) (hx : p.tables.exec = Jvm.exec) (hb : c.code = code) (hr : meth.sig.returnType = ret) (hlocks : meth.locks = false) {pc : Nat} {H : Heap} {ls : Array Slot} (hdg : decode code pc = .ok (.ireturn, 1)) : W p l e room_1 (s.setDrawn d0) m #[Value.ref b] below meth c H [] 601024 7293034 (lw_Z below #[Value.ref b] s) (F0 m pc ls [.int 1]) := by
  intro T hT X
  obtain ⟨fs, hret, hrun, hended, hW, hframe⟩ := X.leave (v := some (.int 1)) (hlocks := hlocks) (fun h => by rw [hr] at h; cases h)
  have hmeth' : T.vm.method? m = some meth := X.method'
  refine ⟨T.setFrames fs, ?_, .returned (some (.int 1)), hrun, hended, rfl, lw_closed hd0 ⟨_, rfl⟩ hW hframe⟩
  jvm_step X.here [X.here.top, hx, hb, hdg, hmeth', hr, ret, narrow_b1]
  (try refine ⟨rfl, ?_⟩); (try refine ⟨rfl, ?_⟩)
  first | (intro acts; rw [hret _ acts rfl rfl rfl]) | rw [hret _ _ rfl rfl rfl]
  exact Steps.refl _
/-- what holds at the law's entry: the machine, the code, the tables' words (any of lw_tbl by 'hts w (by decide +kernel)'), the script of L ints xs at the cell b, what the Statement gives of the start (any of its parts by flat_of_before) -/
def lw_At (p : Program) (s : State) (m : MethodId) (meth : Method) (c : Code) (b L : Nat) (xs : Nat → Int32) : Prop :=
  p.tables.exec = Jvm.exec ∧ c.code = code ∧ meth.sig.returnType = ret ∧ c.maxLocals = 9 ∧ s.vm.findClass R_law = some m.cls ∧ (∀ w ∈ lw_tbl, w.before #[Value.ref b] s = true) ∧ va_X b L xs s s.heap ∧ b < s.heap.size ∧ meth.locks = false ∧ (Jvm.Cond.and given_1 narrow_1).before #[Value.ref b] s = true
-- ===== YOUR PART BEGINS =====
/-- YOUR PART: from the entry, for every script of at most 3584 ints, the law comes to its end with true ('hflags': the launch's flags, for a law that throws: no stack traces) -/
theorem whole_start {p : Program} {e : Env} {s : State} {m : MethodId} {below : List Frame} {meth : Method} {c : Code} (l : Launch) (hflags : l.flags = flags0) {b L : Nat} {xs : Nat → Int32} (hL : L ≤ 3584) (C0 : lw_At p s m meth c b L xs) : W p l e room_1 s m #[Value.ref b] below meth c s.heap [] 0 0 (lw_Z below #[Value.ref b] s) (entryFrame m ([Value.ref b] : List Value).toArray 9) := by
  sorry
-- ===== YOUR PART ENDS =====
set_option maxHeartbeats 4000000 in
theorem lw_walk (l : Launch) (hflags : l.flags = flags0) (b : Addr) (xs : List Int32) : MetFree l x (headSpec (Jvm.Cond.code x code maxLocals ret :: tables_1) room_1) (lw_P b xs) (fun _ _ _ _ _ => True) lw_Q := by
  refine MetFree.of_bodyS (code := code) (maxLocals := maxLocals) (ret := ret) (by decide) ?_ ?_
  · intro args s m h hn
    obtain ⟨meth, c, h1, h2, h3, h4, h5, h6, -, -⟩ := Cond.code_spec hn (atoms_spec (ws := Jvm.Cond.code x code maxLocals ret :: tables_1) h _ List.mem_cons_self)
    exact ⟨meth, c, h1, h2, h3, h4, h5, h6⟩
  · intro p e s m args below meth c s₁ B hml0 hP _
    obtain ⟨rfl, hx, hbd, hgv⟩ := hP
    obtain ⟨scr, harrAt, hlist, hof, hsmall⟩ := hx
    obtain ⟨hcb, hkn, -, -⟩ := State.arrayAt?_spec harrAt
    have hown : s.vm.findClass R_law = some m.cls := findClass_of_methodNamed B.named
    have hts0 : ∀ c ∈ (Jvm.Cond.code x code maxLocals ret :: tables_1), c.before #[Value.ref b] s = true := atoms_spec (ws := Jvm.Cond.code x code maxLocals ret :: tables_1) B.pre
    have hts : ∀ w ∈ lw_tbl, w.before #[Value.ref b] s = true := k2_hts_sels lw_privs (fun w hw => hts0 w (List.mem_cons_of_mem _ hw)) lw_privs_ok
    have hml : c.maxLocals = 9 := B.maxLocals_eq (hts0 _ List.mem_cons_self)
    have X₀ : Stand p l e room_1 s m #[Value.ref b] below meth c s₁ [] 0 0 := Stand.of_body B
    have hh0 : s₁.heap = s.heap := by rw [B.state]; rfl
    have hsz : scr.slots.size = xs.length := by rw [← Array.length_toList, hlist, List.length_map]
    have hval : ∀ j : Nat, j < xs.length → scr.slots[j]? = some (.int (xs.getD j 0)) := fun j hj => by
      rw [← Array.getElem?_toList, hlist]
      simp [hj]
    have hbl : b < s.heap.size := (Array.getElem?_eq_some_iff.mp hcb).1
    have hX : va_X b xs.length (fun j => xs.getD j 0) s s.heap := ⟨scr, hcb, hof, hkn, hsz, hval⟩
    have K : W p l e room_1 s m #[Value.ref b] below meth c s₁.heap [] 0 0 (lw_Z below #[Value.ref b] s) (entryFrame m ([Value.ref b] : List Value).toArray 9) := by
      rw [hh0]
      exact whole_start l hflags hbd ⟨B.exec, B.bytes, B.returns, hml, hown, hts, hX, hbl, B.notSynchronized, hgv⟩
    obtain ⟨t, a1, o, b1, b2, b3⟩ := K s₁ rfl X₀
    exact ⟨t, o, a1, b1, b2, b3⟩
theorem lw_pre_spec {args : Array Value} {s : State} (h : (Jvm.Cond.and given_1 narrow_1).before args s = true) (hr : rest_1_c.before args s = true) : ∃ (b : Addr) (xs : List Int32), lw_P b xs args s := by
  have hs := flat_of_before _ h
  have hq := flat_of_before _ hr
  have hc : (Cond.count 1).before args s = true := hs _ (by decide +kernel)
  have harr : (Cond.arrayOf (.arg 0) .int).before args s = true := hs _ (by decide +kernel)
  have hle : (Cond.le (.length (.arg 0)) (.int 3584)).before args s = true := hs _ (by decide +kernel)
  have hlen : (Cond.isInt (.length (.arg 0))).before args s = true := hq _ (by decide +kernel)
  have hall : (Cond.all (.arg 0) (.isInt (.elem (.arg 0) (.index 0)))).before args s = true := hq _ (by decide +kernel)
  obtain ⟨b, xs, hb, hx⟩ := State.ints_of_pre rfl harr hlen hall
  have hsm : xs.length < 2 ^ 31 := hx.choose_spec.2.2.2
  have hev : (Term.length (.arg 0)).eval args s none [] s = some (.int xs.length.toInt32) := hx.length_eval hb
  have hv := Cond.le_ints hev (show (Term.int 3584).eval args s none [] s = some (.int 3584) from rfl)
  have hd : xs.length.toInt32 ≤ 3584 := by
    simpa [Cond.before, Cond.holds, hv] using hle
  have hN : xs.length ≤ 3584 := (Int32.ofNat_le_ofNat hsm (by decide)).mp (show Int32.ofNat xs.length ≤ Int32.ofNat 3584 from hd)
  exact ⟨b, xs, Cond.one_arg hc (show args[0]? = some (.ref b) from hb), hx, hN, h⟩
theorem lw_comes (l : Launch) (hflags : l.flags = flags0) : Comes l x (Jvm.Cond.code x code maxLocals ret :: tables_1) room_1 (fun tb e args s => Calls_1 tb e args s ∧ rest_1 tb e args s ∧ Pre_1 tb e args s)
    (fun _ _ args s o t => lw_Q args s o t) := by
  intro p e ha hc hk s m args below hf hfit hheap happ hpre
  obtain ⟨b, xs, hP⟩ := lw_pre_spec hpre.2.2 hpre.2.1
  obtain ⟨k, o, h1, h2, h3, hQ⟩ := lw_walk l hflags b xs p e ha hc hk s m args below hf ((Spec.applies_iff_loose hf).mp happ).1 hP trivial
  exact ⟨k, o, h1, h2, h3, hQ⟩
theorem lw_frame {s t : State} {o : Outcome} {args : Array Value} (h : State.butDraws s t lw_cs (fun t1 => Framed s o t1 [] 601024 7293034)) :
    State.butDraws s t [Jvm.Choice.named "NaN.bits"] (fun t1 => Framed s o t1 (fieldLocs frame_1_writes args s ++ arrayLocs frame_1_arrays args s ++ staticLocs frame_1_statics s) 601024 7293034) := h
theorem lw_limb (L : Cond) (hL : ∀ (args : Array Value) (s t : State), L.after args s (.returned (some (.int 1))) t = true) :
    ArmFor flags0 classFile x code maxLocals ret World_1 tables_1 room_1 Calls_1 rest_1 Pre_1
      (fun tb e a s o t => postC L tb e a s o t ∧ State.butDraws s t [Jvm.Choice.named "NaN.bits"] (fun t1 => Framed s o t1 (fieldLocs frame_1_writes a s ++ arrayLocs frame_1_arrays a s ++ staticLocs frame_1_statics s) 601024 7293034)) := by
  intro l hflags _ _ p e ha hc hk s m args below hf hfit hheap happ hpre
  obtain ⟨k, o, h1, h2, h3, rfl, hF⟩ := lw_comes l hflags p e ha hc hk s m args below hf hfit hheap happ hpre
  exact ⟨k, _, h1, h2, h3, hL args s _, lw_frame hF⟩
theorem i_vc : Claimed_1_1 ∧ Claimed_1_2 := ⟨lw_limb limb_1_1 (fun args s t => by simp [limb_1_1, Cond.after, Cond.holds, Cond.value]), lw_limb limb_1_2 (fun args s t => Cond.after_iff.mpr (by
  first | (rw [show limb_1_2 = Cond.eq .result (.int 1) from rfl, Cond.eq_ints (x := 1) (y := 1) rfl rfl]; simp; done) | (simp [limb_1_2, Cond.value, Term.eval]; done)))⟩
end
