/-! THE LAW: its rows, what one side's call leaves to the other -/
/-- the script -/
def gSC (Z : gZ) (B : gB) (b L : Nat) (xs : Nat → Int32) : Prop := match Z with
  | (_, _, _, _, s, _, _, _, _, _, _, _) => va_X b L xs s s.heap ∧ b < s.heap.size ∧ ¬ gA B s.heap.size b
theorem gSC_out {Z : gZ} {B : gB} {b L : Nat} {xs : Nat → Int32} {z : Int64} (h : gSC Z B b L xs) : gSC Z (gOut B z) b L xs := by
  obtain ⟨p, l, e, R, s, m, args, below, meth, c, nL, Q⟩ := Z
  exact h
section GRL
variable {Z : gZ} {B : gB} {n : Nat × Nat} {V : gMem} {pc : Nat} {L L' : List (Nat × Value)} {st : List Value} {cc : ByteArray} {own : String}
theorem g_sld (X : gX Z B cc own) {b N : Nat} {xs : Nat → Int32} (S : gSC Z B b N xs) {x : Int32} (j : Nat) (hx : x = nI j) (hj : j < N) (hN : N < 2 ^ 31) (d : decode cc pc = .ok (.iaload, 1)) (kk : gG Z B n V (pc + 1) L (.int (xs j) :: st)) : gG Z B n V pc L (.int x :: .ref b :: st) := by
  obtain ⟨p, l, e, R, s, m, args, below, meth, c, nL, Q⟩ := Z
  subst hx
  intro H locs ls hP hS hl
  refine va_sld X.1 X.2.1 S.1 S.2.1 S.2.2 hS (vp_in_nI hj hN) d ?_
  rw [nI_clamp (by omega)]
  exact kk H locs ls hP hS hl
theorem g_slen (X : gX Z B cc own) {b N : Nat} {xs : Nat → Int32} (S : gSC Z B b N xs) (d : decode cc pc = .ok (.arraylength, 1)) (kk : gG Z B n V (pc + 1) L (.int (nI N) :: st)) : gG Z B n V pc L (.ref b :: st) := by
  obtain ⟨p, l, e, R, s, m, args, below, meth, c, nL, Q⟩ := Z
  intro H locs ls hP hS hl
  exact va_slen X.1 X.2.1 S.1 S.2.1 S.2.2 hS d (kk H locs ls hP hS hl)
theorem g_laldO (X : gX Z B cc own) {a : Nat} (ha : a = B.2.1 28 0 0) (d : decode cc pc = .ok (.laload, 1)) (kk : gG Z B n V (pc + 1) L (.long B.2.2.2.1 :: st)) : gG Z B n V pc L (.int 0 :: .ref a :: st) := by
  obtain ⟨p, l, e, R, s, m, args, below, meth, c, nL, Q⟩ := Z
  subst ha
  intro H locs ls hP hS hl
  obtain ⟨q0, -, hq0⟩ := gws_at B V (K := 28) (b := 0) (i := 0) ⟨Nat.zero_lt_one, Nat.zero_lt_one⟩
  exact va_lald X.1 X.2.1 X.2.2.2.2.1.2 hP q0 2 hq0 rfl (vp_in_nI (n := 0) (N := 1) (by decide) (by decide)) d (kk H locs ls hP hS hl)
theorem g_dstore (X : gX Z B cc own) {k : Nat} {x : UInt64} (d : decode cc pc = .ok (.dstore k, 2)) (L2 : List (Nat × Value)) (h2 : (k, Value.double x) :: L.filter (fun q => !(q.1 == k) && (!(q.1 == k + 1) && !(q.1 + 1 == k && q.2.category == 2))) = L2) (hn : k + 1 < gnL Z) (kk : gG Z B n V (pc + 2) L2 st) : gG Z B n V pc L (.double x :: st) := by
  obtain ⟨p, l, e, R, s, m, args, below, meth, c, nL, Q⟩ := Z
  exact fun H locs ls hP hS hl => lv_dstore X.1 X.2.1 d hl hn h2 (fun ls hl => kk H locs ls hP hS hl)
theorem g_dload (X : gX Z B cc own) {k : Nat} {x : UInt64} (j : Nat) (h : L[j]? = some (k, .double x)) (d : decode cc pc = .ok (.dload k, 2)) (kk : gG Z B n V (pc + 2) L (.double x :: st)) : gG Z B n V pc L st := by
  obtain ⟨p, l, e, R, s, m, args, below, meth, c, nL, Q⟩ := Z
  exact fun H locs ls hP hS hl => lv_dload X.1 X.2.1 d (lv_at hl j h) (kk H locs ls hP hS hl)
theorem g_dcmp (X : gX Z B cc own) {x y : UInt64} {op : CmpOp} (v : Int32) (hv : Op.cmpValue (FP.dcmp x y) op = v) (d : decode cc pc = .ok (.dcmp op, 1)) (kk : gG Z B n V (pc + 1) L (.int v :: st)) : gG Z B n V pc L (.double y :: .double x :: st) := by
  obtain ⟨p, l, e, R, s, m, args, below, meth, c, nL, Q⟩ := Z
  subst hv
  exact fun H locs ls hP hS hl => lv_dcmp X.1 X.2.1 d (kk H locs ls hP hS hl)
end GRL
theorem AbsM.fr {V V' : gMem} {k : Nat} {S : gSt} (h : AbsM V k S) (e : ∀ K b i, 20 ≤ K → K ≤ 27 → V' K b i = V K b i) : AbsM V' k S := by
  obtain ⟨a, b, c, d, y, z⟩ := h
  refine ⟨by rw [e 23 k 0 (by decide) (by decide)]; exact a, fun i hi f hf => by rw [e 24 k 0 (by decide) (by decide)]; exact b i hi f hf, ⟨fun i hi h8 => by rw [e 25 k 0 (by decide) (by decide)]; exact c.1 i hi h8, fun p hp hn => by rw [e 25 k 0 (by decide) (by decide)]; exact c.2 p hp hn⟩, fun x hx => ?_, fun x hx => by rw [e 27 k 0 (by decide) (by decide)]; exact y x hx, ?_⟩
  · have q := d x hx
    exact ⟨by rw [e 27 k 0 (by decide) (by decide)]; exact q.1, q.2.1, fun j hj => by rw [e 26 k 0 (by decide) (by decide)]; exact q.2.2 j hj⟩
  · unfold NumM
    rw [e 20 0 0 (by decide) (by decide)]; exact z
theorem MOk.cm {V V' : gMem} {w : gWd} (h : MOk V w) (hm : cmod V V') : MOk V' w := by
  have e : ∀ K b i, 20 ≤ K → K ≤ 27 → V' K b i = V K b i := fun K b i h1 _ => hm K b i (by omega)
  exact ⟨h.1.fr e, ⟨by rw [e 20 0 0 (by decide) (by decide)]; exact h.2.1.1, fun k hk => by rw [e 21 0 0 (by decide) (by decide)]; exact h.2.1.2 k hk⟩, fun j hj => by rw [e 22 0 0 (by decide) (by decide)]; exact h.2.2 j hj⟩
theorem COk.mm {V V' : gMem} {w : gWd} (h : COk V w) (hm : mmod V V') : COk V' w :=
  ⟨h.1.fr (fun K b i _ _ => hm K b i (by omega)), ⟨by rw [hm 1 0 0 (by decide)]; exact h.2.1.1, fun k hk => by rw [hm 2 0 0 (by decide)]; exact h.2.1.2 k hk⟩, fun j hj => by rw [hm 4 0 0 (by decide)]; exact h.2.2 j hj⟩
theorem N15.mm {V V' : gMem} (h : N15 V) (hm : mmod V V') : N15 V' := h.fr (fun b i => hm 15 b i (by omega))
theorem sMove_0 {S : gSt} (h : WF S) : (sMove S).1.1 0 = S.1 0 := congrFun (sMove_num h) 0
theorem sTick_0 {S : gSt} (h : WF S) : (sTick S).1.1 0 = S.1 0 + 1 := by
  show (sCome (sMove S).1).1 0 + 1 = _
  rw [congrFun (sCome_num _) 0, sMove_0 h]
theorem sRun_0 : ∀ (n : Nat) {S : gSt}, WF S → (sRun n S).1.1 0 = S.1 0 + n
  | 0, _, _ => rfl
  | n + 1, S, h => by
    show (sRun n (sTick S).1).1.1 0 = _
    rw [sRun_0 n h.tick, sTick_0 h]
    omega

theorem oAdd_2 (w : gWd) (x : Int32) : (oAdd w x).1 ≤ 2 := by unfold oAdd; split <;> (try split) <;> exact Nat.le_of_ble_eq_true rfl
theorem oAdd_t (w : gWd) (x : Int32) : (oAdd w x).2.2.1.1 0 ≤ w.1.1 0 + 200 := by unfold oAdd; split <;> (try split) <;> exact Nat.le_add_right _ _
theorem oRead_2 (w : gWd) (x q : Int32) : (oRead w x q).1 ≤ 2 := by unfold oRead; split <;> (try split) <;> exact Nat.le_of_ble_eq_true rfl
theorem oRead_t (w : gWd) (x q : Int32) : (oRead w x q).2.2.1.1 0 ≤ w.1.1 0 + 200 := by unfold oRead; split <;> (try split) <;> exact Nat.le_add_right _ _
theorem oHeard_2 (w : gWd) (x : Int32) : (oHeard w x).1 ≤ 2 := by unfold oHeard; split <;> (try split) <;> exact Nat.le_of_ble_eq_true rfl
theorem oHeard_t (w : gWd) (x : Int32) : (oHeard w x).2.2.1.1 0 ≤ w.1.1 0 + 200 := by unfold oHeard; split <;> (try split) <;> exact Nat.le_add_right _ _
theorem oSafe_2 (w : gWd) (x : Int32) : (oSafe w x).1 ≤ 2 := by unfold oSafe; split <;> (try split) <;> exact Nat.le_of_ble_eq_true rfl
theorem oSafe_t (w : gWd) (x : Int32) : (oSafe w x).2.2.1.1 0 ≤ w.1.1 0 + 200 := by unfold oSafe; split <;> (try split) <;> exact Nat.le_add_right _ _
theorem oRows_2 (w : gWd) (x : Int32) : (oRows w x).1 ≤ 2 := by unfold oRows; split <;> (try split) <;> exact Nat.le_of_ble_eq_true rfl
theorem oRows_t (w : gWd) (x : Int32) : (oRows w x).2.2.1.1 0 ≤ w.1.1 0 + 200 := by unfold oRows; split <;> (try split) <;> exact Nat.le_add_right _ _
theorem oFog_2 (w : gWd) (x y : Int32) : (oFog w x y).1 ≤ 2 := by unfold oFog; split <;> (try split) <;> exact Nat.le_of_ble_eq_true rfl
theorem oFog_t (w : gWd) (x y : Int32) : (oFog w x y).2.2.1.1 0 ≤ w.1.1 0 + 200 := by unfold oFog; split <;> (try split) <;> exact Nat.le_add_right _ _
theorem oBuild_2 (w : gWd) (p q : Int32) : (oBuild w p q).1 ≤ 2 := by unfold oBuild; split <;> (try split) <;> exact Nat.le_of_ble_eq_true rfl
theorem oBuild_t (w : gWd) (p q : Int32) : (oBuild w p q).2.2.1.1 0 ≤ w.1.1 0 + 200 := by unfold oBuild; split <;> (try split) <;> exact Nat.le_add_right _ _
theorem oToll_2 (w : gWd) (p q : Int32) : (oToll w p q).1 ≤ 2 := by unfold oToll; split <;> (try split) <;> exact Nat.le_of_ble_eq_true rfl
theorem oToll_t (w : gWd) (p q : Int32) : (oToll w p q).2.2.1.1 0 ≤ w.1.1 0 + 200 := by unfold oToll; split <;> (try split) <;> exact Nat.le_add_right _ _
theorem oCome_2 (w : gWd) (e ax wt pc cn : Int32) (c : Nat) : (oCome w e ax wt pc cn (nI c)).1 ≤ 2 := by unfold oCome; split <;> (try split) <;> exact Nat.le_of_ble_eq_true rfl
theorem oCome_t (w : gWd) (e ax wt pc cn : Int32) (c : Nat) : (oCome w e ax wt pc cn (nI c)).2.2.1.1 0 ≤ w.1.1 0 + 200 := by unfold oCome; split <;> (try split) <;> exact Nat.le_add_right _ _
theorem oCart_2 (w : gWd) (p q : Int32) : (oCart w p q).1 ≤ 2 := by unfold oCart; split <;> (try split) <;> exact Nat.le_of_ble_eq_true rfl
theorem oCart_t (w : gWd) (p q : Int32) : (oCart w p q).2.2.1.1 0 ≤ w.1.1 0 + 200 := by unfold oCart; split <;> (try split) <;> exact Nat.le_add_right _ _
theorem oQueue_2 (w : gWd) (p q : Int32) : (oQueue w p q).1 ≤ 2 := by unfold oQueue; split <;> (try split) <;> exact Nat.le_of_ble_eq_true rfl
theorem oQueue_t (w : gWd) (p q : Int32) : (oQueue w p q).2.2.1.1 0 ≤ w.1.1 0 + 200 := by unfold oQueue; split <;> (try split) <;> exact Nat.le_add_right _ _
theorem oBox_2 (w : gWd) (p q : Int32) : (oBox w p q).1 ≤ 2 := by unfold oBox; split <;> (try split) <;> exact Nat.le_of_ble_eq_true rfl
theorem oBox_t (w : gWd) (p q : Int32) : (oBox w p q).2.2.1.1 0 ≤ w.1.1 0 + 200 := by unfold oBox; split <;> (try split) <;> exact Nat.le_add_right _ _
theorem oEmpty_2 (w : gWd) (p : Int32) : (oEmpty w p).1 ≤ 2 := by unfold oEmpty; split <;> (try split) <;> exact Nat.le_of_ble_eq_true rfl
theorem oEmpty_t (w : gWd) (p : Int32) : (oEmpty w p).2.2.1.1 0 ≤ w.1.1 0 + 200 := by unfold oEmpty; split <;> (try split) <;> exact Nat.le_add_right _ _
theorem oPass_2 (w : gWd) (x : Int32) : (oPass w x).1 ≤ 2 := by unfold oPass; split <;> (try split) <;> exact Nat.le_of_ble_eq_true rfl
theorem oCount_2 (w : gWd) (x : Int32) : (oCount w x).1 ≤ 2 := by unfold oCount; split <;> (try split) <;> exact Nat.le_of_ble_eq_true rfl
theorem oCount_t (w : gWd) (x : Int32) : (oCount w x).2.2.1.1 0 ≤ w.1.1 0 + 200 := by unfold oCount; split <;> (try split) <;> exact Nat.le_add_right _ _
theorem oOver_2 (w : gWd) (x : Int32) : (oOver w x).1 ≤ 2 := by unfold oOver; split <;> (try split) <;> exact Nat.le_of_ble_eq_true rfl
theorem oOver_t (w : gWd) (x : Int32) : (oOver w x).2.2.1.1 0 ≤ w.1.1 0 + 200 := by unfold oOver; split <;> (try split) <;> exact Nat.le_add_right _ _
theorem oSee_2 (w : gWd) (p q : Int32) : (oSee w p q).1 ≤ 2 := by unfold oSee; split <;> (try split) <;> exact Nat.le_of_ble_eq_true rfl
theorem oSee_t (w : gWd) (p q : Int32) : (oSee w p q).2.2.1.1 0 ≤ w.1.1 0 + 200 := by unfold oSee; split <;> (try split) <;> exact Nat.le_add_right _ _
theorem oPass_t {w : gWd} (h : wOk w) (x : Int32) : (oPass w x).2.2.1.1 0 ≤ w.1.1 0 + 200 := by
  unfold oPass
  split
  · rename_i h1
    obtain ⟨j, j1, j2, rfl⟩ := (inB_iff (a := 1) (n := 200) (by decide) (by decide)).mp h1
    show (sRun (nI j).toNatClampNeg w.1).1.1 0 ≤ _
    rw [nI_clamp (by omega), sRun_0 j h.1]
    omega
  · exact Nat.le_add_right _ _

