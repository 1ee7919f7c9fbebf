/-! THE WORLD AS A VALUE: the bridge, the code, the fog; what each call answers -/
abbrev gWd : Type := gSt × gCd × (Nat → Nat)
def wOk (w : gWd) : Prop := WF w.1 ∧ CodeOk w.2.1 ∧ ∀ j, j < 20 → w.2.2 j ≤ 9
def MOk (V : gMem) (w : gWd) : Prop := AbsM V 0 w.1 ∧ CodeM V w.2.1 ∧ ∀ j, j < 20 → V 22 0 0 j = nI (w.2.2 j)
def COk (V : gMem) (w : gWd) : Prop := AbsC V 0 w.1 ∧ CodeC V w.2.1 ∧ ∀ j, j < 20 → V 4 0 0 j = nI (w.2.2 j)
/-- nothing but the reference is another one -/
def mmod (V V' : gMem) : Prop := ∀ K b i, ¬ (20 ≤ K ∧ K ≤ 27) → V' K b i = V K b i
theorem mmod.rf {V : gMem} : mmod V V := fun _ _ _ _ => rfl
theorem mmod.trans {V V1 V2 : gMem} (h : mmod V V1) (h2 : mmod V1 V2) : mmod V V2 := fun K b i hn => (h2 K b i hn).trans (h K b i hn)
theorem mmod.up {V V1 : gMem} {K k i j : Nat} {x : Int32} (h : mmod V V1) (hK : 20 ≤ K) (hK2 : K ≤ 27) : mmod V (gup V1 K k i j x) := fun K' b' i' hn => (gup_off V1 x (fun q => hn ⟨by omega, by omega⟩)).trans (h K' b' i' hn)
theorem stmod.mm {V V' : gMem} {k : Nat} (h : stmod V V' k) : mmod V V' := fun K b i hn => h K b i (fun q => hn ⟨by omega, by omega⟩)
theorem AbsM.up20 {V : gMem} {k : Nat} {S : gSt} {j : Nat} {x : Int32} (h : AbsM V k S) (hj : j < 4) : AbsM (gup V 20 0 0 j x) k S := by
  obtain ⟨a, b, c, d, y, z⟩ := h
  refine ⟨by rw [gup_off _ _ (by simp)]; exact a, fun i hi f hf => by rw [gup_ne (by simp)]; exact b i hi f hf, ⟨fun i hi h8 => by rw [gup_ne (by simp)]; exact c.1 i hi h8, fun p hp hn => by rw [gup_ne (by simp)]; exact c.2 p hp hn⟩, fun e he => ?_, fun e he => by rw [gup_off _ _ (by simp)]; exact y e he, ?_⟩
  · have q := d e he
    exact ⟨by rw [gup_ne (by simp)]; exact q.1, q.2.1, fun j hj => by rw [gup_ne (by simp)]; exact q.2.2 j hj⟩
  · unfold NumM
    rw [gup_ne (by omega), gup_ne (by omega), gup_ne (by omega), gup_ne (by omega)]; exact z
theorem AbsM.up2 {V : gMem} {k K i j : Nat} {S : gSt} {x : Int32} (h : AbsM V k S) (hK : K = 21 ∨ K = 22) : AbsM (gup V K 0 i j x) k S := by
  obtain ⟨a, b, c, d, y, z⟩ := h
  refine ⟨by rw [gup_off _ _ (by omega)]; exact a, fun i hi f hf => by rw [gup_ne (by omega)]; exact b i hi f hf, ⟨fun i hi h8 => by rw [gup_ne (by omega)]; exact c.1 i hi h8, fun p hp hn => by rw [gup_ne (by omega)]; exact c.2 p hp hn⟩, fun e he => ?_, fun e he => by rw [gup_off _ _ (by omega)]; exact y e he, ?_⟩
  · have q := d e he
    exact ⟨by rw [gup_ne (by omega)]; exact q.1, q.2.1, fun j hj => by rw [gup_ne (by omega)]; exact q.2.2 j hj⟩
  · unfold NumM
    rw [gup_off _ _ (by omega)]; exact z
theorem MOk.thr {V : gMem} {w : gWd} (h : MOk V w) (x : Int32) : MOk (gup V 20 0 0 0 x) w := by
  refine ⟨h.1.up20 (by decide), ⟨by rw [gup_ne (by simp)]; exact h.2.1.1, fun k hk => by rw [gup_ne (by simp)]; exact h.2.1.2 k hk⟩, fun j hj => by rw [gup_ne (by simp)]; exact h.2.2 j hj⟩
/-- only the bridge's state of the reference is another one -/
theorem MOk.st {V V' : gMem} {w : gWd} {S : gSt} (h : MOk V w) (hm : stmod V V' 0) (hA : AbsM V' 0 S) : MOk V' (S, w.2) := by
  refine ⟨hA, ⟨by rw [hm 20 0 0 (by simp)]; exact h.2.1.1, fun k hk => by rw [hm 21 0 0 (by simp)]; exact h.2.1.2 k hk⟩, fun j hj => by rw [hm 22 0 0 (by simp)]; exact h.2.2 j hj⟩
theorem MOk.st1 {V V' : gMem} {w : gWd} (h : MOk V w) (hm : stmod V V' 1) : MOk V' w := by
  refine ⟨h.1.other hm (by decide), ⟨by rw [hm 20 0 0 (by simp)]; exact h.2.1.1, fun k hk => by rw [hm 21 0 0 (by simp)]; exact h.2.1.2 k hk⟩, fun j hj => by rw [hm 22 0 0 (by simp)]; exact h.2.2 j hj⟩
theorem i32c (x : Int32) : x < 0 ∨ ∃ n : Nat, n < 2 ^ 31 ∧ x = nI n := by
  rcases pk_ix x (n := 2 ^ 31 - 1) (by decide) with h | h | ⟨j, h1, h2⟩
  · exact Or.inl h
  · refine Or.inr ⟨2 ^ 31 - 1, by decide, ?_⟩
    have h1 : x ≤ nI (2 ^ 31 - 1) := by
      have := Int32.le_maxValue x
      exact this
    exact Int32.le_antisymm h1 h
  · exact Or.inr ⟨j, by omega, h2⟩
/-- an answer: 0 or which exception; the value; the world behind -/
abbrev gOu : Type := Nat × Int32 × gWd
def fgU (fg : Nat → Nat) (j y : Nat) : Nat → Nat := fun k => if k = j then y else fg k
def oFog (w : gWd) (x y : Int32) : gOu := if ixB x 20 then (if inB y 0 9 then (0, nI (w.2.2 x.toNatClampNeg), (w.1, w.2.1, fgU w.2.2 x.toNatClampNeg y.toNatClampNeg)) else (2, 0, w)) else (1, 0, w)
def rowX (x : Int32) (m : Nat) : Bool := decide (0 ≤ x) && rowB x.toNatClampNeg m
def oAdd (w : gWd) (x : Int32) : gOu := if rowX x 6 = true then (if cAmb w.2.1 x.toNatClampNeg = true ∨ w.2.1.1 = 8 then (2, 0, w) else (0, nI w.2.1.1, (w.1, cAdd w.2.1 x.toNatClampNeg, w.2.2))) else (1, 0, w)
def oRead (w : gWd) (x what : Int32) : gOu := if x = 0 ∨ rowX x 9 = true then (if inB what 0 2 then (0, cRead w.2.1 x.toNatClampNeg what.toNatClampNeg, w) else (2, 0, w)) else (1, 0, w)
def hTold (r L : Nat) (fg : Nat → Nat) (t : Nat) : Nat → Nat
  | 0 => 0
  | k + 1 => if fg ((t + k) % 20) < (if r / 10 ^ (L - 1 - k) % 10 = 1 then 4 else 7) then 10 * hTold r L fg t k + r / 10 ^ (L - 1 - k) % 10 else hTold r L fg t k
def oHeard (w : gWd) (x : Int32) : gOu := if ixB x (nI w.2.1.1) then (0, nI (hTold (w.2.1.2 x.toNatClampNeg) (nLen (w.2.1.2 x.toNatClampNeg)) w.2.2 (w.1.1 0) (nLen (w.2.1.2 x.toNatClampNeg))), w) else (1, 0, w)
def oSafe (w : gWd) (x : Int32) : gOu := if ixB x (nI w.2.1.1) then (0, nI (cSafe w.2.1 (w.2.1.2 x.toNatClampNeg)), w) else (1, 0, w)
def sPB (S : gSt) (p q : Nat) : gSt := sN (sN S 2 p) 3 q
def oBuild (w : gWd) (p q : Int32) : gOu := if inB p 4 30 ∧ inB q 10 500 then (if w.1.2.1 2 = [] then (0, nI (w.1.1 3), (sPB w.1 p.toNatClampNeg q.toNatClampNeg, w.2)) else (2, 0, w)) else (1, 0, w)
def oToll (w : gWd) (p q : Int32) : gOu := if inB p 0 9 ∧ inB q 0 9 then (0, nI (10 * w.1.1 4 + w.1.1 5), (sN (sN w.1 4 p.toNatClampNeg) 5 q.toNatClampNeg, w.2)) else (1, 0, w)
def sTurn (S : gSt) : gSt := sN S 1 (1 - S.1 1)
def oCart (w : gWd) (x what : Int32) : gOu := if ixB x (nI (w.1.1 6)) ∧ ixB what 9 then (0, sTell w.1 x.toNatClampNeg what.toNatClampNeg, w) else (1, 0, w)
def oQueue (w : gWd) (e x : Int32) : gOu := if ixB e 2 ∧ ixB x (nI (w.1.2.1 e.toNatClampNeg).length) then (0, nI ((w.1.2.1 e.toNatClampNeg)[x.toNatClampNeg]?.getD 0), w) else (1, 0, w)
def oBox (w : gWd) (e what : Int32) : gOu := if ixB e 2 ∧ ixB what 4 then (0, gTell w.1 e.toNatClampNeg what.toNatClampNeg, w) else (1, 0, w)
def oEmpty (w : gWd) (e : Int32) : gOu := if ixB e 2 then (0, nI (w.1.2.2.1 e.toNatClampNeg 4), (sG (sG w.1 e.toNatClampNeg 1 0) e.toNatClampNeg 4 0, w.2)) else (1, 0, w)
def oPass (w : gWd) (x : Int32) : gOu := if inB x 1 200 then (0, nI (sRun x.toNatClampNeg w.1).2, ((sRun x.toNatClampNeg w.1).1, w.2)) else (1, 0, w)

abbrev rmX8_setFog : Room := { frames := 1, cells := 0, slots := 0, locals := 22 }
set_option maxRecDepth 20000 in
theorem k_MsetFog {l : Launch} {B : gB} (hI : gI B) (V : gMem) (w : gWd) (x : Int32) (y : Int32) (hM : MOk V w) (hw : wOk w) : gM l B yX8_setFog cX8_setFog 4 (some .int) rmX8_setFog [.ref (B.2.1 20 0 0), .int x, .int y] V (fun v V' => v = some (.int (oFog w x y).2.1) ∧ V' 20 0 0 0 = nI (oFog w x y).1 ∧ MOk V' (oFog w x y).2.2 ∧ mmod V V') := by
  refine gM_of (own := RX8) (L := [(0, .ref (B.2.1 20 0 0)), (1, .int x), (2, .int y)]) (by decide +kernel) rfl hI (Nat.le_of_ble_eq_true rfl) rfl ?_
  intro Z hnL hR X F
  refine g_aload_n X 0 rfl dX8_setFog_0 ?_
  refine g_iconst X 0 (by decide) dX8_setFog_1 ?_
  refine gp_X8_thrown X ⟨by decide, by decide⟩ fX8_41 dX8_setFog_2 ?_
  refine gG_nm (fun V1 hV1 => ?_)
  have hM1 : MOk V1 w := by rw [hV1]; exact hM.thr 0
  have hm1 : mmod V V1 := by rw [hV1]; exact mmod.rf.up (by decide) (by decide)
  refine g_iload_n X 1 rfl dX8_setFog_5 ?_
  refine g_iconst X 0 (by decide) dX8_setFog_6 ?_
  refine g_bipush X 19 (by decide) dX8_setFog_7 ?_
  refine g_callS X hR (As := [.int x, .int 0, .int 19]) (rest := []) mX8_isIn lX8_48 (k_isIn hI V1 x 0 19 ) rfl rfl (Nat.le_of_ble_eq_true rfl) ⟨Nat.le_of_ble_eq_true rfl, Nat.le_of_ble_eq_true rfl, Nat.le_of_ble_eq_true rfl, Nat.le_of_ble_eq_true rfl⟩ dX8_setFog_9 (fun r2 V3 hz_4 => ?_)
  refine gG_ret hz_4.1 hz_4.2 ?_
  refine gG_st [.int (if inB x 0 19 then 1 else 0)] rfl ?_
  by_cases hP : ixB x 20
  · refine gG_top 1 (if_pos ((inB_ix (n := 19) (by decide)).mpr hP)) ?_
    refine g_if_ne X 21 (by decide) dX8_setFog_12 (fun c5 => ?_) (fun c5 => ?_)
    · refine g_iload_n X 2 rfl dX8_setFog_21 ?_
      refine g_iconst X 0 (by decide) dX8_setFog_22 ?_
      refine g_bipush X 9 (by decide) dX8_setFog_23 ?_
      refine g_callS X hR (As := [.int y, .int 0, .int 9]) (rest := []) mX8_isIn lX8_48 (k_isIn hI V1 y 0 9 ) rfl rfl (Nat.le_of_ble_eq_true rfl) ⟨Nat.le_of_ble_eq_true rfl, Nat.le_of_ble_eq_true rfl, Nat.le_of_ble_eq_true rfl, Nat.le_of_ble_eq_true rfl⟩ dX8_setFog_25 (fun r6 V7 hz_8 => ?_)
      refine gG_ret hz_8.1 hz_8.2 ?_
      refine gG_st [.int (if inB y 0 9 then 1 else 0)] rfl ?_
      by_cases hQ : inB y 0 9
      · refine gG_top 1 (if_pos (hQ)) ?_
        refine g_if_ne X 37 (by decide) dX8_setFog_28 (fun c9 => ?_) (fun c9 => ?_)
        · obtain ⟨j, hj, hxj⟩ := (ixB_iff (n := 20) (by decide)).mp hP
          obtain ⟨z, -, hz, hyz⟩ := (inB_iff (a := 0) (n := 9) (by decide) (by decide)).mp hQ
          refine g_aload_n X 0 rfl dX8_setFog_37 ?_
          refine gg_X8_fog X ⟨by decide, by decide⟩ fX8_13 dX8_setFog_38 ?_
          refine g_iload_n X 1 rfl dX8_setFog_41 ?_
          refine g_ialdN X (j) hxj hj (by decide) ⟨by decide, by decide⟩ rfl dX8_setFog_42 ?_
          refine gG_top (nI (w.2.2 j)) (hM1.2.2 j hj) ?_
          refine g_istore_n X rfl dX8_setFog_43 [(3, .int (nI (w.2.2 j))), (0, .ref (B.2.1 20 0 0)), (1, .int x), (2, .int y)] rfl (gnl_lt hnL (by decide)) ?_
          refine g_aload_n X 1 rfl dX8_setFog_44 ?_
          refine gg_X8_fog X ⟨by decide, by decide⟩ fX8_13 dX8_setFog_45 ?_
          refine g_iload_n X 2 rfl dX8_setFog_48 ?_
          refine g_iload_n X 3 rfl dX8_setFog_49 ?_
          refine g_iastN X (j) hxj hj (by decide) ⟨by decide, by decide⟩ (fun _ => rfl) dX8_setFog_50 ?_
          refine gG_nm (fun V10 hV10 => ?_)
          refine g_iload_n X 0 rfl dX8_setFog_51 ?_
          refine g_iret X F ?_ rfl dX8_setFog_52
          have hop : oFog w x y = (0, nI (w.2.2 j), (w.1, w.2.1, fgU w.2.2 j z)) := by
            unfold oFog
            rw [if_pos hP, if_pos hQ, hxj, hyz, nI_clamp (by omega), nI_clamp (by omega)]
          rw [hop]
          refine ⟨rfl, by rw [hV10, gup_ne (by simp), hV1, gup_eq]; rfl, ⟨by rw [hV10]; exact hM1.1.up2 (Or.inr rfl), ⟨by rw [hV10, gup_ne (by simp)]; exact hM1.2.1.1, fun k hk => by rw [hV10, gup_ne (by simp)]; exact hM1.2.1.2 k hk⟩, fun k hk => ?_⟩, by rw [hV10]; exact hm1.up (by decide) (by decide)⟩
          rw [hV10]
          show _ = nI (if k = j then z else w.2.2 k)
          by_cases hkj : k = j
          · rw [hkj, gup_eq, if_pos rfl, hyz]
          · rw [gup_ne (by omega), if_neg hkj]; exact hM1.2.2 k hk
        ·  exact absurd c9 (by decide)
      · refine gG_top 0 (if_neg (hQ)) ?_
        refine g_if_ne X 37 (by decide) dX8_setFog_28 (fun c11 => ?_) (fun c11 => ?_)
        ·  exact absurd c11 (by decide)
        · refine g_aload_n X 0 rfl dX8_setFog_31 ?_
          refine g_iconst X 2 (by decide) dX8_setFog_32 ?_
          refine g_callV X hR (rest := []) mX8_no lX8_59 (k_no hI V1 2 ) rfl rfl (Nat.le_of_ble_eq_true rfl) ⟨by decide, by decide⟩ rfl rfl rfl ⟨Nat.le_of_ble_eq_true rfl, Nat.le_of_ble_eq_true rfl, Nat.le_of_ble_eq_true rfl, Nat.le_of_ble_eq_true rfl⟩ dX8_setFog_33 (fun r12 V13 hz_14 => ?_)
          refine gG_rv hz_14.1 ?_
          have hV13 := hz_14.2
          refine gG_st [.int 0] rfl ?_
          refine g_iret X F ?_ rfl dX8_setFog_36
          rw [show oFog w x y = (2, 0, w) from (if_pos hP).trans (if_neg hQ)]
          exact ⟨rfl, by rw [hV13, gup_eq]; rfl, by rw [hV13]; exact hM1.thr _, by rw [hV13]; exact hm1.up (by decide) (by decide)⟩
    ·  exact absurd c5 (by decide)
  · refine gG_top 0 (if_neg (fun z => hP ((inB_ix (n := 19) (by decide)).mp z))) ?_
    refine g_if_ne X 21 (by decide) dX8_setFog_12 (fun c15 => ?_) (fun c15 => ?_)
    ·  exact absurd c15 (by decide)
    · refine g_aload_n X 0 rfl dX8_setFog_15 ?_
      refine g_iconst X 1 (by decide) dX8_setFog_16 ?_
      refine g_callV X hR (rest := []) mX8_no lX8_59 (k_no hI V1 1 ) rfl rfl (Nat.le_of_ble_eq_true rfl) ⟨by decide, by decide⟩ rfl rfl rfl ⟨Nat.le_of_ble_eq_true rfl, Nat.le_of_ble_eq_true rfl, Nat.le_of_ble_eq_true rfl, Nat.le_of_ble_eq_true rfl⟩ dX8_setFog_17 (fun r16 V17 hz_18 => ?_)
      refine gG_rv hz_18.1 ?_
      have hV17 := hz_18.2
      refine gG_st [.int 0] rfl ?_
      refine g_iret X F ?_ rfl dX8_setFog_20
      rw [show oFog w x y = (1, 0, w) from if_neg hP]
      exact ⟨rfl, by rw [hV17, gup_eq]; rfl, by rw [hV17]; exact hM1.thr _, by rw [hV17]; exact hm1.up (by decide) (by decide)⟩

theorem inB_m1 {x : Int32} {n : Nat} (hn : n < 2 ^ 31) : inB x 0 (nI n - 1) ↔ ixB x (nI n) := by
  cases n with
  | zero =>
    constructor
    · rintro ⟨h1, h2⟩; exact absurd (Int32.le_trans h1 h2) (by decide)
    · rintro ⟨h1, h2⟩; exact absurd (Int32.lt_of_le_of_lt h1 h2) (by decide)
  | succ n =>
    rw [nI_pred]
    exact inB_ix (by omega)
theorem sig_if {x : Int32} {n : Nat} (hn : n < 2 ^ 31) : (if inB x 0 (nI n - 1) then (1 : Int32) else 0) = if ixB x (nI n) then 1 else 0 := by
  by_cases h : ixB x (nI n)
  · rw [if_pos h, if_pos ((inB_m1 hn).mpr h)]
  · rw [if_neg h, if_neg (fun q => h ((inB_m1 hn).mp q))]
theorem cFind_0 {c : gCd} (hc : CodeOk c) : cFind c 0 = none := cFind_none (fun j hj => nBeg_0 (by have := (hc.2 j hj).2.2; omega))

abbrev rmX8_isSignal : Room := { frames := 1, cells := 0, slots := 0, locals := 22 }
set_option maxRecDepth 20000 in
theorem k_isSignal {l : Launch} {B : gB} (hI : gI B) (V : gMem) (c : gCd) (x : Int32) (hC : CodeM V c) (hk : CodeOk c) : gM l B yX8_isSignal cX8_isSignal 2 (some .boolean) rmX8_isSignal [.ref (B.2.1 20 0 0), .int x] V (fun v V' => v = some (.int (if ixB x (nI c.1) then 1 else 0)) ∧ V' = V) := by
  refine gM_of (own := RX8) (L := [(0, .ref (B.2.1 20 0 0)), (1, .int x)]) (by decide +kernel) rfl hI (Nat.le_of_ble_eq_true rfl) rfl ?_
  intro Z hnL hR X F
  have h8 : c.1 ≤ 8 := hk.1
  refine g_iload_n X 1 rfl dX8_isSignal_0 ?_
  refine g_iconst X 0 (by decide) dX8_isSignal_1 ?_
  refine g_aload_n X 0 rfl dX8_isSignal_2 ?_
  refine gg_X8_signals X ⟨by decide, by decide⟩ fX8_62 dX8_isSignal_3 ?_
  refine gG_top (nI c.1) (hC.1) ?_
  refine g_iconst X 1 (by decide) dX8_isSignal_6 ?_
  refine g_isub X dX8_isSignal_7 ?_
  refine g_callS X hR (As := [.int x, .int 0, .int ((nI c.1) - 1)]) (rest := []) mX8_isIn lX8_48 (k_isIn hI V x 0 ((nI c.1) - 1) ) rfl rfl (Nat.le_of_ble_eq_true rfl) ⟨Nat.le_of_ble_eq_true rfl, Nat.le_of_ble_eq_true rfl, Nat.le_of_ble_eq_true rfl, Nat.le_of_ble_eq_true rfl⟩ dX8_isSignal_8 (fun r1 V2 hz_3 => ?_)
  refine gG_ret hz_3.1 hz_3.2 ?_
  refine gG_st [.int (if inB x 0 ((nI c.1) - 1) then 1 else 0)] rfl ?_
  refine gG_top (if ixB x (nI c.1) then 1 else 0) (sig_if (by omega)) ?_
  refine g_zret X F (by first | assumption | (split <;> rfl)) ?_ rfl dX8_isSignal_11
  refine ⟨rfl, rfl⟩

abbrev rmX8_isWhole : Room := { frames := 3, cells := 0, slots := 0, locals := 66 }
set_option maxRecDepth 20000 in
theorem k_isWhole {l : Launch} {B : gB} (hI : gI B) (V : gMem) (c : gCd) (r : Nat) (hC : CodeM V c) (hk : CodeOk c) (hr : r < 2 ^ 31) (h9 : nLen r ≤ 9) (ho : nOk r = true) : gM l B yX8_isWhole cX8_isWhole 4 (some .boolean) rmX8_isWhole [.ref (B.2.1 20 0 0), .int (nI r)] V (fun v V' => v = some (.int (if cWhole c r = true then 1 else 0)) ∧ V' = V) := by
  refine gM_of (own := RX8) (L := [(0, .ref (B.2.1 20 0 0)), (1, .int (nI r))]) (by decide +kernel) rfl hI (Nat.le_of_ble_eq_true rfl) rfl ?_
  intro Z hnL hR X F
  have h8 : c.1 ≤ 8 := hk.1
  refine g_iload_n X 1 rfl dX8_isWhole_0 ?_
  refine g_istore_n X rfl dX8_isWhole_1 [(2, .int (nI r)), (0, .ref (B.2.1 20 0 0)), (1, .int (nI r))] rfl (gnl_lt hnL (by decide)) ?_
  refine g_aload_n X 1 rfl dX8_isWhole_2 ?_
  refine g_iload_n X 0 rfl dX8_isWhole_3 ?_
  refine g_callV X hR (rest := []) mX8_beginning lX8_68 (k_beginning hI V c r (by first | assumption | decide | omega) (by first | assumption | decide | omega) (by first | assumption | decide | omega) (by first | assumption | decide | omega)) rfl rfl (Nat.le_of_ble_eq_true rfl) ⟨by decide, by decide⟩ rfl rfl rfl ⟨Nat.le_of_ble_eq_true rfl, Nat.le_of_ble_eq_true rfl, Nat.le_of_ble_eq_true rfl, Nat.le_of_ble_eq_true rfl⟩ dX8_isWhole_4 (fun r1 V2 hz_3 => ?_)
  refine gG_ret hz_3.1 hz_3.2 ?_
  refine gG_st [.int (cFindI c r)] rfl ?_
  refine g_istore_n X rfl dX8_isWhole_7 [(3, .int (cFindI c r)), (2, .int (nI r)), (0, .ref (B.2.1 20 0 0)), (1, .int (nI r))] rfl (gnl_lt hnL (by decide)) ?_
  refine gG_L [2, 3, 1, 0] (L' := [(0, .ref (B.2.1 20 0 0)), (1, .int (nI r)), (2, .int (nI r)), (3, .int (cFindI c r))]) rfl ?_
  have loop : ∀ (f m : Nat) (la : Int32) (le : Nat), nLen le ≤ f → f ≤ 9 → cRd c 9 0 (-1) r = cRd c f m la le → nOk le = true → le < 2 ^ 31 → gG Z B (0, 0) V 8 [(0, .ref (B.2.1 20 0 0)), (1, .int (nI r)), (2, .int (nI le)), (3, .int (cFindI c le))] [] := by
    intro f
    induction f with
    | zero =>
      intro m la le hl hf9 hRd ho hle
      have hle0 : le = 0 := Classical.byContradiction (fun q => by have := nLen_pos q; omega)
      have hcf : cFind c le = none := by rw [hle0]; exact cFind_0 hk
      have hfin : cRd c 9 0 (-1) r = (m, la, le) := by rw [hRd]; rfl
      refine gG_Le [(0, .ref (B.2.1 20 0 0)), (1, .int (nI r)), (2, .int (nI le)), (3, .int ((-1)))] (by unfold cFindI; rw [hcf]) ?_
      refine g_iload_n X 3 rfl dX8_isWhole_8 ?_
      refine g_iconst X (-1) (by decide) dX8_isWhole_9 ?_
      refine g_icmp_eq X 29 (by decide) dX8_isWhole_10 (fun c4 => ?_) (fun c4 => ?_)
      · refine g_iload_n X 1 rfl dX8_isWhole_29 ?_
        by_cases hr0 : r = 0
        · refine gG_top 0 (by rw [hr0]; rfl) ?_
          refine g_if_le X 41 (by decide) dX8_isWhole_30 (fun c5 => ?_) (fun c5 => ?_)
          · refine g_iconst X 0 (by decide) dX8_isWhole_41 ?_
            refine g_zret X F rfl ?_ rfl dX8_isWhole_42
            exact ⟨by rw [show cWhole c r = false from by unfold cWhole; rw [hr0]; rfl]; rfl, rfl⟩
          ·  exact absurd c5 (by decide)
        · skip
          refine g_if_le X 41 (by decide) dX8_isWhole_30 (fun c6 => ?_) (fun c6 => ?_)
          · first | exact absurd (nI_nle (Nat.pos_of_ne_zero hr0) hr) c6 | exact absurd c6 (nI_nle (Nat.pos_of_ne_zero hr0) hr)
          · refine g_iload_n X 2 rfl dX8_isWhole_33 ?_
            by_cases hl0 : le = 0
            · refine gG_top 0 (by rw [hl0]; rfl) ?_
              refine g_if_ne X 41 (by decide) dX8_isWhole_34 (fun c7 => ?_) (fun c7 => ?_)
              ·  exact absurd c7 (by decide)
              · refine g_iconst X 1 (by decide) dX8_isWhole_37 ?_
                refine g_goto X 42 (by decide) dX8_isWhole_38 ?_
                refine g_zret X F rfl ?_ rfl dX8_isWhole_42
                exact ⟨by rw [show cWhole c r = true from by unfold cWhole; rw [hfin, decide_eq_true (Nat.pos_of_ne_zero hr0)]; exact decide_eq_true hl0]; rfl, rfl⟩
            · skip
              refine g_if_ne X 41 (by decide) dX8_isWhole_34 (fun c8 => ?_) (fun c8 => ?_)
              · refine g_iconst X 0 (by decide) dX8_isWhole_41 ?_
                refine g_zret X F rfl ?_ rfl dX8_isWhole_42
                exact ⟨by rw [show cWhole c r = false from by unfold cWhole; rw [hfin, decide_eq_true (Nat.pos_of_ne_zero hr0)]; exact decide_eq_false hl0]; rfl, rfl⟩
              · first | exact absurd (nI_ne0 (Nat.pos_of_ne_zero hl0) hle) c8 | exact absurd c8 (nI_ne0 (Nat.pos_of_ne_zero hl0) hle)
      ·  exact absurd c4 (by decide)
    | succ f ih =>
      intro m la le hl hf9 hRd ho hle
      cases hcf : cFind c le with
      | none =>
        have hfin : cRd c 9 0 (-1) r = (m, la, le) := by rw [hRd]; exact cRd_none hcf _ _ _
        refine gG_Le [(0, .ref (B.2.1 20 0 0)), (1, .int (nI r)), (2, .int (nI le)), (3, .int ((-1)))] (by unfold cFindI; rw [hcf]) ?_
        refine g_iload_n X 3 rfl dX8_isWhole_8 ?_
        refine g_iconst X (-1) (by decide) dX8_isWhole_9 ?_
        refine g_icmp_eq X 29 (by decide) dX8_isWhole_10 (fun c9 => ?_) (fun c9 => ?_)
        · refine g_iload_n X 1 rfl dX8_isWhole_29 ?_
          by_cases hr0 : r = 0
          · refine gG_top 0 (by rw [hr0]; rfl) ?_
            refine g_if_le X 41 (by decide) dX8_isWhole_30 (fun c10 => ?_) (fun c10 => ?_)
            · refine g_iconst X 0 (by decide) dX8_isWhole_41 ?_
              refine g_zret X F rfl ?_ rfl dX8_isWhole_42
              exact ⟨by rw [show cWhole c r = false from by unfold cWhole; rw [hr0]; rfl]; rfl, rfl⟩
            ·  exact absurd c10 (by decide)
          · skip
            refine g_if_le X 41 (by decide) dX8_isWhole_30 (fun c11 => ?_) (fun c11 => ?_)
            · first | exact absurd (nI_nle (Nat.pos_of_ne_zero hr0) hr) c11 | exact absurd c11 (nI_nle (Nat.pos_of_ne_zero hr0) hr)
            · refine g_iload_n X 2 rfl dX8_isWhole_33 ?_
              by_cases hl0 : le = 0
              · refine gG_top 0 (by rw [hl0]; rfl) ?_
                refine g_if_ne X 41 (by decide) dX8_isWhole_34 (fun c12 => ?_) (fun c12 => ?_)
                ·  exact absurd c12 (by decide)
                · refine g_iconst X 1 (by decide) dX8_isWhole_37 ?_
                  refine g_goto X 42 (by decide) dX8_isWhole_38 ?_
                  refine g_zret X F rfl ?_ rfl dX8_isWhole_42
                  exact ⟨by rw [show cWhole c r = true from by unfold cWhole; rw [hfin, decide_eq_true (Nat.pos_of_ne_zero hr0)]; exact decide_eq_true hl0]; rfl, rfl⟩
              · skip
                refine g_if_ne X 41 (by decide) dX8_isWhole_34 (fun c13 => ?_) (fun c13 => ?_)
                · refine g_iconst X 0 (by decide) dX8_isWhole_41 ?_
                  refine g_zret X F rfl ?_ rfl dX8_isWhole_42
                  exact ⟨by rw [show cWhole c r = false from by unfold cWhole; rw [hfin, decide_eq_true (Nat.pos_of_ne_zero hr0)]; exact decide_eq_false hl0]; rfl, rfl⟩
                · first | exact absurd (nI_ne0 (Nat.pos_of_ne_zero hl0) hle) c13 | exact absurd c13 (nI_ne0 (Nat.pos_of_ne_zero hl0) hle)
        ·  exact absurd c9 (by decide)
      | some k =>
        obtain ⟨hkn, hbg⟩ := cFind_mem hcf
        obtain ⟨b1, b2, b3, b4⟩ := beh_ok hk ho hcf
        refine gG_Le [(0, .ref (B.2.1 20 0 0)), (1, .int (nI r)), (2, .int (nI le)), (3, .int (nI k))] (by unfold cFindI; rw [hcf]) ?_
        refine g_iload_n X 3 rfl dX8_isWhole_8 ?_
        refine g_iconst X (-1) (by decide) dX8_isWhole_9 ?_
        refine g_icmp_eq X 29 (by decide) dX8_isWhole_10 (fun c14 => ?_) (fun c14 => ?_)
        · first | exact absurd (nI_ne_m1 (by omega)) c14 | exact absurd c14 (nI_ne_m1 (by omega))
        · refine g_aload_n X 0 rfl dX8_isWhole_13 ?_
          refine g_iload_n X 2 rfl dX8_isWhole_14 ?_
          refine g_iload_n X 3 rfl dX8_isWhole_15 ?_
          refine g_callV X hR (rest := []) mX8_behind lX8_71 (k_behind hI V c le k (by first | assumption | decide | omega) (by first | assumption | decide | omega) hle (by omega) hkn b4) rfl rfl (Nat.le_of_ble_eq_true rfl) ⟨by decide, by decide⟩ rfl rfl rfl ⟨Nat.le_of_ble_eq_true rfl, Nat.le_of_ble_eq_true rfl, Nat.le_of_ble_eq_true rfl, Nat.le_of_ble_eq_true rfl⟩ dX8_isWhole_16 (fun r15 V16 hz_17 => ?_)
          refine gG_ret hz_17.1 hz_17.2 ?_
          refine gG_st [.int (nI (le % 10 ^ (nLen le - nLen (c.2 k))))] rfl ?_
          refine g_istore_n X rfl dX8_isWhole_19 [(2, .int (nI (le % 10 ^ (nLen le - nLen (c.2 k))))), (0, .ref (B.2.1 20 0 0)), (1, .int (nI r)), (3, .int (nI k))] rfl (gnl_lt hnL (by decide)) ?_
          refine g_aload_n X 1 rfl dX8_isWhole_20 ?_
          refine g_iload_n X 0 rfl dX8_isWhole_21 ?_
          refine g_callV X hR (rest := []) mX8_beginning lX8_68 (k_beginning hI V c (le % 10 ^ (nLen le - nLen (c.2 k))) (by first | assumption | decide | omega) (by first | assumption | decide | omega) (by omega) (by omega)) rfl rfl (Nat.le_of_ble_eq_true rfl) ⟨by decide, by decide⟩ rfl rfl rfl ⟨Nat.le_of_ble_eq_true rfl, Nat.le_of_ble_eq_true rfl, Nat.le_of_ble_eq_true rfl, Nat.le_of_ble_eq_true rfl⟩ dX8_isWhole_22 (fun r18 V19 hz_20 => ?_)
          refine gG_ret hz_20.1 hz_20.2 ?_
          refine gG_st [.int (cFindI c (le % 10 ^ (nLen le - nLen (c.2 k))))] rfl ?_
          refine g_istore_n X rfl dX8_isWhole_25 [(3, .int (cFindI c (le % 10 ^ (nLen le - nLen (c.2 k))))), (2, .int (nI (le % 10 ^ (nLen le - nLen (c.2 k))))), (0, .ref (B.2.1 20 0 0)), (1, .int (nI r))] rfl (gnl_lt hnL (by decide)) ?_
          refine g_goto X 8 (by decide) dX8_isWhole_26 ?_
          refine gG_L [2, 3, 1, 0] (L' := [(0, .ref (B.2.1 20 0 0)), (1, .int (nI r)), (2, .int (nI (le % 10 ^ (nLen le - nLen (c.2 k))))), (3, .int (cFindI c (le % 10 ^ (nLen le - nLen (c.2 k)))))]) rfl ?_
          exact ih (m + 1) (nI k) _ (by omega) (by omega) (by rw [hRd, cRd_some hcf]) b1 (by omega)
  exact loop 9 0 (-1) r h9 (Nat.le_refl _) rfl ho hr

abbrev rmX8_heard : Room := { frames := 2, cells := 0, slots := 0, locals := 43 }
set_option maxRecDepth 20000 in
theorem k_Mheard {l : Launch} {B : gB} (hI : gI B) (V : gMem) (w : gWd) (x : Int32) (hM : MOk V w) (hw : wOk w) (ht : w.1.1 0 < 2 ^ 30) : gM l B yX8_heard cX8_heard 6 (some .int) rmX8_heard [.ref (B.2.1 20 0 0), .int x] V (fun v V' => v = some (.int (oHeard w x).2.1) ∧ V' 20 0 0 0 = nI (oHeard w x).1 ∧ MOk V' (oHeard w x).2.2 ∧ mmod V V') := by
  refine gM_of (own := RX8) (L := [(0, .ref (B.2.1 20 0 0)), (1, .int x)]) (by decide +kernel) rfl hI (Nat.le_of_ble_eq_true rfl) rfl ?_
  intro Z hnL hR X F
  refine g_aload_n X 0 rfl dX8_heard_0 ?_
  refine g_iconst X 0 (by decide) dX8_heard_1 ?_
  refine gp_X8_thrown X ⟨by decide, by decide⟩ fX8_41 dX8_heard_2 ?_
  refine gG_nm (fun V1 hV1 => ?_)
  have hM1 : MOk V1 w := by rw [hV1]; exact hM.thr 0
  have hm1 : mmod V V1 := by rw [hV1]; exact mmod.rf.up (by decide) (by decide)
  refine g_aload_n X 0 rfl dX8_heard_5 ?_
  refine g_iload_n X 1 rfl dX8_heard_6 ?_
  refine g_callV X hR (rest := []) mX8_isSignal lX8_75 (k_isSignal hI V1 w.2.1 x hM1.2.1 hw.2.1) rfl rfl (Nat.le_of_ble_eq_true rfl) ⟨by decide, by decide⟩ rfl rfl rfl ⟨Nat.le_of_ble_eq_true rfl, Nat.le_of_ble_eq_true rfl, Nat.le_of_ble_eq_true rfl, Nat.le_of_ble_eq_true rfl⟩ dX8_heard_7 (fun r2 V3 hz_4 => ?_)
  refine gG_ret hz_4.1 hz_4.2 ?_
  refine gG_st [.int (if ixB x (nI w.2.1.1) then 1 else 0)] rfl ?_
  by_cases hP : ixB x (nI w.2.1.1)
  · refine gG_top 1 (if_pos (hP)) ?_
    refine g_if_ne X 19 (by decide) dX8_heard_10 (fun c5 => ?_) (fun c5 => ?_)
    · obtain ⟨j, hj, hxj⟩ := (ixB_iff (n := w.2.1.1) (by have := hw.2.1.1; omega)).mp hP
      subst hxj
      have hsl := hw.2.1.len hj
      have hs31 := hw.2.1.lt hj
      refine g_aload_n X 0 rfl dX8_heard_19 ?_
      refine gg_X8_signal X ⟨by decide, by decide⟩ fX8_9 dX8_heard_20 ?_
      refine g_iload_n X 1 rfl dX8_heard_23 ?_
      refine g_ialdN X (j) rfl (by have := hw.2.1.1; omega) (by decide) ⟨by decide, by decide⟩ rfl dX8_heard_24 ?_
      refine gG_top (nI (w.2.1.2 j)) (hM1.2.1.2 j hj) ?_
      refine g_callS X hR (As := [.int (nI (w.2.1.2 j))]) (rest := []) mX8_length lX8_44 (k_mlen hI V1 (w.2.1.2 j) hs31) rfl rfl (Nat.le_of_ble_eq_true rfl) ⟨Nat.le_of_ble_eq_true rfl, Nat.le_of_ble_eq_true rfl, Nat.le_of_ble_eq_true rfl, Nat.le_of_ble_eq_true rfl⟩ dX8_heard_25 (fun r6 V7 hz_8 => ?_)
      refine gG_ret hz_8.1 hz_8.2 ?_
      refine gG_st [.int (nI (nLen (w.2.1.2 j)))] rfl ?_
      refine g_istore_n X rfl dX8_heard_28 [(2, .int (nI (nLen (w.2.1.2 j)))), (0, .ref (B.2.1 20 0 0)), (1, .int (nI j))] rfl (gnl_lt hnL (by decide)) ?_
      refine g_iconst X 0 (by decide) dX8_heard_29 ?_
      refine g_istore_n X rfl dX8_heard_30 [(3, .int 0), (2, .int (nI (nLen (w.2.1.2 j)))), (0, .ref (B.2.1 20 0 0)), (1, .int (nI j))] rfl (gnl_lt hnL (by decide)) ?_
      refine g_iconst X 0 (by decide) dX8_heard_31 ?_
      refine g_istore X dX8_heard_32 [(4, .int 0), (3, .int 0), (2, .int (nI (nLen (w.2.1.2 j)))), (0, .ref (B.2.1 20 0 0)), (1, .int (nI j))] rfl (gnl_lt hnL (by decide)) ?_
      refine gG_L [3, 4, 2, 1, 0] (L' := [(0, .ref (B.2.1 20 0 0)), (1, .int (nI j)), (2, .int (nI (nLen (w.2.1.2 j)))), (3, .int 0), (4, .int 0)]) rfl ?_
      have loop : ∀ (f : Nat) (k : Nat) , k + f = nLen (w.2.1.2 j) →  gG Z B (0, 0) V1 34 [(0, .ref (B.2.1 20 0 0)), (1, .int (nI j)), (2, .int (nI (nLen (w.2.1.2 j)))), (3, .int (nI (hTold (w.2.1.2 j) (nLen (w.2.1.2 j)) w.2.2 (w.1.1 0) k))), (4, .int (nI k))] [] := by
        intro f
        induction f with
        | zero =>
          intro k  hf 
          refine g_iload X 4 rfl dX8_heard_34 ?_
          refine g_iload_n X 2 rfl dX8_heard_36 ?_
          refine g_icmp_ge X 108 (by decide) dX8_heard_37 (fun c9 => ?_) (fun c9 => ?_)
          · refine g_iload_n X 3 rfl dX8_heard_108 ?_
            refine g_iret X F ?_ rfl dX8_heard_109
            rw [show oHeard w (nI j) = (0, nI (hTold (w.2.1.2 j) (nLen (w.2.1.2 j)) w.2.2 (w.1.1 0) (nLen (w.2.1.2 j))), w) from by unfold oHeard; rw [if_pos hP, nI_clamp (by have := hw.2.1.1; omega)]]
            exact ⟨by rw [show k = nLen (w.2.1.2 j) by omega], by rw [hV1, gup_eq]; rfl, hM1, hm1⟩
          · first | exact absurd (nI_le (by omega) (by omega)) c9 | exact absurd c9 (nI_le (by omega) (by omega))
        | succ f ih =>
          intro k  hf 
          refine g_iload X 4 rfl dX8_heard_34 ?_
          refine g_iload_n X 2 rfl dX8_heard_36 ?_
          refine g_icmp_ge X 108 (by decide) dX8_heard_37 (fun c10 => ?_) (fun c10 => ?_)
          · first | exact absurd (nI_ge (by omega) (by omega)) c10 | exact absurd c10 (nI_ge (by omega) (by omega))
          · refine g_aload_n X 0 rfl dX8_heard_40 ?_
            refine gg_X8_signal X ⟨by decide, by decide⟩ fX8_9 dX8_heard_41 ?_
            refine g_iload_n X 1 rfl dX8_heard_44 ?_
            refine g_ialdN X (j) rfl (by have := hw.2.1.1; omega) (by decide) ⟨by decide, by decide⟩ rfl dX8_heard_45 ?_
            refine gG_top (nI (w.2.1.2 j)) (hM1.2.1.2 j hj) ?_
            refine g_iload_n X 2 rfl dX8_heard_46 ?_
            refine g_iconst X 1 (by decide) dX8_heard_47 ?_
            refine g_isub X dX8_heard_48 ?_
            refine gG_top (nI (nLen (w.2.1.2 j) - 1)) (nI_dec (by omega)) ?_
            refine g_iload X 4 rfl dX8_heard_49 ?_
            refine g_isub X dX8_heard_51 ?_
            refine gG_top (nI (nLen (w.2.1.2 j) - 1 - k)) (pk_sub (by omega)) ?_
            refine g_callS X hR (As := [.int (nI (nLen (w.2.1.2 j) - 1 - k))]) (rest := [.int (nI (w.2.1.2 j))]) mX8_ten lX8_52 (k_ten hI V1 (nLen (w.2.1.2 j) - 1 - k) (by omega)) rfl rfl (Nat.le_of_ble_eq_true rfl) ⟨Nat.le_of_ble_eq_true rfl, Nat.le_of_ble_eq_true rfl, Nat.le_of_ble_eq_true rfl, Nat.le_of_ble_eq_true rfl⟩ dX8_heard_52 (fun r11 V12 hz_13 => ?_)
            refine gG_ret hz_13.1 hz_13.2 ?_
            refine gG_st [.int (nI (10 ^ (nLen (w.2.1.2 j) - 1 - k))), .int (nI (w.2.1.2 j))] rfl ?_
            refine g_idiv X (nI_ne0 (ten_pos _) (ten_lt (by omega))) dX8_heard_55 ?_
            refine gG_top (nI ((w.2.1.2 j) / 10 ^ (nLen (w.2.1.2 j) - 1 - k))) (pk_div hs31 (ten_pos _) (ten_lt (by omega))) ?_
            refine g_bipush X 10 (by decide) dX8_heard_56 ?_
            refine g_irem X (by decide) dX8_heard_58 ?_
            refine gG_top (nI ((w.2.1.2 j) / 10 ^ (nLen (w.2.1.2 j) - 1 - k) % 10)) (pk_rem (d := 10) (Nat.lt_of_le_of_lt (Nat.div_le_self _ _) hs31) (by decide) (by decide)) ?_
            refine g_istore X dX8_heard_59 [(5, .int (nI ((w.2.1.2 j) / 10 ^ (nLen (w.2.1.2 j) - 1 - k) % 10))), (0, .ref (B.2.1 20 0 0)), (1, .int (nI j)), (2, .int (nI (nLen (w.2.1.2 j)))), (3, .int (nI (hTold (w.2.1.2 j) (nLen (w.2.1.2 j)) w.2.2 (w.1.1 0) k))), (4, .int (nI k))] rfl (gnl_lt hnL (by decide)) ?_
            refine g_aload_n X 1 rfl dX8_heard_61 ?_
            refine gg_X8_fog X ⟨by decide, by decide⟩ fX8_13 dX8_heard_62 ?_
            refine g_aload_n X 1 rfl dX8_heard_65 ?_
            refine gg_X8_s X ⟨by decide, by decide⟩ fX8_34 dX8_heard_66 ?_
            refine gg_X7_tick X ⟨by decide, by decide⟩ fX8_79 dX8_heard_69 ?_
            refine gG_top (nI (w.1.1 0)) (hM1.1.1.1) ?_
            refine g_iload X 5 rfl dX8_heard_72 ?_
            refine g_iadd X dX8_heard_74 ?_
            refine gG_top (nI ((w.1.1 0) + k)) (nI_add (w.1.1 0) k) ?_
            refine g_bipush X 20 (by decide) dX8_heard_75 ?_
            refine g_irem X (by decide) dX8_heard_77 ?_
            refine gG_top (nI ((w.1.1 0 + k) % 20)) (pk_rem (d := 20) (by omega) (by decide) (by decide)) ?_
            refine g_ialdN X ((w.1.1 0 + k) % 20) rfl (Nat.mod_lt _ (by decide)) (by decide) ⟨by decide, by decide⟩ rfl dX8_heard_78 ?_
            refine gG_top (nI (w.2.2 ((w.1.1 0 + k) % 20))) (hM1.2.2 _ (Nat.mod_lt _ (by decide))) ?_
            refine g_iload X 0 rfl dX8_heard_79 ?_
            refine g_iconst X 1 (by decide) dX8_heard_81 ?_
            have hr10 : (w.2.1.2 j) / 10 ^ (nLen (w.2.1.2 j) - 1 - k) % 10 < 10 := Nat.mod_lt _ (by decide)
            by_cases hr1 : (w.2.1.2 j) / 10 ^ (nLen (w.2.1.2 j) - 1 - k) % 10 = 1
            · skip
              refine g_icmp_ne X 89 (by decide) dX8_heard_82 (fun c14 => ?_) (fun c14 => ?_)
              · first | exact absurd (by rw [hr1]; rfl) c14 | exact absurd c14 (by rw [hr1]; rfl)
              · refine g_iconst X 4 (by decide) dX8_heard_85 ?_
                refine g_goto X 91 (by decide) dX8_heard_86 ?_
                by_cases hfg : w.2.2 ((w.1.1 0 + k) % 20) < 4
                · skip
                  refine g_icmp_ge X 102 (by decide) dX8_heard_91 (fun c15 => ?_) (fun c15 => ?_)
                  · first | exact absurd (nI_ge (b := 4) hfg (by decide)) c15 | exact absurd c15 (nI_ge (b := 4) hfg (by decide))
                  · refine g_bipush X 10 (by decide) dX8_heard_94 ?_
                    refine g_iload_n X 4 rfl dX8_heard_96 ?_
                    refine g_imul X dX8_heard_97 ?_
                    refine gG_top (nI (10 * (hTold (w.2.1.2 j) (nLen (w.2.1.2 j)) w.2.2 (w.1.1 0) k))) (pk_mul 10 (hTold (w.2.1.2 j) (nLen (w.2.1.2 j)) w.2.2 (w.1.1 0) k)) ?_
                    refine g_iload X 0 rfl dX8_heard_98 ?_
                    refine g_iadd X dX8_heard_100 ?_
                    refine gG_top (nI ((10 * (hTold (w.2.1.2 j) (nLen (w.2.1.2 j)) w.2.2 (w.1.1 0) k)) + ((w.2.1.2 j) / 10 ^ (nLen (w.2.1.2 j) - 1 - k) % 10))) (nI_add (10 * (hTold (w.2.1.2 j) (nLen (w.2.1.2 j)) w.2.2 (w.1.1 0) k)) ((w.2.1.2 j) / 10 ^ (nLen (w.2.1.2 j) - 1 - k) % 10)) ?_
                    refine g_istore_n X rfl dX8_heard_101 [(3, .int (nI ((10 * (hTold (w.2.1.2 j) (nLen (w.2.1.2 j)) w.2.2 (w.1.1 0) k)) + ((w.2.1.2 j) / 10 ^ (nLen (w.2.1.2 j) - 1 - k) % 10)))), (5, .int (nI ((w.2.1.2 j) / 10 ^ (nLen (w.2.1.2 j) - 1 - k) % 10))), (0, .ref (B.2.1 20 0 0)), (1, .int (nI j)), (2, .int (nI (nLen (w.2.1.2 j)))), (4, .int (nI k))] rfl (gnl_lt hnL (by decide)) ?_
                    have hst : hTold (w.2.1.2 j) (nLen (w.2.1.2 j)) w.2.2 (w.1.1 0) (k + 1) = 10 * hTold (w.2.1.2 j) (nLen (w.2.1.2 j)) w.2.2 (w.1.1 0) k + (w.2.1.2 j) / 10 ^ (nLen (w.2.1.2 j) - 1 - k) % 10 := by
                      show (if _ < (if _ = 1 then 4 else 7) then _ else _) = _
                      rw [if_pos hr1, if_pos hfg]
                    refine gG_Le [(3, .int (nI (hTold (w.2.1.2 j) (nLen (w.2.1.2 j)) w.2.2 (w.1.1 0) (k + 1)))), (5, .int (nI ((w.2.1.2 j) / 10 ^ (nLen (w.2.1.2 j) - 1 - k) % 10))), (0, .ref (B.2.1 20 0 0)), (1, .int (nI j)), (2, .int (nI (nLen (w.2.1.2 j)))), (4, .int (nI k))] (by rw [hst]) ?_
                    refine g_iinc X 5 rfl (nI (k + 1)) (iinc_1 _) dX8_heard_102 [(4, .int (nI (k + 1))), (3, .int (nI (hTold (w.2.1.2 j) (nLen (w.2.1.2 j)) w.2.2 (w.1.1 0) (k + 1)))), (5, .int (nI ((w.2.1.2 j) / 10 ^ (nLen (w.2.1.2 j) - 1 - k) % 10))), (0, .ref (B.2.1 20 0 0)), (1, .int (nI j)), (2, .int (nI (nLen (w.2.1.2 j))))] rfl (gnl_lt hnL (by decide)) ?_
                    refine g_goto X 34 (by decide) dX8_heard_105 ?_
                    refine gG_L [3, 4, 5, 1, 0] (L' := [(0, .ref (B.2.1 20 0 0)), (1, .int (nI j)), (2, .int (nI (nLen (w.2.1.2 j)))), (3, .int (nI (hTold (w.2.1.2 j) (nLen (w.2.1.2 j)) w.2.2 (w.1.1 0) (k + 1)))), (4, .int (nI (k + 1)))]) rfl ?_
                    refine ih (k + 1) (by omega)
                · skip
                  refine g_icmp_ge X 102 (by decide) dX8_heard_91 (fun c16 => ?_) (fun c16 => ?_)
                  · have hst : hTold (w.2.1.2 j) (nLen (w.2.1.2 j)) w.2.2 (w.1.1 0) (k + 1) = hTold (w.2.1.2 j) (nLen (w.2.1.2 j)) w.2.2 (w.1.1 0) k := by
                      show (if _ < (if _ = 1 then 4 else 7) then _ else _) = _
                      rw [if_pos hr1, if_neg hfg]
                    refine gG_Le [(5, .int (nI ((w.2.1.2 j) / 10 ^ (nLen (w.2.1.2 j) - 1 - k) % 10))), (0, .ref (B.2.1 20 0 0)), (1, .int (nI j)), (2, .int (nI (nLen (w.2.1.2 j)))), (3, .int (nI (hTold (w.2.1.2 j) (nLen (w.2.1.2 j)) w.2.2 (w.1.1 0) (k + 1)))), (4, .int (nI k))] (by rw [hst]) ?_
                    refine g_iinc X 5 rfl (nI (k + 1)) (iinc_1 _) dX8_heard_102 [(4, .int (nI (k + 1))), (5, .int (nI ((w.2.1.2 j) / 10 ^ (nLen (w.2.1.2 j) - 1 - k) % 10))), (0, .ref (B.2.1 20 0 0)), (1, .int (nI j)), (2, .int (nI (nLen (w.2.1.2 j)))), (3, .int (nI (hTold (w.2.1.2 j) (nLen (w.2.1.2 j)) w.2.2 (w.1.1 0) (k + 1))))] rfl (gnl_lt hnL (by decide)) ?_
                    refine g_goto X 34 (by decide) dX8_heard_105 ?_
                    refine gG_L [2, 3, 4, 5, 0] (L' := [(0, .ref (B.2.1 20 0 0)), (1, .int (nI j)), (2, .int (nI (nLen (w.2.1.2 j)))), (3, .int (nI (hTold (w.2.1.2 j) (nLen (w.2.1.2 j)) w.2.2 (w.1.1 0) (k + 1)))), (4, .int (nI (k + 1)))]) rfl ?_
                    refine ih (k + 1) (by omega)
                  · first | exact absurd (nI_le (a := 4) (by omega) (by have := hw.2.2 ((w.1.1 0 + k) % 20) (Nat.mod_lt _ (by decide)); omega)) c16 | exact absurd c16 (nI_le (a := 4) (by omega) (by have := hw.2.2 ((w.1.1 0 + k) % 20) (Nat.mod_lt _ (by decide)); omega))
            · skip
              refine g_icmp_ne X 89 (by decide) dX8_heard_82 (fun c17 => ?_) (fun c17 => ?_)
              · refine g_bipush X 7 (by decide) dX8_heard_89 ?_
                by_cases hfg : w.2.2 ((w.1.1 0 + k) % 20) < 7
                · skip
                  refine g_icmp_ge X 102 (by decide) dX8_heard_91 (fun c18 => ?_) (fun c18 => ?_)
                  · first | exact absurd (nI_ge (b := 7) hfg (by decide)) c18 | exact absurd c18 (nI_ge (b := 7) hfg (by decide))
                  · refine g_bipush X 10 (by decide) dX8_heard_94 ?_
                    refine g_iload_n X 4 rfl dX8_heard_96 ?_
                    refine g_imul X dX8_heard_97 ?_
                    refine gG_top (nI (10 * (hTold (w.2.1.2 j) (nLen (w.2.1.2 j)) w.2.2 (w.1.1 0) k))) (pk_mul 10 (hTold (w.2.1.2 j) (nLen (w.2.1.2 j)) w.2.2 (w.1.1 0) k)) ?_
                    refine g_iload X 0 rfl dX8_heard_98 ?_
                    refine g_iadd X dX8_heard_100 ?_
                    refine gG_top (nI ((10 * (hTold (w.2.1.2 j) (nLen (w.2.1.2 j)) w.2.2 (w.1.1 0) k)) + ((w.2.1.2 j) / 10 ^ (nLen (w.2.1.2 j) - 1 - k) % 10))) (nI_add (10 * (hTold (w.2.1.2 j) (nLen (w.2.1.2 j)) w.2.2 (w.1.1 0) k)) ((w.2.1.2 j) / 10 ^ (nLen (w.2.1.2 j) - 1 - k) % 10)) ?_
                    refine g_istore_n X rfl dX8_heard_101 [(3, .int (nI ((10 * (hTold (w.2.1.2 j) (nLen (w.2.1.2 j)) w.2.2 (w.1.1 0) k)) + ((w.2.1.2 j) / 10 ^ (nLen (w.2.1.2 j) - 1 - k) % 10)))), (5, .int (nI ((w.2.1.2 j) / 10 ^ (nLen (w.2.1.2 j) - 1 - k) % 10))), (0, .ref (B.2.1 20 0 0)), (1, .int (nI j)), (2, .int (nI (nLen (w.2.1.2 j)))), (4, .int (nI k))] rfl (gnl_lt hnL (by decide)) ?_
                    have hst : hTold (w.2.1.2 j) (nLen (w.2.1.2 j)) w.2.2 (w.1.1 0) (k + 1) = 10 * hTold (w.2.1.2 j) (nLen (w.2.1.2 j)) w.2.2 (w.1.1 0) k + (w.2.1.2 j) / 10 ^ (nLen (w.2.1.2 j) - 1 - k) % 10 := by
                      show (if _ < (if _ = 1 then 4 else 7) then _ else _) = _
                      rw [if_neg hr1, if_pos hfg]
                    refine gG_Le [(3, .int (nI (hTold (w.2.1.2 j) (nLen (w.2.1.2 j)) w.2.2 (w.1.1 0) (k + 1)))), (5, .int (nI ((w.2.1.2 j) / 10 ^ (nLen (w.2.1.2 j) - 1 - k) % 10))), (0, .ref (B.2.1 20 0 0)), (1, .int (nI j)), (2, .int (nI (nLen (w.2.1.2 j)))), (4, .int (nI k))] (by rw [hst]) ?_
                    refine g_iinc X 5 rfl (nI (k + 1)) (iinc_1 _) dX8_heard_102 [(4, .int (nI (k + 1))), (3, .int (nI (hTold (w.2.1.2 j) (nLen (w.2.1.2 j)) w.2.2 (w.1.1 0) (k + 1)))), (5, .int (nI ((w.2.1.2 j) / 10 ^ (nLen (w.2.1.2 j) - 1 - k) % 10))), (0, .ref (B.2.1 20 0 0)), (1, .int (nI j)), (2, .int (nI (nLen (w.2.1.2 j))))] rfl (gnl_lt hnL (by decide)) ?_
                    refine g_goto X 34 (by decide) dX8_heard_105 ?_
                    refine gG_L [3, 4, 5, 1, 0] (L' := [(0, .ref (B.2.1 20 0 0)), (1, .int (nI j)), (2, .int (nI (nLen (w.2.1.2 j)))), (3, .int (nI (hTold (w.2.1.2 j) (nLen (w.2.1.2 j)) w.2.2 (w.1.1 0) (k + 1)))), (4, .int (nI (k + 1)))]) rfl ?_
                    refine ih (k + 1) (by omega)
                · skip
                  refine g_icmp_ge X 102 (by decide) dX8_heard_91 (fun c19 => ?_) (fun c19 => ?_)
                  · have hst : hTold (w.2.1.2 j) (nLen (w.2.1.2 j)) w.2.2 (w.1.1 0) (k + 1) = hTold (w.2.1.2 j) (nLen (w.2.1.2 j)) w.2.2 (w.1.1 0) k := by
                      show (if _ < (if _ = 1 then 4 else 7) then _ else _) = _
                      rw [if_neg hr1, if_neg hfg]
                    refine gG_Le [(5, .int (nI ((w.2.1.2 j) / 10 ^ (nLen (w.2.1.2 j) - 1 - k) % 10))), (0, .ref (B.2.1 20 0 0)), (1, .int (nI j)), (2, .int (nI (nLen (w.2.1.2 j)))), (3, .int (nI (hTold (w.2.1.2 j) (nLen (w.2.1.2 j)) w.2.2 (w.1.1 0) (k + 1)))), (4, .int (nI k))] (by rw [hst]) ?_
                    refine g_iinc X 5 rfl (nI (k + 1)) (iinc_1 _) dX8_heard_102 [(4, .int (nI (k + 1))), (5, .int (nI ((w.2.1.2 j) / 10 ^ (nLen (w.2.1.2 j) - 1 - k) % 10))), (0, .ref (B.2.1 20 0 0)), (1, .int (nI j)), (2, .int (nI (nLen (w.2.1.2 j)))), (3, .int (nI (hTold (w.2.1.2 j) (nLen (w.2.1.2 j)) w.2.2 (w.1.1 0) (k + 1))))] rfl (gnl_lt hnL (by decide)) ?_
                    refine g_goto X 34 (by decide) dX8_heard_105 ?_
                    refine gG_L [2, 3, 4, 5, 0] (L' := [(0, .ref (B.2.1 20 0 0)), (1, .int (nI j)), (2, .int (nI (nLen (w.2.1.2 j)))), (3, .int (nI (hTold (w.2.1.2 j) (nLen (w.2.1.2 j)) w.2.2 (w.1.1 0) (k + 1)))), (4, .int (nI (k + 1)))]) rfl ?_
                    refine ih (k + 1) (by omega)
                  · first | exact absurd (nI_le (a := 7) (by omega) (by have := hw.2.2 ((w.1.1 0 + k) % 20) (Nat.mod_lt _ (by decide)); omega)) c19 | exact absurd c19 (nI_le (a := 7) (by omega) (by have := hw.2.2 ((w.1.1 0 + k) % 20) (Nat.mod_lt _ (by decide)); omega))
              · first | exact absurd (fun z => hr1 ((nI_eq (a := (w.2.1.2 j) / 10 ^ (nLen (w.2.1.2 j) - 1 - k) % 10) (b := 1) (by omega) (by decide)).mp z)) c17 | exact absurd c17 (fun z => hr1 ((nI_eq (a := (w.2.1.2 j) / 10 ^ (nLen (w.2.1.2 j) - 1 - k) % 10) (b := 1) (by omega) (by decide)).mp z))
      exact loop (nLen (w.2.1.2 j)) 0 (by omega)
    ·  exact absurd c5 (by decide)
  · refine gG_top 0 (if_neg (hP)) ?_
    refine g_if_ne X 19 (by decide) dX8_heard_10 (fun c20 => ?_) (fun c20 => ?_)
    ·  exact absurd c20 (by decide)
    · refine g_aload_n X 0 rfl dX8_heard_13 ?_
      refine g_iconst X 1 (by decide) dX8_heard_14 ?_
      refine g_callV X hR (rest := []) mX8_no lX8_59 (k_no hI V1 1 ) rfl rfl (Nat.le_of_ble_eq_true rfl) ⟨by decide, by decide⟩ rfl rfl rfl ⟨Nat.le_of_ble_eq_true rfl, Nat.le_of_ble_eq_true rfl, Nat.le_of_ble_eq_true rfl, Nat.le_of_ble_eq_true rfl⟩ dX8_heard_15 (fun r21 V22 hz_23 => ?_)
      refine gG_rv hz_23.1 ?_
      have hV22 := hz_23.2
      refine gG_st [.int 0] rfl ?_
      refine g_iret X F ?_ rfl dX8_heard_18
      rw [show oHeard w x = (1, 0, w) from if_neg hP]
      exact ⟨rfl, by rw [hV22, gup_eq]; rfl, by rw [hV22]; exact hM1.thr _, by rw [hV22]; exact hm1.up (by decide) (by decide)⟩

abbrev rmX8_safe : Room := { frames := 4, cells := 0, slots := 0, locals := 89 }
set_option maxRecDepth 20000 in
theorem k_Msafe {l : Launch} {B : gB} (hI : gI B) (V : gMem) (w : gWd) (x : Int32) (hM : MOk V w) (hw : wOk w) : gM l B yX8_safe cX8_safe 4 (some .int) rmX8_safe [.ref (B.2.1 20 0 0), .int x] V (fun v V' => v = some (.int (oSafe w x).2.1) ∧ V' 20 0 0 0 = nI (oSafe w x).1 ∧ MOk V' (oSafe w x).2.2 ∧ mmod V V') := by
  refine gM_of (own := RX8) (L := [(0, .ref (B.2.1 20 0 0)), (1, .int x)]) (by decide +kernel) rfl hI (Nat.le_of_ble_eq_true rfl) rfl ?_
  intro Z hnL hR X F
  refine g_aload_n X 0 rfl dX8_safe_0 ?_
  refine g_iconst X 0 (by decide) dX8_safe_1 ?_
  refine gp_X8_thrown X ⟨by decide, by decide⟩ fX8_41 dX8_safe_2 ?_
  refine gG_nm (fun V1 hV1 => ?_)
  have hM1 : MOk V1 w := by rw [hV1]; exact hM.thr 0
  have hm1 : mmod V V1 := by rw [hV1]; exact mmod.rf.up (by decide) (by decide)
  refine g_aload_n X 0 rfl dX8_safe_5 ?_
  refine g_iload_n X 1 rfl dX8_safe_6 ?_
  refine g_callV X hR (rest := []) mX8_isSignal lX8_75 (k_isSignal hI V1 w.2.1 x hM1.2.1 hw.2.1) rfl rfl (Nat.le_of_ble_eq_true rfl) ⟨by decide, by decide⟩ rfl rfl rfl ⟨Nat.le_of_ble_eq_true rfl, Nat.le_of_ble_eq_true rfl, Nat.le_of_ble_eq_true rfl, Nat.le_of_ble_eq_true rfl⟩ dX8_safe_7 (fun r2 V3 hz_4 => ?_)
  refine gG_ret hz_4.1 hz_4.2 ?_
  refine gG_st [.int (if ixB x (nI w.2.1.1) then 1 else 0)] rfl ?_
  by_cases hP : ixB x (nI w.2.1.1)
  · refine gG_top 1 (if_pos (hP)) ?_
    refine g_if_ne X 19 (by decide) dX8_safe_10 (fun c5 => ?_) (fun c5 => ?_)
    · obtain ⟨j, hj, hxj⟩ := (ixB_iff (n := w.2.1.1) (by have := hw.2.1.1; omega)).mp hP
      subst hxj
      have hsl := hw.2.1.len hj
      have hs31 := hw.2.1.lt hj
      refine g_iconst X 0 (by decide) dX8_safe_19 ?_
      refine g_istore_n X rfl dX8_safe_20 [(2, .int 0), (0, .ref (B.2.1 20 0 0)), (1, .int (nI j))] rfl (gnl_lt hnL (by decide)) ?_
      refine g_iconst X 0 (by decide) dX8_safe_21 ?_
      refine g_istore_n X rfl dX8_safe_22 [(3, .int 0), (2, .int 0), (0, .ref (B.2.1 20 0 0)), (1, .int (nI j))] rfl (gnl_lt hnL (by decide)) ?_
      refine gG_L [2, 3, 1, 0] (L' := [(0, .ref (B.2.1 20 0 0)), (1, .int (nI j)), (2, .int 0), (3, .int 0)]) rfl ?_
      have loop : ∀ (f : Nat) (p : Nat) , p + f = nLen (w.2.1.2 j) →  gG Z B (0, 0) V1 23 [(0, .ref (B.2.1 20 0 0)), (1, .int (nI j)), (2, .int (nI (cntF (fun p => ! cWhole w.2.1 (nWo (w.2.1.2 j) p)) p))), (3, .int (nI p))] [] := by
        intro f
        induction f with
        | zero =>
          intro p  hf 
          refine g_iload_n X 3 rfl dX8_safe_23 ?_
          refine g_aload_n X 0 rfl dX8_safe_24 ?_
          refine gg_X8_signal X ⟨by decide, by decide⟩ fX8_9 dX8_safe_25 ?_
          refine g_iload_n X 1 rfl dX8_safe_28 ?_
          refine g_ialdN X (j) rfl (by have := hw.2.1.1; omega) (by decide) ⟨by decide, by decide⟩ rfl dX8_safe_29 ?_
          refine gG_top (nI (w.2.1.2 j)) (hM1.2.1.2 j hj) ?_
          refine g_callS X hR (As := [.int (nI (w.2.1.2 j))]) (rest := [.int (nI p)]) mX8_length lX8_44 (k_mlen hI V1 (w.2.1.2 j) hs31) rfl rfl (Nat.le_of_ble_eq_true rfl) ⟨Nat.le_of_ble_eq_true rfl, Nat.le_of_ble_eq_true rfl, Nat.le_of_ble_eq_true rfl, Nat.le_of_ble_eq_true rfl⟩ dX8_safe_30 (fun r6 V7 hz_8 => ?_)
          refine gG_ret hz_8.1 hz_8.2 ?_
          refine gG_st [.int (nI (nLen (w.2.1.2 j))), .int (nI p)] rfl ?_
          refine g_icmp_ge X 87 (by decide) dX8_safe_33 (fun c9 => ?_) (fun c9 => ?_)
          · refine g_iload_n X 2 rfl dX8_safe_87 ?_
            refine g_iret X F ?_ rfl dX8_safe_88
            rw [show oSafe w (nI j) = (0, nI (cSafe w.2.1 (w.2.1.2 j)), w) from by unfold oSafe; rw [if_pos hP, nI_clamp (by have := hw.2.1.1; omega)]]
            exact ⟨by rw [show p = nLen (w.2.1.2 j) by omega]; rfl, by rw [hV1, gup_eq]; rfl, hM1, hm1⟩
          · first | exact absurd (nI_le (by omega) (by omega)) c9 | exact absurd c9 (nI_le (by omega) (by omega))
        | succ f ih =>
          intro p  hf 
          obtain ⟨o1, o2⟩ := nWo_ok (hw.2.1.2 j hj).1 (p := p) (by omega)
          have hwl : nWo (w.2.1.2 j) p < 2 ^ 31 := Nat.lt_trans (lt_nLen 6 (by omega)) (by decide)
          refine g_iload_n X 3 rfl dX8_safe_23 ?_
          refine g_aload_n X 0 rfl dX8_safe_24 ?_
          refine gg_X8_signal X ⟨by decide, by decide⟩ fX8_9 dX8_safe_25 ?_
          refine g_iload_n X 1 rfl dX8_safe_28 ?_
          refine g_ialdN X (j) rfl (by have := hw.2.1.1; omega) (by decide) ⟨by decide, by decide⟩ rfl dX8_safe_29 ?_
          refine gG_top (nI (w.2.1.2 j)) (hM1.2.1.2 j hj) ?_
          refine g_callS X hR (As := [.int (nI (w.2.1.2 j))]) (rest := [.int (nI p)]) mX8_length lX8_44 (k_mlen hI V1 (w.2.1.2 j) hs31) rfl rfl (Nat.le_of_ble_eq_true rfl) ⟨Nat.le_of_ble_eq_true rfl, Nat.le_of_ble_eq_true rfl, Nat.le_of_ble_eq_true rfl, Nat.le_of_ble_eq_true rfl⟩ dX8_safe_30 (fun r10 V11 hz_12 => ?_)
          refine gG_ret hz_12.1 hz_12.2 ?_
          refine gG_st [.int (nI (nLen (w.2.1.2 j))), .int (nI p)] rfl ?_
          refine g_icmp_ge X 87 (by decide) dX8_safe_33 (fun c13 => ?_) (fun c13 => ?_)
          · first | exact absurd (nI_ge (by omega) (by omega)) c13 | exact absurd c13 (nI_ge (by omega) (by omega))
          · refine g_iload_n X 2 rfl dX8_safe_36 ?_
            refine g_aload_n X 0 rfl dX8_safe_37 ?_
            refine g_aload_n X 0 rfl dX8_safe_38 ?_
            refine gg_X8_signal X ⟨by decide, by decide⟩ fX8_9 dX8_safe_39 ?_
            refine g_iload_n X 1 rfl dX8_safe_42 ?_
            refine g_ialdN X (j) rfl (by have := hw.2.1.1; omega) (by decide) ⟨by decide, by decide⟩ rfl dX8_safe_43 ?_
            refine gG_top (nI (w.2.1.2 j)) (hM1.2.1.2 j hj) ?_
            refine g_iload_n X 3 rfl dX8_safe_44 ?_
            refine g_iconst X 1 (by decide) dX8_safe_45 ?_
            refine g_iadd X dX8_safe_46 ?_
            refine gG_top (nI (p + 1)) (nI_1 _) ?_
            refine g_callS X hR (As := [.int (nI (p + 1))]) (rest := [.int (nI (w.2.1.2 j)), .ref (B.2.1 20 0 0), .int (nI (cntF (fun p => ! cWhole w.2.1 (nWo (w.2.1.2 j) p)) p))]) mX8_ten lX8_52 (k_ten hI V1 (p + 1) (by omega)) rfl rfl (Nat.le_of_ble_eq_true rfl) ⟨Nat.le_of_ble_eq_true rfl, Nat.le_of_ble_eq_true rfl, Nat.le_of_ble_eq_true rfl, Nat.le_of_ble_eq_true rfl⟩ dX8_safe_47 (fun r14 V15 hz_16 => ?_)
            refine gG_ret hz_16.1 hz_16.2 ?_
            refine gG_st [.int (nI (10 ^ (p + 1))), .int (nI (w.2.1.2 j)), .ref (B.2.1 20 0 0), .int (nI (cntF (fun p => ! cWhole w.2.1 (nWo (w.2.1.2 j) p)) p))] rfl ?_
            refine g_idiv X (nI_ne0 (ten_pos _) (ten_lt (by omega))) dX8_safe_50 ?_
            refine gG_top (nI ((w.2.1.2 j) / 10 ^ (p + 1))) (pk_div hs31 (ten_pos _) (ten_lt (by omega))) ?_
            refine g_iload_n X 3 rfl dX8_safe_51 ?_
            refine g_callS X hR (As := [.int (nI p)]) (rest := [.int (nI ((w.2.1.2 j) / 10 ^ (p + 1))), .ref (B.2.1 20 0 0), .int (nI (cntF (fun p => ! cWhole w.2.1 (nWo (w.2.1.2 j) p)) p))]) mX8_ten lX8_52 (k_ten hI V1 p (by omega)) rfl rfl (Nat.le_of_ble_eq_true rfl) ⟨Nat.le_of_ble_eq_true rfl, Nat.le_of_ble_eq_true rfl, Nat.le_of_ble_eq_true rfl, Nat.le_of_ble_eq_true rfl⟩ dX8_safe_52 (fun r17 V18 hz_19 => ?_)
            refine gG_ret hz_19.1 hz_19.2 ?_
            refine gG_st [.int (nI (10 ^ p)), .int (nI ((w.2.1.2 j) / 10 ^ (p + 1))), .ref (B.2.1 20 0 0), .int (nI (cntF (fun p => ! cWhole w.2.1 (nWo (w.2.1.2 j) p)) p))] rfl ?_
            refine g_imul X dX8_safe_55 ?_
            refine gG_top (nI (((w.2.1.2 j) / 10 ^ (p + 1)) * (10 ^ p))) (pk_mul ((w.2.1.2 j) / 10 ^ (p + 1)) (10 ^ p)) ?_
            refine g_aload_n X 0 rfl dX8_safe_56 ?_
            refine gg_X8_signal X ⟨by decide, by decide⟩ fX8_9 dX8_safe_57 ?_
            refine g_iload_n X 1 rfl dX8_safe_60 ?_
            refine g_ialdN X (j) rfl (by have := hw.2.1.1; omega) (by decide) ⟨by decide, by decide⟩ rfl dX8_safe_61 ?_
            refine gG_top (nI (w.2.1.2 j)) (hM1.2.1.2 j hj) ?_
            refine g_iload_n X 3 rfl dX8_safe_62 ?_
            refine g_callS X hR (As := [.int (nI p)]) (rest := [.int (nI (w.2.1.2 j)), .int (nI (((w.2.1.2 j) / 10 ^ (p + 1)) * (10 ^ p))), .ref (B.2.1 20 0 0), .int (nI (cntF (fun p => ! cWhole w.2.1 (nWo (w.2.1.2 j) p)) p))]) mX8_ten lX8_52 (k_ten hI V1 p (by omega)) rfl rfl (Nat.le_of_ble_eq_true rfl) ⟨Nat.le_of_ble_eq_true rfl, Nat.le_of_ble_eq_true rfl, Nat.le_of_ble_eq_true rfl, Nat.le_of_ble_eq_true rfl⟩ dX8_safe_63 (fun r20 V21 hz_22 => ?_)
            refine gG_ret hz_22.1 hz_22.2 ?_
            refine gG_st [.int (nI (10 ^ p)), .int (nI (w.2.1.2 j)), .int (nI (((w.2.1.2 j) / 10 ^ (p + 1)) * (10 ^ p))), .ref (B.2.1 20 0 0), .int (nI (cntF (fun p => ! cWhole w.2.1 (nWo (w.2.1.2 j) p)) p))] rfl ?_
            refine g_irem X (nI_ne0 (ten_pos _) (ten_lt (by omega))) dX8_safe_66 ?_
            refine gG_top (nI ((w.2.1.2 j) % 10 ^ p)) (pk_rem hs31 (ten_pos _) (ten_lt (by omega))) ?_
            refine g_iadd X dX8_safe_67 ?_
            refine gG_top (nI ((((w.2.1.2 j) / 10 ^ (p + 1)) * (10 ^ p)) + ((w.2.1.2 j) % 10 ^ p))) (nI_add (((w.2.1.2 j) / 10 ^ (p + 1)) * (10 ^ p)) ((w.2.1.2 j) % 10 ^ p)) ?_
            refine gG_top (nI (nWo (w.2.1.2 j) p)) (rfl) ?_
            refine g_callV X hR (rest := [.int (nI (cntF (fun p => ! cWhole w.2.1 (nWo (w.2.1.2 j) p)) p))]) mX8_isWhole lX8_82 (k_isWhole hI V1 w.2.1 (nWo (w.2.1.2 j) p) hM1.2.1 hw.2.1 hwl (by omega) o1) rfl rfl (Nat.le_of_ble_eq_true rfl) ⟨by decide, by decide⟩ rfl rfl rfl ⟨Nat.le_of_ble_eq_true rfl, Nat.le_of_ble_eq_true rfl, Nat.le_of_ble_eq_true rfl, Nat.le_of_ble_eq_true rfl⟩ dX8_safe_68 (fun r23 V24 hz_25 => ?_)
            refine gG_ret hz_25.1 hz_25.2 ?_
            refine gG_st [.int (if cWhole w.2.1 (nWo (w.2.1.2 j) p) = true then 1 else 0), .int (nI (cntF (fun p => ! cWhole w.2.1 (nWo (w.2.1.2 j) p)) p))] rfl ?_
            by_cases hwh : cWhole w.2.1 (nWo (w.2.1.2 j) p) = true
            · refine gG_top 1 (if_pos hwh) ?_
              refine g_if_eq X 78 (by decide) dX8_safe_71 (fun c26 => ?_) (fun c26 => ?_)
              ·  exact absurd c26 (by decide)
              · refine g_iconst X 0 (by decide) dX8_safe_74 ?_
                refine g_goto X 79 (by decide) dX8_safe_75 ?_
                refine g_iadd X dX8_safe_79 ?_
                refine gG_top (nI ((cntF (fun p => ! cWhole w.2.1 (nWo (w.2.1.2 j) p)) p) + 0)) (nI_add (cntF (fun p => ! cWhole w.2.1 (nWo (w.2.1.2 j) p)) p) 0) ?_
                have hct : cntF (fun p => ! cWhole w.2.1 (nWo (w.2.1.2 j) p)) (p + 1) = cntF (fun p => ! cWhole w.2.1 (nWo (w.2.1.2 j) p)) p + 0 := congrArg (cntF (fun p => ! cWhole w.2.1 (nWo (w.2.1.2 j) p)) p + ·) (if_neg (show ¬ (! cWhole w.2.1 (nWo (w.2.1.2 j) p)) = true from by rw [hwh]; decide))
                refine gG_top (nI (cntF (fun p => ! cWhole w.2.1 (nWo (w.2.1.2 j) p)) (p + 1))) (by rw [hct]) ?_
                refine g_istore_n X rfl dX8_safe_80 [(2, .int (nI (cntF (fun p => ! cWhole w.2.1 (nWo (w.2.1.2 j) p)) (p + 1)))), (0, .ref (B.2.1 20 0 0)), (1, .int (nI j)), (3, .int (nI p))] rfl (gnl_lt hnL (by decide)) ?_
                refine g_iinc X 3 rfl (nI (p + 1)) (iinc_1 _) dX8_safe_81 [(3, .int (nI (p + 1))), (2, .int (nI (cntF (fun p => ! cWhole w.2.1 (nWo (w.2.1.2 j) p)) (p + 1)))), (0, .ref (B.2.1 20 0 0)), (1, .int (nI j))] rfl (gnl_lt hnL (by decide)) ?_
                refine g_goto X 23 (by decide) dX8_safe_84 ?_
                refine gG_L [2, 3, 1, 0] (L' := [(0, .ref (B.2.1 20 0 0)), (1, .int (nI j)), (2, .int (nI (cntF (fun p => ! cWhole w.2.1 (nWo (w.2.1.2 j) p)) (p + 1)))), (3, .int (nI (p + 1)))]) rfl ?_
                refine ih (p + 1) (by omega)
            · refine gG_top 0 (if_neg hwh) ?_
              refine g_if_eq X 78 (by decide) dX8_safe_71 (fun c27 => ?_) (fun c27 => ?_)
              · refine g_iconst X 1 (by decide) dX8_safe_78 ?_
                refine g_iadd X dX8_safe_79 ?_
                refine gG_top (nI ((cntF (fun p => ! cWhole w.2.1 (nWo (w.2.1.2 j) p)) p) + 1)) (nI_1 _) ?_
                have hct : cntF (fun p => ! cWhole w.2.1 (nWo (w.2.1.2 j) p)) (p + 1) = cntF (fun p => ! cWhole w.2.1 (nWo (w.2.1.2 j) p)) p + 1 := congrArg (cntF (fun p => ! cWhole w.2.1 (nWo (w.2.1.2 j) p)) p + ·) (if_pos (show (! cWhole w.2.1 (nWo (w.2.1.2 j) p)) = true from by simpa using hwh))
                refine gG_top (nI (cntF (fun p => ! cWhole w.2.1 (nWo (w.2.1.2 j) p)) (p + 1))) (by rw [hct]) ?_
                refine g_istore_n X rfl dX8_safe_80 [(2, .int (nI (cntF (fun p => ! cWhole w.2.1 (nWo (w.2.1.2 j) p)) (p + 1)))), (0, .ref (B.2.1 20 0 0)), (1, .int (nI j)), (3, .int (nI p))] rfl (gnl_lt hnL (by decide)) ?_
                refine g_iinc X 3 rfl (nI (p + 1)) (iinc_1 _) dX8_safe_81 [(3, .int (nI (p + 1))), (2, .int (nI (cntF (fun p => ! cWhole w.2.1 (nWo (w.2.1.2 j) p)) (p + 1)))), (0, .ref (B.2.1 20 0 0)), (1, .int (nI j))] rfl (gnl_lt hnL (by decide)) ?_
                refine g_goto X 23 (by decide) dX8_safe_84 ?_
                refine gG_L [2, 3, 1, 0] (L' := [(0, .ref (B.2.1 20 0 0)), (1, .int (nI j)), (2, .int (nI (cntF (fun p => ! cWhole w.2.1 (nWo (w.2.1.2 j) p)) (p + 1)))), (3, .int (nI (p + 1)))]) rfl ?_
                refine ih (p + 1) (by omega)
              ·  exact absurd c27 (by decide)
      exact loop (nLen (w.2.1.2 j)) 0 (by omega)
    ·  exact absurd c5 (by decide)
  · refine gG_top 0 (if_neg (hP)) ?_
    refine g_if_ne X 19 (by decide) dX8_safe_10 (fun c28 => ?_) (fun c28 => ?_)
    ·  exact absurd c28 (by decide)
    · refine g_aload_n X 0 rfl dX8_safe_13 ?_
      refine g_iconst X 1 (by decide) dX8_safe_14 ?_
      refine g_callV X hR (rest := []) mX8_no lX8_59 (k_no hI V1 1 ) rfl rfl (Nat.le_of_ble_eq_true rfl) ⟨by decide, by decide⟩ rfl rfl rfl ⟨Nat.le_of_ble_eq_true rfl, Nat.le_of_ble_eq_true rfl, Nat.le_of_ble_eq_true rfl, Nat.le_of_ble_eq_true rfl⟩ dX8_safe_15 (fun r29 V30 hz_31 => ?_)
      refine gG_rv hz_31.1 ?_
      have hV30 := hz_31.2
      refine gG_st [.int 0] rfl ?_
      refine g_iret X F ?_ rfl dX8_safe_18
      rw [show oSafe w x = (1, 0, w) from if_neg hP]
      exact ⟨rfl, by rw [hV30, gup_eq]; rfl, by rw [hV30]; exact hM1.thr _, by rw [hV30]; exact hm1.up (by decide) (by decide)⟩

theorem rowX_nI {n m : Nat} (hn : n < 2 ^ 31) : rowX (nI n) m = rowB n m := by
  unfold rowX
  rw [nI_clamp hn, decide_eq_true (nI_pos' hn)]
  rfl
theorem rowX_neg {x : Int32} {m : Nat} (hx : x < 0) : rowX x m = false := by
  unfold rowX
  rw [decide_eq_false (Int32.not_le.mpr hx)]
  rfl
theorem rowB_iff {n m : Nat} : rowB n m = true ↔ 0 < n ∧ nLen n ≤ m ∧ nOk n = true := by
  unfold rowB
  rw [Bool.and_eq_true, Bool.and_eq_true, decide_eq_true_eq, decide_eq_true_eq]
  exact and_assoc

abbrev rmX8_addSignal : Room := { frames := 2, cells := 0, slots := 0, locals := 45 }
set_option maxRecDepth 20000 in
theorem k_MaddSignal {l : Launch} {B : gB} (hI : gI B) (V : gMem) (w : gWd) (x : Int32) (hM : MOk V w) (hw : wOk w) : gM l B yX8_addSignal cX8_addSignal 3 (some .int) rmX8_addSignal [.ref (B.2.1 20 0 0), .int x] V (fun v V' => v = some (.int (oAdd w x).2.1) ∧ V' 20 0 0 0 = nI (oAdd w x).1 ∧ MOk V' (oAdd w x).2.2 ∧ mmod V V') := by
  refine gM_of (own := RX8) (L := [(0, .ref (B.2.1 20 0 0)), (1, .int x)]) (by decide +kernel) rfl hI (Nat.le_of_ble_eq_true rfl) rfl ?_
  intro Z hnL hR X F
  refine g_aload_n X 0 rfl dX8_addSignal_0 ?_
  refine g_iconst X 0 (by decide) dX8_addSignal_1 ?_
  refine gp_X8_thrown X ⟨by decide, by decide⟩ fX8_41 dX8_addSignal_2 ?_
  refine gG_nm (fun V1 hV1 => ?_)
  have hM1 : MOk V1 w := by rw [hV1]; exact hM.thr 0
  have hm1 : mmod V V1 := by rw [hV1]; exact mmod.rf.up (by decide) (by decide)
  rcases i32c x with hx | ⟨n, hn, hxn⟩
  · skip
    refine g_iload_n X 1 rfl dX8_addSignal_5 ?_
    refine g_bipush X 6 (by decide) dX8_addSignal_6 ?_
    refine g_callS X hR (As := [.int x, .int 6]) (rest := []) mX8_isRow lX8_55 (k_isRowNeg hI V1 x 6 hx) rfl rfl (Nat.le_of_ble_eq_true rfl) ⟨Nat.le_of_ble_eq_true rfl, Nat.le_of_ble_eq_true rfl, Nat.le_of_ble_eq_true rfl, Nat.le_of_ble_eq_true rfl⟩ dX8_addSignal_8 (fun r2 V3 hz_4 => ?_)
    refine gG_ret hz_4.1 hz_4.2 ?_
    refine gG_st [.int 0] rfl ?_
    refine g_if_ne X 20 (by decide) dX8_addSignal_11 (fun c5 => ?_) (fun c5 => ?_)
    ·  exact absurd c5 (by decide)
    · refine g_aload_n X 0 rfl dX8_addSignal_14 ?_
      refine g_iconst X 1 (by decide) dX8_addSignal_15 ?_
      refine g_callV X hR (rest := []) mX8_no lX8_59 (k_no hI V1 1 ) rfl rfl (Nat.le_of_ble_eq_true rfl) ⟨by decide, by decide⟩ rfl rfl rfl ⟨Nat.le_of_ble_eq_true rfl, Nat.le_of_ble_eq_true rfl, Nat.le_of_ble_eq_true rfl, Nat.le_of_ble_eq_true rfl⟩ dX8_addSignal_16 (fun r6 V7 hz_8 => ?_)
      refine gG_rv hz_8.1 ?_
      have hV7 := hz_8.2
      refine gG_st [.int 0] rfl ?_
      refine g_iret X F ?_ rfl dX8_addSignal_19
      rw [show oAdd w x = (1, 0, w) from if_neg (by rw [rowX_neg hx]; decide)]
      exact ⟨rfl, by rw [hV7, gup_eq]; rfl, by rw [hV7]; exact hM1.thr _, by rw [hV7]; exact hm1.up (by decide) (by decide)⟩
  · subst hxn
    refine g_iload_n X 1 rfl dX8_addSignal_5 ?_
    refine g_bipush X 6 (by decide) dX8_addSignal_6 ?_
    refine g_callS X hR (As := [.int (nI n), .int 6]) (rest := []) mX8_isRow lX8_55 (k_isRow hI V1 n 6 hn (by decide)) rfl rfl (Nat.le_of_ble_eq_true rfl) ⟨Nat.le_of_ble_eq_true rfl, Nat.le_of_ble_eq_true rfl, Nat.le_of_ble_eq_true rfl, Nat.le_of_ble_eq_true rfl⟩ dX8_addSignal_8 (fun r9 V10 hz_11 => ?_)
    refine gG_ret hz_11.1 hz_11.2 ?_
    refine gG_st [.int (if rowB n 6 = true then 1 else 0)] rfl ?_
    by_cases hP : rowB n 6 = true
    · refine gG_top 1 (if_pos (hP)) ?_
      refine g_if_ne X 20 (by decide) dX8_addSignal_11 (fun c12 => ?_) (fun c12 => ?_)
      · refine g_iconst X 0 (by decide) dX8_addSignal_20 ?_
        refine g_istore_n X rfl dX8_addSignal_21 [(2, .int 0), (0, .ref (B.2.1 20 0 0)), (1, .int (nI n))] rfl (gnl_lt hnL (by decide)) ?_
        obtain ⟨r1, r2, r3⟩ := rowB_iff.mp hP
        refine gG_L [1, 2, 0] (L' := [(0, .ref (B.2.1 20 0 0)), (1, .int (nI n)), (2, .int 0)]) rfl ?_
        have loop : ∀ (f : Nat) (k : Nat) , k + f = w.2.1.1 → (∀ j, j < k → nBeg (w.2.1.2 j) n = false ∧ nBeg n (w.2.1.2 j) = false) → gG Z B (0, 0) V1 22 [(0, .ref (B.2.1 20 0 0)), (1, .int (nI n)), (2, .int (nI k))] [] := by
          intro f
          induction f with
          | zero =>
            intro k  hf hnb
            have h8 := hw.2.1.1
            refine g_iload_n X 2 rfl dX8_addSignal_22 ?_
            refine g_aload_n X 0 rfl dX8_addSignal_23 ?_
            refine gg_X8_signals X ⟨by decide, by decide⟩ fX8_62 dX8_addSignal_24 ?_
            refine gG_top (nI w.2.1.1) (hM1.2.1.1) ?_
            refine g_icmp_ge X 68 (by decide) dX8_addSignal_27 (fun c13 => ?_) (fun c13 => ?_)
            · refine g_aload_n X 0 rfl dX8_addSignal_68 ?_
              refine gg_X8_signals X ⟨by decide, by decide⟩ fX8_62 dX8_addSignal_69 ?_
              refine gG_top (nI w.2.1.1) (hM1.2.1.1) ?_
              refine g_bipush X 8 (by decide) dX8_addSignal_72 ?_
              by_cases hf8 : w.2.1.1 = 8
              · skip
                refine g_icmp_ne X 83 (by decide) dX8_addSignal_74 (fun c14 => ?_) (fun c14 => ?_)
                · first | exact absurd (by rw [hf8]; rfl) c14 | exact absurd c14 (by rw [hf8]; rfl)
                · refine g_aload_n X 0 rfl dX8_addSignal_77 ?_
                  refine g_iconst X 2 (by decide) dX8_addSignal_78 ?_
                  refine g_callV X hR (rest := []) mX8_no lX8_59 (k_no hI V1 2 ) rfl rfl (Nat.le_of_ble_eq_true rfl) ⟨by decide, by decide⟩ rfl rfl rfl ⟨Nat.le_of_ble_eq_true rfl, Nat.le_of_ble_eq_true rfl, Nat.le_of_ble_eq_true rfl, Nat.le_of_ble_eq_true rfl⟩ dX8_addSignal_79 (fun r15 V16 hz_17 => ?_)
                  refine gG_rv hz_17.1 ?_
                  have hV16 := hz_17.2
                  refine gG_st [.int 0] rfl ?_
                  refine g_iret X F ?_ rfl dX8_addSignal_82
                  rw [show oAdd w (nI n) = (2, 0, w) from by unfold oAdd; rw [if_pos (by rw [rowX_nI hn]; exact hP), nI_clamp hn, if_pos (Or.inr hf8)]]
                  exact ⟨rfl, by rw [hV16, gup_eq]; rfl, by rw [hV16]; exact hM1.thr _, by rw [hV16]; exact hm1.up (by decide) (by decide)⟩
              · skip
                refine g_icmp_ne X 83 (by decide) dX8_addSignal_74 (fun c18 => ?_) (fun c18 => ?_)
                · refine g_aload_n X 0 rfl dX8_addSignal_83 ?_
                  refine gg_X8_signal X ⟨by decide, by decide⟩ fX8_9 dX8_addSignal_84 ?_
                  refine g_aload_n X 0 rfl dX8_addSignal_87 ?_
                  refine gg_X8_signals X ⟨by decide, by decide⟩ fX8_62 dX8_addSignal_88 ?_
                  refine gG_top (nI w.2.1.1) (hM1.2.1.1) ?_
                  refine g_iload_n X 1 rfl dX8_addSignal_91 ?_
                  refine g_iastN X (w.2.1.1) rfl (by omega) (by decide) ⟨by decide, by decide⟩ (fun _ => rfl) dX8_addSignal_92 ?_
                  refine gG_nm (fun V19 hV19 => ?_)
                  refine g_aload_n X 0 rfl dX8_addSignal_93 ?_
                  refine g_dup X rfl dX8_addSignal_94 ?_
                  refine gg_X8_signals X ⟨by decide, by decide⟩ fX8_62 dX8_addSignal_95 ?_
                  refine gG_top (nI w.2.1.1) (by rw [hV19, gup_ne (by simp)]; exact hM1.2.1.1) ?_
                  refine g_iconst X 1 (by decide) dX8_addSignal_98 ?_
                  refine g_iadd X dX8_addSignal_99 ?_
                  refine gG_top (nI (w.2.1.1 + 1)) (nI_1 _) ?_
                  refine gp_X8_signals X ⟨by decide, by decide⟩ fX8_62 dX8_addSignal_100 ?_
                  refine gG_nm (fun V20 hV20 => ?_)
                  refine g_aload_n X 0 rfl dX8_addSignal_103 ?_
                  refine gg_X8_signals X ⟨by decide, by decide⟩ fX8_62 dX8_addSignal_104 ?_
                  refine gG_top (nI (w.2.1.1 + 1)) (by rw [hV20, gup_eq]) ?_
                  refine g_iconst X 1 (by decide) dX8_addSignal_107 ?_
                  refine g_isub X dX8_addSignal_108 ?_
                  refine gG_top (nI w.2.1.1) (nI_pred _) ?_
                  refine g_iret X F ?_ rfl dX8_addSignal_109
                  rw [show oAdd w (nI n) = (0, nI w.2.1.1, (w.1, cAdd w.2.1 n, w.2.2)) from by
                    unfold oAdd
                    rw [if_pos (by rw [rowX_nI hn]; exact hP), nI_clamp hn, if_neg (fun q => q.elim (fun z => by rw [cAmb_no (fun j hj => hnb j (by omega))] at z; cases z) hf8)]]
                  refine ⟨rfl, by rw [hV20, gup_ne (by simp), hV19, gup_ne (by simp), hV1, gup_eq]; rfl, ⟨by rw [hV20, hV19]; exact (hM1.1.up2 (Or.inl rfl)).up20 (by decide), by rw [hV20, hV19]; exact hM1.2.1.add n, fun j hj => by rw [hV20, gup_ne (by simp), hV19, gup_ne (by simp)]; exact hM1.2.2 j hj⟩, by rw [hV20, hV19]; exact (hm1.up (by decide) (by decide)).up (by decide) (by decide)⟩
                · first | exact absurd (fun z => hf8 ((nI_eq (b := 8) (by omega) (by decide)).mp z)) c18 | exact absurd c18 (fun z => hf8 ((nI_eq (b := 8) (by omega) (by decide)).mp z))
            · first | exact absurd (nI_le (by omega) (by omega)) c13 | exact absurd c13 (nI_le (by omega) (by omega))
          | succ f ih =>
            intro k  hf hnb
            have h8 := hw.2.1.1
            refine g_iload_n X 2 rfl dX8_addSignal_22 ?_
            refine g_aload_n X 0 rfl dX8_addSignal_23 ?_
            refine gg_X8_signals X ⟨by decide, by decide⟩ fX8_62 dX8_addSignal_24 ?_
            refine gG_top (nI w.2.1.1) (hM1.2.1.1) ?_
            refine g_icmp_ge X 68 (by decide) dX8_addSignal_27 (fun c21 => ?_) (fun c21 => ?_)
            · first | exact absurd (nI_ge (by omega) (by omega)) c21 | exact absurd c21 (nI_ge (by omega) (by omega))
            · refine g_iload_n X 1 rfl dX8_addSignal_30 ?_
              refine g_aload_n X 0 rfl dX8_addSignal_31 ?_
              refine gg_X8_signal X ⟨by decide, by decide⟩ fX8_9 dX8_addSignal_32 ?_
              refine g_iload_n X 2 rfl dX8_addSignal_35 ?_
              refine g_ialdN X (k) rfl (by omega) (by decide) ⟨by decide, by decide⟩ rfl dX8_addSignal_36 ?_
              refine gG_top (nI (w.2.1.2 k)) (hM1.2.1.2 k (by omega)) ?_
              refine g_callS X hR (As := [.int (nI n), .int (nI (w.2.1.2 k))]) (rest := []) mX8_begins lX8_65 (k_begins hI V1 n (w.2.1.2 k) (hw.2.1.lt (by omega)) hn (by omega)) rfl rfl (Nat.le_of_ble_eq_true rfl) ⟨Nat.le_of_ble_eq_true rfl, Nat.le_of_ble_eq_true rfl, Nat.le_of_ble_eq_true rfl, Nat.le_of_ble_eq_true rfl⟩ dX8_addSignal_37 (fun r22 V23 hz_24 => ?_)
              refine gG_ret hz_24.1 hz_24.2 ?_
              refine gG_st [.int (if nBeg (w.2.1.2 k) n = true then 1 else 0)] rfl ?_
              by_cases hb1 : nBeg (w.2.1.2 k) n = true
              · refine gG_top 1 (if_pos hb1) ?_
                refine g_if_ne X 56 (by decide) dX8_addSignal_40 (fun c25 => ?_) (fun c25 => ?_)
                · refine g_aload_n X 0 rfl dX8_addSignal_56 ?_
                  refine g_iconst X 2 (by decide) dX8_addSignal_57 ?_
                  refine g_callV X hR (rest := []) mX8_no lX8_59 (k_no hI V1 2 ) rfl rfl (Nat.le_of_ble_eq_true rfl) ⟨by decide, by decide⟩ rfl rfl rfl ⟨Nat.le_of_ble_eq_true rfl, Nat.le_of_ble_eq_true rfl, Nat.le_of_ble_eq_true rfl, Nat.le_of_ble_eq_true rfl⟩ dX8_addSignal_58 (fun r26 V27 hz_28 => ?_)
                  refine gG_rv hz_28.1 ?_
                  have hV27 := hz_28.2
                  refine gG_st [.int 0] rfl ?_
                  refine g_iret X F ?_ rfl dX8_addSignal_61
                  rw [show oAdd w (nI n) = (2, 0, w) from by unfold oAdd; rw [if_pos (by rw [rowX_nI hn]; exact hP), nI_clamp hn, if_pos (Or.inl (cAmb_yes (k := k) (by omega) (Or.inl hb1)))]]
                  exact ⟨rfl, by rw [hV27, gup_eq]; rfl, by rw [hV27]; exact hM1.thr _, by rw [hV27]; exact hm1.up (by decide) (by decide)⟩
                ·  exact absurd c25 (by decide)
              · refine gG_top 0 (if_neg hb1) ?_
                refine g_if_ne X 56 (by decide) dX8_addSignal_40 (fun c29 => ?_) (fun c29 => ?_)
                ·  exact absurd c29 (by decide)
                · refine g_aload_n X 0 rfl dX8_addSignal_43 ?_
                  refine gg_X8_signal X ⟨by decide, by decide⟩ fX8_9 dX8_addSignal_44 ?_
                  refine g_iload_n X 2 rfl dX8_addSignal_47 ?_
                  refine g_ialdN X (k) rfl (by omega) (by decide) ⟨by decide, by decide⟩ rfl dX8_addSignal_48 ?_
                  refine gG_top (nI (w.2.1.2 k)) (hM1.2.1.2 k (by omega)) ?_
                  refine g_iload_n X 1 rfl dX8_addSignal_49 ?_
                  refine g_callS X hR (As := [.int (nI (w.2.1.2 k)), .int (nI n)]) (rest := []) mX8_begins lX8_65 (k_begins hI V1 (w.2.1.2 k) n hn (hw.2.1.lt (by omega)) (by have := (hw.2.1.len (k := k) (by omega)).2; omega)) rfl rfl (Nat.le_of_ble_eq_true rfl) ⟨Nat.le_of_ble_eq_true rfl, Nat.le_of_ble_eq_true rfl, Nat.le_of_ble_eq_true rfl, Nat.le_of_ble_eq_true rfl⟩ dX8_addSignal_50 (fun r30 V31 hz_32 => ?_)
                  refine gG_ret hz_32.1 hz_32.2 ?_
                  refine gG_st [.int (if nBeg n (w.2.1.2 k) = true then 1 else 0)] rfl ?_
                  by_cases hb2 : nBeg n (w.2.1.2 k) = true
                  · refine gG_top 1 (if_pos hb2) ?_
                    refine g_if_eq X 62 (by decide) dX8_addSignal_53 (fun c33 => ?_) (fun c33 => ?_)
                    ·  exact absurd c33 (by decide)
                    · refine g_aload_n X 0 rfl dX8_addSignal_56 ?_
                      refine g_iconst X 2 (by decide) dX8_addSignal_57 ?_
                      refine g_callV X hR (rest := []) mX8_no lX8_59 (k_no hI V1 2 ) rfl rfl (Nat.le_of_ble_eq_true rfl) ⟨by decide, by decide⟩ rfl rfl rfl ⟨Nat.le_of_ble_eq_true rfl, Nat.le_of_ble_eq_true rfl, Nat.le_of_ble_eq_true rfl, Nat.le_of_ble_eq_true rfl⟩ dX8_addSignal_58 (fun r34 V35 hz_36 => ?_)
                      refine gG_rv hz_36.1 ?_
                      have hV35 := hz_36.2
                      refine gG_st [.int 0] rfl ?_
                      refine g_iret X F ?_ rfl dX8_addSignal_61
                      rw [show oAdd w (nI n) = (2, 0, w) from by unfold oAdd; rw [if_pos (by rw [rowX_nI hn]; exact hP), nI_clamp hn, if_pos (Or.inl (cAmb_yes (k := k) (by omega) (Or.inr hb2)))]]
                      exact ⟨rfl, by rw [hV35, gup_eq]; rfl, by rw [hV35]; exact hM1.thr _, by rw [hV35]; exact hm1.up (by decide) (by decide)⟩
                  · refine gG_top 0 (if_neg hb2) ?_
                    refine g_if_eq X 62 (by decide) dX8_addSignal_53 (fun c37 => ?_) (fun c37 => ?_)
                    · refine g_iinc X 2 rfl (nI (k + 1)) (iinc_1 _) dX8_addSignal_62 [(2, .int (nI (k + 1))), (0, .ref (B.2.1 20 0 0)), (1, .int (nI n))] rfl (gnl_lt hnL (by decide)) ?_
                      refine g_goto X 22 (by decide) dX8_addSignal_65 ?_
                      refine gG_L [1, 2, 0] (L' := [(0, .ref (B.2.1 20 0 0)), (1, .int (nI n)), (2, .int (nI (k + 1)))]) rfl ?_
                      refine ih (k + 1) (by omega) (fun j hj => by
                        by_cases hjk : j = k
                        · rw [hjk]; exact ⟨by simpa using hb1, by simpa using hb2⟩
                        · exact hnb j (by omega))
                    ·  exact absurd c37 (by decide)
        exact loop w.2.1.1 0 (by omega) (fun j hj => absurd hj (Nat.not_lt_zero _))
      ·  exact absurd c12 (by decide)
    · refine gG_top 0 (if_neg (hP)) ?_
      refine g_if_ne X 20 (by decide) dX8_addSignal_11 (fun c38 => ?_) (fun c38 => ?_)
      ·  exact absurd c38 (by decide)
      · refine g_aload_n X 0 rfl dX8_addSignal_14 ?_
        refine g_iconst X 1 (by decide) dX8_addSignal_15 ?_
        refine g_callV X hR (rest := []) mX8_no lX8_59 (k_no hI V1 1 ) rfl rfl (Nat.le_of_ble_eq_true rfl) ⟨by decide, by decide⟩ rfl rfl rfl ⟨Nat.le_of_ble_eq_true rfl, Nat.le_of_ble_eq_true rfl, Nat.le_of_ble_eq_true rfl, Nat.le_of_ble_eq_true rfl⟩ dX8_addSignal_16 (fun r39 V40 hz_41 => ?_)
        refine gG_rv hz_41.1 ?_
        have hV40 := hz_41.2
        refine gG_st [.int 0] rfl ?_
        refine g_iret X F ?_ rfl dX8_addSignal_19
        rw [show oAdd w (nI n) = (1, 0, w) from if_neg (by rw [rowX_nI hn]; exact hP)]
        exact ⟨rfl, by rw [hV40, gup_eq]; rfl, by rw [hV40]; exact hM1.thr _, by rw [hV40]; exact hm1.up (by decide) (by decide)⟩

