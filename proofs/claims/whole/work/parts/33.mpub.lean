/-! THE WORLD AS A VALUE: the bridge, the code, the fog; what each call answers -/
abbrev gWd : Type := gSt × gCd × (Nat → Nat)
def wOk (w : gWd) : Prop := WF w.1 ∧ CodeOk w.2.1 ∧ ∀ j, j < 20 → w.2.2 j ≤ 9
def MOk (V : gMem) (w : gWd) : Prop := AbsM V 0 w.1 ∧ CodeM V w.2.1 ∧ ∀ j, j < 20 → V 22 0 0 j = nI (w.2.2 j)
def COk (V : gMem) (w : gWd) : Prop := AbsC V 0 w.1 ∧ CodeC V w.2.1 ∧ ∀ j, j < 20 → V 4 0 0 j = nI (w.2.2 j)
/-- nothing but the reference is another one -/
def mmod (V V' : gMem) : Prop := ∀ K b i, ¬ (20 ≤ K ∧ K ≤ 27) → V' K b i = V K b i
theorem mmod.rf {V : gMem} : mmod V V := fun _ _ _ _ => rfl
theorem mmod.trans {V V1 V2 : gMem} (h : mmod V V1) (h2 : mmod V1 V2) : mmod V V2 := fun K b i hn => (h2 K b i hn).trans (h K b i hn)
theorem mmod.up {V V1 : gMem} {K k i j : Nat} {x : Int32} (h : mmod V V1) (hK : 20 ≤ K) (hK2 : K ≤ 27) : mmod V (gup V1 K k i j x) := fun K' b' i' hn => (gup_off V1 x (fun q => hn ⟨by omega, by omega⟩)).trans (h K' b' i' hn)
theorem stmod.mm {V V' : gMem} {k : Nat} (h : stmod V V' k) : mmod V V' := fun K b i hn => h K b i (fun q => hn ⟨by omega, by omega⟩)
theorem AbsM.up20 {V : gMem} {k : Nat} {S : gSt} {j : Nat} {x : Int32} (h : AbsM V k S) (hj : j < 4) : AbsM (gup V 20 0 0 j x) k S := by
  obtain ⟨a, b, c, d, y, z⟩ := h
  refine ⟨by rw [gup_off _ _ (by simp)]; exact a, fun i hi f hf => by rw [gup_ne (by simp)]; exact b i hi f hf, ⟨fun i hi h8 => by rw [gup_ne (by simp)]; exact c.1 i hi h8, fun p hp hn => by rw [gup_ne (by simp)]; exact c.2 p hp hn⟩, fun e he => ?_, fun e he => by rw [gup_off _ _ (by simp)]; exact y e he, ?_⟩
  · have q := d e he
    exact ⟨by rw [gup_ne (by simp)]; exact q.1, q.2.1, fun j hj => by rw [gup_ne (by simp)]; exact q.2.2 j hj⟩
  · unfold NumM
    rw [gup_ne (by omega), gup_ne (by omega), gup_ne (by omega), gup_ne (by omega)]; exact z
theorem AbsM.up2 {V : gMem} {k K i j : Nat} {S : gSt} {x : Int32} (h : AbsM V k S) (hK : K = 21 ∨ K = 22) : AbsM (gup V K 0 i j x) k S := by
  obtain ⟨a, b, c, d, y, z⟩ := h
  refine ⟨by rw [gup_off _ _ (by omega)]; exact a, fun i hi f hf => by rw [gup_ne (by omega)]; exact b i hi f hf, ⟨fun i hi h8 => by rw [gup_ne (by omega)]; exact c.1 i hi h8, fun p hp hn => by rw [gup_ne (by omega)]; exact c.2 p hp hn⟩, fun e he => ?_, fun e he => by rw [gup_off _ _ (by omega)]; exact y e he, ?_⟩
  · have q := d e he
    exact ⟨by rw [gup_ne (by omega)]; exact q.1, q.2.1, fun j hj => by rw [gup_ne (by omega)]; exact q.2.2 j hj⟩
  · unfold NumM
    rw [gup_off _ _ (by omega)]; exact z
theorem MOk.thr {V : gMem} {w : gWd} (h : MOk V w) (x : Int32) : MOk (gup V 20 0 0 0 x) w := by
  refine ⟨h.1.up20 (by decide), ⟨by rw [gup_ne (by simp)]; exact h.2.1.1, fun k hk => by rw [gup_ne (by simp)]; exact h.2.1.2 k hk⟩, fun j hj => by rw [gup_ne (by simp)]; exact h.2.2 j hj⟩
/-- only the bridge's state of the reference is another one -/
theorem MOk.st {V V' : gMem} {w : gWd} {S : gSt} (h : MOk V w) (hm : stmod V V' 0) (hA : AbsM V' 0 S) : MOk V' (S, w.2) := by
  refine ⟨hA, ⟨by rw [hm 20 0 0 (by simp)]; exact h.2.1.1, fun k hk => by rw [hm 21 0 0 (by simp)]; exact h.2.1.2 k hk⟩, fun j hj => by rw [hm 22 0 0 (by simp)]; exact h.2.2 j hj⟩
theorem MOk.st1 {V V' : gMem} {w : gWd} (h : MOk V w) (hm : stmod V V' 1) : MOk V' w := by
  refine ⟨h.1.other hm (by decide), ⟨by rw [hm 20 0 0 (by simp)]; exact h.2.1.1, fun k hk => by rw [hm 21 0 0 (by simp)]; exact h.2.1.2 k hk⟩, fun j hj => by rw [hm 22 0 0 (by simp)]; exact h.2.2 j hj⟩
theorem i32c (x : Int32) : x < 0 ∨ ∃ n : Nat, n < 2 ^ 31 ∧ x = nI n := by
  rcases pk_ix x (n := 2 ^ 31 - 1) (by decide) with h | h | ⟨j, h1, h2⟩
  · exact Or.inl h
  · refine Or.inr ⟨2 ^ 31 - 1, by decide, ?_⟩
    have h1 : x ≤ nI (2 ^ 31 - 1) := by
      have := Int32.le_maxValue x
      exact this
    exact Int32.le_antisymm h1 h
  · exact Or.inr ⟨j, by omega, h2⟩
/-- an answer: 0 or which exception; the value; the world behind -/
abbrev gOu : Type := Nat × Int32 × gWd
def fgU (fg : Nat → Nat) (j y : Nat) : Nat → Nat := fun k => if k = j then y else fg k
def oFog (w : gWd) (x y : Int32) : gOu := if ixB x 20 then (if inB y 0 9 then (0, nI (w.2.2 x.toNatClampNeg), (w.1, w.2.1, fgU w.2.2 x.toNatClampNeg y.toNatClampNeg)) else (2, 0, w)) else (1, 0, w)
def rowX (x : Int32) (m : Nat) : Bool := decide (0 ≤ x) && rowB x.toNatClampNeg m
def oAdd (w : gWd) (x : Int32) : gOu := if rowX x 6 = true then (if cAmb w.2.1 x.toNatClampNeg = true ∨ w.2.1.1 = 8 then (2, 0, w) else (0, nI w.2.1.1, (w.1, cAdd w.2.1 x.toNatClampNeg, w.2.2))) else (1, 0, w)
def oRead (w : gWd) (x what : Int32) : gOu := if x = 0 ∨ rowX x 9 = true then (if inB what 0 2 then (0, cRead w.2.1 x.toNatClampNeg what.toNatClampNeg, w) else (2, 0, w)) else (1, 0, w)
def hTold (r L : Nat) (fg : Nat → Nat) (t : Nat) : Nat → Nat
  | 0 => 0
  | k + 1 => if fg ((t + k) % 20) < (if r / 10 ^ (L - 1 - k) % 10 = 1 then 4 else 7) then 10 * hTold r L fg t k + r / 10 ^ (L - 1 - k) % 10 else hTold r L fg t k
def oHeard (w : gWd) (x : Int32) : gOu := if ixB x (nI w.2.1.1) then (0, nI (hTold (w.2.1.2 x.toNatClampNeg) (nLen (w.2.1.2 x.toNatClampNeg)) w.2.2 (w.1.1 0) (nLen (w.2.1.2 x.toNatClampNeg))), w) else (1, 0, w)
def oSafe (w : gWd) (x : Int32) : gOu := if ixB x (nI w.2.1.1) then (0, nI (cSafe w.2.1 (w.2.1.2 x.toNatClampNeg)), w) else (1, 0, w)
def sPB (S : gSt) (p q : Nat) : gSt := sN (sN S 2 p) 3 q
def oBuild (w : gWd) (p q : Int32) : gOu := if inB p 4 30 ∧ inB q 10 500 then (if w.1.2.1 2 = [] then (0, nI (w.1.1 3), (sPB w.1 p.toNatClampNeg q.toNatClampNeg, w.2)) else (2, 0, w)) else (1, 0, w)
def oToll (w : gWd) (p q : Int32) : gOu := if inB p 0 9 ∧ inB q 0 9 then (0, nI (10 * w.1.1 4 + w.1.1 5), (sN (sN w.1 4 p.toNatClampNeg) 5 q.toNatClampNeg, w.2)) else (1, 0, w)
def sTurn (S : gSt) : gSt := sN S 1 (1 - S.1 1)
def oCart (w : gWd) (x what : Int32) : gOu := if ixB x (nI (w.1.1 6)) ∧ ixB what 9 then (0, sTell w.1 x.toNatClampNeg what.toNatClampNeg, w) else (1, 0, w)
def oQueue (w : gWd) (e x : Int32) : gOu := if ixB e 2 ∧ ixB x (nI (w.1.2.1 e.toNatClampNeg).length) then (0, nI ((w.1.2.1 e.toNatClampNeg)[x.toNatClampNeg]?.getD 0), w) else (1, 0, w)
def oBox (w : gWd) (e what : Int32) : gOu := if ixB e 2 ∧ ixB what 4 then (0, gTell w.1 e.toNatClampNeg what.toNatClampNeg, w) else (1, 0, w)
def oEmpty (w : gWd) (e : Int32) : gOu := if ixB e 2 then (0, nI (w.1.2.2.1 e.toNatClampNeg 4), (sG (sG w.1 e.toNatClampNeg 1 0) e.toNatClampNeg 4 0, w.2)) else (1, 0, w)
def oPass (w : gWd) (x : Int32) : gOu := if inB x 1 200 then (0, nI (sRun x.toNatClampNeg w.1).2, ((sRun x.toNatClampNeg w.1).1, w.2)) else (1, 0, w)

abbrev rmX8_setFog : Room := { frames := 1, cells := 0, slots := 0, locals := 22 }
set_option maxRecDepth 20000 in
theorem k_MsetFog {l : Launch} {B : gB} (hI : gI B) (V : gMem) (w : gWd) (x : Int32) (y : Int32) (hM : MOk V w) (hw : wOk w) : gM l B yX8_setFog cX8_setFog 4 (some .int) rmX8_setFog [.ref (B.2.1 20 0 0), .int x, .int y] V (fun v V' => v = some (.int (oFog w x y).2.1) ∧ V' 20 0 0 0 = nI (oFog w x y).1 ∧ MOk V' (oFog w x y).2.2 ∧ mmod V V') := by
  refine gM_of (own := RX8) (L := [(0, .ref (B.2.1 20 0 0)), (1, .int x), (2, .int y)]) (by decide +kernel) rfl hI (Nat.le_of_ble_eq_true rfl) rfl ?_
  intro Z hnL hR X F
  refine g_aload_n X 0 rfl dX8_setFog_0 ?_
  refine g_iconst X 0 (by decide) dX8_setFog_1 ?_
  refine gp_X8_thrown X ⟨by decide, by decide⟩ fX8_41 dX8_setFog_2 ?_
  refine gG_nm (fun V1 hV1 => ?_)
  have hM1 : MOk V1 w := by rw [hV1]; exact hM.thr 0
  have hm1 : mmod V V1 := by rw [hV1]; exact mmod.rf.up (by decide) (by decide)
  refine g_iload_n X 1 rfl dX8_setFog_5 ?_
  refine g_iconst X 0 (by decide) dX8_setFog_6 ?_
  refine g_bipush X 19 (by decide) dX8_setFog_7 ?_
  refine g_callS X hR (As := [.int x, .int 0, .int 19]) (rest := []) mX8_isIn lX8_48 (k_isIn hI V1 x 0 19 ) rfl rfl (Nat.le_of_ble_eq_true rfl) ⟨Nat.le_of_ble_eq_true rfl, Nat.le_of_ble_eq_true rfl, Nat.le_of_ble_eq_true rfl, Nat.le_of_ble_eq_true rfl⟩ dX8_setFog_9 (fun r2 V3 hz_4 => ?_)
  refine gG_ret hz_4.1 hz_4.2 ?_
  refine gG_st [.int (if inB x 0 19 then 1 else 0)] rfl ?_
  by_cases hP : ixB x 20
  · refine gG_top 1 (if_pos ((inB_ix (n := 19) (by decide)).mpr hP)) ?_
    refine g_if_ne X 21 (by decide) dX8_setFog_12 (fun c5 => ?_) (fun c5 => ?_)
    · refine g_iload_n X 2 rfl dX8_setFog_21 ?_
      refine g_iconst X 0 (by decide) dX8_setFog_22 ?_
      refine g_bipush X 9 (by decide) dX8_setFog_23 ?_
      refine g_callS X hR (As := [.int y, .int 0, .int 9]) (rest := []) mX8_isIn lX8_48 (k_isIn hI V1 y 0 9 ) rfl rfl (Nat.le_of_ble_eq_true rfl) ⟨Nat.le_of_ble_eq_true rfl, Nat.le_of_ble_eq_true rfl, Nat.le_of_ble_eq_true rfl, Nat.le_of_ble_eq_true rfl⟩ dX8_setFog_25 (fun r6 V7 hz_8 => ?_)
      refine gG_ret hz_8.1 hz_8.2 ?_
      refine gG_st [.int (if inB y 0 9 then 1 else 0)] rfl ?_
      by_cases hQ : inB y 0 9
      · refine gG_top 1 (if_pos (hQ)) ?_
        refine g_if_ne X 37 (by decide) dX8_setFog_28 (fun c9 => ?_) (fun c9 => ?_)
        · obtain ⟨j, hj, hxj⟩ := (ixB_iff (n := 20) (by decide)).mp hP
          obtain ⟨z, -, hz, hyz⟩ := (inB_iff (a := 0) (n := 9) (by decide) (by decide)).mp hQ
          refine g_aload_n X 0 rfl dX8_setFog_37 ?_
          refine gg_X8_fog X ⟨by decide, by decide⟩ fX8_13 dX8_setFog_38 ?_
          refine g_iload_n X 1 rfl dX8_setFog_41 ?_
          refine g_ialdN X (j) hxj hj (by decide) ⟨by decide, by decide⟩ rfl dX8_setFog_42 ?_
          refine gG_top (nI (w.2.2 j)) (hM1.2.2 j hj) ?_
          refine g_istore_n X rfl dX8_setFog_43 [(3, .int (nI (w.2.2 j))), (0, .ref (B.2.1 20 0 0)), (1, .int x), (2, .int y)] rfl (gnl_lt hnL (by decide)) ?_
          refine g_aload_n X 1 rfl dX8_setFog_44 ?_
          refine gg_X8_fog X ⟨by decide, by decide⟩ fX8_13 dX8_setFog_45 ?_
          refine g_iload_n X 2 rfl dX8_setFog_48 ?_
          refine g_iload_n X 3 rfl dX8_setFog_49 ?_
          refine g_iastN X (j) hxj hj (by decide) ⟨by decide, by decide⟩ (fun _ => rfl) dX8_setFog_50 ?_
          refine gG_nm (fun V10 hV10 => ?_)
          refine g_iload_n X 0 rfl dX8_setFog_51 ?_
          refine g_iret X F ?_ rfl dX8_setFog_52
          have hop : oFog w x y = (0, nI (w.2.2 j), (w.1, w.2.1, fgU w.2.2 j z)) := by
            unfold oFog
            rw [if_pos hP, if_pos hQ, hxj, hyz, nI_clamp (by omega), nI_clamp (by omega)]
          rw [hop]
          refine ⟨rfl, by rw [hV10, gup_ne (by simp), hV1, gup_eq]; rfl, ⟨by rw [hV10]; exact hM1.1.up2 (Or.inr rfl), ⟨by rw [hV10, gup_ne (by simp)]; exact hM1.2.1.1, fun k hk => by rw [hV10, gup_ne (by simp)]; exact hM1.2.1.2 k hk⟩, fun k hk => ?_⟩, by rw [hV10]; exact hm1.up (by decide) (by decide)⟩
          rw [hV10]
          show _ = nI (if k = j then z else w.2.2 k)
          by_cases hkj : k = j
          · rw [hkj, gup_eq, if_pos rfl, hyz]
          · rw [gup_ne (by omega), if_neg hkj]; exact hM1.2.2 k hk
        ·  exact absurd c9 (by decide)
      · refine gG_top 0 (if_neg (hQ)) ?_
        refine g_if_ne X 37 (by decide) dX8_setFog_28 (fun c11 => ?_) (fun c11 => ?_)
        ·  exact absurd c11 (by decide)
        · refine g_aload_n X 0 rfl dX8_setFog_31 ?_
          refine g_iconst X 2 (by decide) dX8_setFog_32 ?_
          refine g_callV X hR (rest := []) mX8_no lX8_59 (k_no hI V1 2 ) rfl rfl (Nat.le_of_ble_eq_true rfl) ⟨by decide, by decide⟩ rfl rfl rfl ⟨Nat.le_of_ble_eq_true rfl, Nat.le_of_ble_eq_true rfl, Nat.le_of_ble_eq_true rfl, Nat.le_of_ble_eq_true rfl⟩ dX8_setFog_33 (fun r12 V13 hz_14 => ?_)
          refine gG_rv hz_14.1 ?_
          have hV13 := hz_14.2
          refine gG_st [.int 0] rfl ?_
          refine g_iret X F ?_ rfl dX8_setFog_36
          rw [show oFog w x y = (2, 0, w) from (if_pos hP).trans (if_neg hQ)]
          exact ⟨rfl, by rw [hV13, gup_eq]; rfl, by rw [hV13]; exact hM1.thr _, by rw [hV13]; exact hm1.up (by decide) (by decide)⟩
    ·  exact absurd c5 (by decide)
  · refine gG_top 0 (if_neg (fun z => hP ((inB_ix (n := 19) (by decide)).mp z))) ?_
    refine g_if_ne X 21 (by decide) dX8_setFog_12 (fun c15 => ?_) (fun c15 => ?_)
    ·  exact absurd c15 (by decide)
    · refine g_aload_n X 0 rfl dX8_setFog_15 ?_
      refine g_iconst X 1 (by decide) dX8_setFog_16 ?_
      refine g_callV X hR (rest := []) mX8_no lX8_59 (k_no hI V1 1 ) rfl rfl (Nat.le_of_ble_eq_true rfl) ⟨by decide, by decide⟩ rfl rfl rfl ⟨Nat.le_of_ble_eq_true rfl, Nat.le_of_ble_eq_true rfl, Nat.le_of_ble_eq_true rfl, Nat.le_of_ble_eq_true rfl⟩ dX8_setFog_17 (fun r16 V17 hz_18 => ?_)
      refine gG_rv hz_18.1 ?_
      have hV17 := hz_18.2
      refine gG_st [.int 0] rfl ?_
      refine g_iret X F ?_ rfl dX8_setFog_20
      rw [show oFog w x y = (1, 0, w) from if_neg hP]
      exact ⟨rfl, by rw [hV17, gup_eq]; rfl, by rw [hV17]; exact hM1.thr _, by rw [hV17]; exact hm1.up (by decide) (by decide)⟩

