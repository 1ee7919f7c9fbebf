/-! THE REFERENCE: copies of rows -/
def gset (V : gMem) (K b i : Nat) (f : Nat → Int32) : gMem := fun K' b' i' => if K' = K ∧ b' = b ∧ i' = i then f else V K' b' i'
theorem gset_eq {V : gMem} {K b i : Nat} {f : Nat → Int32} : gset V K b i f K b i = f := by simp [gset]
theorem gset_ne {V : gMem} {K b i K' b' i' : Nat} {f : Nat → Int32} (h : ¬ (K' = K ∧ b' = b ∧ i' = i)) : gset V K b i f K' b' i' = V K' b' i' := by
  simp only [gset]
  rw [if_neg h]
theorem gws_setf {B : gB} {V : gMem} {K b i k : Nat} (f : Nat → Int32) (hk : (gPX B)[k]? = some (K, b, i)) {e : va_E} (he : e = gE B K b i f) : (gws B V).set k (B.2.1 K b i, e) = gws B (gset V K b i f) := by
  subst he
  have hl := (List.getElem?_eq_some_iff.mp hk).1
  apply List.ext_getElem?
  intro n
  by_cases hn : n = k
  · subst hn
    rw [List.getElem?_set_self (by simp [gws]; exact hl)]
    simp only [gws, List.getElem?_map, hk, Option.map_some, gAt, gset_eq]
  · rw [List.getElem?_set_ne (Ne.symm hn)]
    simp only [gws, List.getElem?_map]
    cases hq : (gPX B)[n]? with
    | none => rfl
    | some q =>
      have hne : ¬ (q.1 = K ∧ q.2.1 = b ∧ q.2.2 = i) := by
        rintro ⟨rfl, rfl, rfl⟩
        exact hn (gPX_one hq hk)
      simp only [Option.map_some, gAt, gset_ne hne]
theorem g_copyX {Z : gZ} {B : gB} {n : Nat × Nat} {V : gMem} {pc : Nat} {L : List (Nat × Value)} {st : List Value} {cc : ByteArray} {own : String} (X : gX Z B cc own) {rmZ : Room} (hR : gRm Z = rmZ) {idx K b i K2 b2 i2 N N2 sp dp len : Nat} {xs xd xl : Int32} (hl : gW (.methodLink own idx arraycopyName)) (hs : xs = nI sp) (hd : xd = nI dp) (hn : xl = nI len) (hp : (K, b, i) ∈ gPX B) (hp2 : (K2, b2, i2) ∈ gPX B) (he : ∀ f, gE B K b i f = .inl (B.2.2.1.1, N, .inl f)) (he2 : ∀ f, gE B K2 b2 i2 f = .inl (B.2.2.1.1, N2, .inl f)) (hN : N < 2 ^ 31) (hN2 : N2 < 2 ^ 31) (h4 : sp + len ≤ N) (h5 : dp + len ≤ N2)
    (hroom : 1 ≤ rmZ.frames ∧ 8 + (nativeFrameWords "java/lang/System" "arraycopy" 5 + 11) ≤ rmZ.locals) (hcat : (st.map fun v => v.category).sum ≤ 8) (d : decode cc pc = .ok (.invokestatic idx, 3))
    (kk : gG Z B n (gset V K2 b2 i2 (va_cpy (V K b i) (V K2 b2 i2) sp dp len)) (pc + 3) L st) : gG Z B n V pc L (.int xl :: .int xd :: .ref (B.2.1 K2 b2 i2) :: .int xs :: .ref (B.2.1 K b i) :: st) := by
  obtain ⟨p, l, e, R, s, m, args, below, meth, c, nL, Q⟩ := Z
  subst hR; subst hs; subst hd; subst hn
  intro H locs ls hP hS hl9
  obtain ⟨q0, -, hq0⟩ := gws_atX B V hp
  obtain ⟨q1, hk1, hq1⟩ := gws_atX B V hp2
  rw [he] at hq0
  rw [he2] at hq1
  have hml : c.maxLocals = ls.size := X.2.2.1.trans hl9.1.symm
  have w := X.2.2.2.2.1.1
  have c1 : (nI sp).toNatClampNeg = sp := nI_clamp (by omega)
  have c2 : (nI dp).toNatClampNeg = dp := nI_clamp (by omega)
  have c3 : (nI len).toNatClampNeg = len := nI_clamp (by omega)
  refine va_copyi X.1 X.2.1 hml X.2.2.2.1 (w _ hl _) (w _ qNa_arraycopyName _) (w _ qT_arraycopyName _) (w _ qN_J10 _) X.2.2.2.2.1.2 hP (gws_D V _ X.2.2.2.2.2.1) hS q0 q1 0 0 hq0 hq1 rfl rfl rfl (nI_pos (by omega)) (nI_pos (by omega)) (nI_pos (by omega)) (by rw [c1, c3]; exact h4) (by rw [c2, c3]; exact h5) (fun _ _ => rfl) hroom.1 (by have := hroom.2; show _ + _ ≤ R.locals; have h9 : 8 + (nativeFrameWords "java/lang/System" "arraycopy" 5 + 11) ≤ R.locals := this; omega) d (fun H1 locs1 hP1 _ hS1 => ?_)
  rw [c1, c2, c3, gws_setf _ hk1 (he2 _).symm] at hP1
  exact kk H1 locs1 ls hP1 hS1 hl9
theorem g_copy {Z : gZ} {B : gB} {n : Nat × Nat} {V : gMem} {pc : Nat} {L : List (Nat × Value)} {st : List Value} {cc : ByteArray} {own : String} (X : gX Z B cc own) {rmZ : Room} (hR : gRm Z = rmZ) {idx K b i K2 b2 i2 N N2 sp dp len : Nat} {xs xd xl : Int32} (hl : gW (.methodLink own idx arraycopyName)) (hs : xs = nI sp) (hd : xd = nI dp) (hn : xl = nI len) (hp : gP K b i) (hp2 : gP K2 b2 i2) (he : ∀ f, gE B K b i f = .inl (B.2.2.1.1, N, .inl f)) (he2 : ∀ f, gE B K2 b2 i2 f = .inl (B.2.2.1.1, N2, .inl f)) (hN : N < 2 ^ 31) (hN2 : N2 < 2 ^ 31) (h4 : sp + len ≤ N) (h5 : dp + len ≤ N2)
    (hroom : 1 ≤ rmZ.frames ∧ 8 + (nativeFrameWords "java/lang/System" "arraycopy" 5 + 11) ≤ rmZ.locals) (hcat : (st.map fun v => v.category).sum ≤ 8) (d : decode cc pc = .ok (.invokestatic idx, 3))
    (kk : gG Z B n (gset V K2 b2 i2 (va_cpy (V K b i) (V K2 b2 i2) sp dp len)) (pc + 3) L st) : gG Z B n V pc L (.int xl :: .int xd :: .ref (B.2.1 K2 b2 i2) :: .int xs :: .ref (B.2.1 K b i) :: st) := g_copyX X hR hl hs hd hn (gPX_in hp) (gPX_in hp2) he he2 hN hN2 h4 h5 hroom hcat d kk

abbrev rmX7_own : Room := { frames := 0, cells := 0, slots := 0, locals := 0 }
set_option maxRecDepth 20000 in
theorem k_own {l : Launch} {B : gB} (hI : gI B) (V : gMem) (k : Nat) (i : Nat) (f : Nat) (hk : k < 2) (hi : i < 16) (hf : f < 10) : gM l B yX7_own cX7_own 3 (some .int) rmX7_own [.ref (B.2.1 23 k 0), .int (nI i), .int (nI f)] V (fun v V' => v = some (.int (V 24 k 0 (10 * i + f))) ∧ V' = V) := by
  refine gM_of (own := RX7) (L := [(0, .ref (B.2.1 23 k 0)), (1, .int (nI i)), (2, .int (nI f))]) (by decide +kernel) rfl hI (Nat.le_of_ble_eq_true rfl) rfl ?_
  intro Z hnL hR X F
  refine g_aload_n X 0 rfl dX7_own_0 ?_
  refine gg_X7_of X (gP_23 (by first | assumption | decide | omega)) fX7_15 dX7_own_1 ?_
  refine g_bipush X 10 (by decide) dX7_own_4 ?_
  refine g_iload_n X 1 rfl dX7_own_6 ?_
  refine g_imul X dX7_own_7 ?_
  refine gG_top (nI (10 * i)) (pk_mul 10 i) ?_
  refine g_iload_n X 2 rfl dX7_own_8 ?_
  refine g_iadd X dX7_own_9 ?_
  refine gG_top (nI ((10 * i) + f)) (nI_add (10 * i) f) ?_
  refine g_ialdN X (10 * i + f) rfl (by omega) (by decide) (gP_24 (by first | assumption | decide | omega)) rfl dX7_own_10 ?_
  refine g_iret X F ?_ rfl dX7_own_11
  exact ⟨rfl, rfl⟩

abbrev rmX7_set : Room := { frames := 0, cells := 0, slots := 0, locals := 0 }
set_option maxRecDepth 20000 in
theorem k_set {l : Launch} {B : gB} (hI : gI B) (V : gMem) (k : Nat) (i : Nat) (f : Nat) (x : Int32) (hk : k < 2) (hi : i < 16) (hf : f < 10) : gM l B yX7_set cX7_set 4 none rmX7_set [.ref (B.2.1 23 k 0), .int (nI i), .int (nI f), .int x] V (fun v V' => v = none ∧ V' = gup V 24 k 0 (10 * i + f) x) := by
  refine gM_of (own := RX7) (L := [(0, .ref (B.2.1 23 k 0)), (1, .int (nI i)), (2, .int (nI f)), (3, .int x)]) (by decide +kernel) rfl hI (Nat.le_of_ble_eq_true rfl) rfl ?_
  intro Z hnL hR X F
  refine g_aload_n X 0 rfl dX7_set_0 ?_
  refine gg_X7_of X (gP_23 (by first | assumption | decide | omega)) fX7_15 dX7_set_1 ?_
  refine g_bipush X 10 (by decide) dX7_set_4 ?_
  refine g_iload_n X 1 rfl dX7_set_6 ?_
  refine g_imul X dX7_set_7 ?_
  refine gG_top (nI (10 * i)) (pk_mul 10 i) ?_
  refine g_iload_n X 2 rfl dX7_set_8 ?_
  refine g_iadd X dX7_set_9 ?_
  refine gG_top (nI ((10 * i) + f)) (nI_add (10 * i) f) ?_
  refine g_iload_n X 3 rfl dX7_set_10 ?_
  refine g_iastN X (10 * i + f) rfl (by omega) (by decide) (gP_24 (by first | assumption | decide | omega)) (fun _ => rfl) dX7_set_11 ?_
  refine gG_nm (fun V1 hV1 => ?_)
  refine g_vret X F ?_ rfl dX7_set_12
  exact ⟨rfl, hV1⟩

/-- the reference's queue of an end -/
def RowM (V : gMem) (k e : Nat) (xs : List Nat) : Prop := V 27 k 0 (5 * e + 3) = nI xs.length ∧ xs.length ≤ 16 ∧ ∀ (j : Nat) (h : j < xs.length), V 26 k 0 (16 * e + j) = nI xs[j]
/-- nothing but one queue of a state of the reference is another one -/
def rmodM (V V' : gMem) (k e : Nat) : Prop := (∀ K b i, ¬ ((K = 26 ∨ K = 27) ∧ b = k ∧ i = 0) → V' K b i = V K b i) ∧ (∀ j, j ≠ 5 * e + 3 → V' 27 k 0 j = V 27 k 0 j) ∧ (∀ j, ¬ (16 * e ≤ j ∧ j < 16 * e + 16) → V' 26 k 0 j = V 26 k 0 j)

abbrev rmX7_first : Room := { frames := 1, cells := 0, slots := 0, locals := 40 }
set_option maxRecDepth 20000 in
theorem k_first {l : Launch} {B : gB} (hI : gI B) (V : gMem) (k : Nat) (e : Nat) (c : Nat) (ys : List Nat) (hk : k < 2) (he : e < 2) (hx : RowM V k e (c :: ys)) : gM l B yX7_first cX7_first 3 (some .int) rmX7_first [.ref (B.2.1 23 k 0), .int (nI e)] V (fun v V' => v = some (.int (nI c)) ∧ RowM V' k e (ys) ∧ rmodM V V' k e) := by
  refine gM_of (own := RX7) (L := [(0, .ref (B.2.1 23 k 0)), (1, .int (nI e))]) (by decide +kernel) rfl hI (Nat.le_of_ble_eq_true rfl) rfl ?_
  intro Z hnL hR X F
  have hlen : ys.length + 1 ≤ 16 := hx.2.1
  have hrd : V 26 k 0 (16 * e) = nI c := hx.2.2 0 (Nat.succ_pos _)
  refine g_aload_n X 0 rfl dX7_first_0 ?_
  refine gg_X7_row X (gP_23 (by first | assumption | decide | omega)) fX7_22 dX7_first_1 ?_
  refine g_bipush X 16 (by decide) dX7_first_4 ?_
  refine g_iload_n X 1 rfl dX7_first_6 ?_
  refine g_imul X dX7_first_7 ?_
  refine gG_top (nI (16 * e)) (pk_mul 16 e) ?_
  refine g_ialdN X (16 * e) rfl (by omega) (by decide) (gP_26 (by first | assumption | decide | omega)) rfl dX7_first_8 ?_
  refine g_istore_n X rfl dX7_first_9 [(2, .int (V 26 k 0 (16 * e))), (0, .ref (B.2.1 23 k 0)), (1, .int (nI e))] rfl (gnl_lt hnL (by decide)) ?_
  refine g_aload_n X 1 rfl dX7_first_10 ?_
  refine gg_X7_box X (gP_23 (by first | assumption | decide | omega)) fX7_25 dX7_first_11 ?_
  refine g_iconst X 5 (by decide) dX7_first_14 ?_
  refine g_iload_n X 2 rfl dX7_first_15 ?_
  refine g_imul X dX7_first_16 ?_
  refine gG_top (nI (5 * e)) (pk_mul 5 e) ?_
  refine g_iconst X 3 (by decide) dX7_first_17 ?_
  refine g_iadd X dX7_first_18 ?_
  refine gG_top (nI ((5 * e) + 3)) (nI_add (5 * e) 3) ?_
  refine g_dup2 X rfl rfl dX7_first_19 ?_
  refine g_ialdN X (5 * e + 3) rfl (by omega) (by decide) (gP_27 (by first | assumption | decide | omega)) rfl dX7_first_20 ?_
  refine gG_top (nI (ys.length + 1)) (hx.1) ?_
  refine g_iconst X 1 (by decide) dX7_first_21 ?_
  refine g_isub X dX7_first_22 ?_
  refine gG_top (nI ys.length) (nI_pred _) ?_
  refine g_iastN X (5 * e + 3) rfl (by omega) (by decide) (gP_27 (by first | assumption | decide | omega)) (fun _ => rfl) dX7_first_23 ?_
  refine gG_nm (fun V1 hV1 => ?_)
  refine g_aload_n X 1 rfl dX7_first_24 ?_
  refine gg_X7_row X (gP_23 (by first | assumption | decide | omega)) fX7_22 dX7_first_25 ?_
  refine g_bipush X 16 (by decide) dX7_first_28 ?_
  refine g_iload_n X 2 rfl dX7_first_30 ?_
  refine g_imul X dX7_first_31 ?_
  refine gG_top (nI (16 * e)) (pk_mul 16 e) ?_
  refine g_iconst X 1 (by decide) dX7_first_32 ?_
  refine g_iadd X dX7_first_33 ?_
  refine gG_top (nI ((16 * e) + 1)) (nI_1 _) ?_
  refine g_aload_n X 1 rfl dX7_first_34 ?_
  refine gg_X7_row X (gP_23 (by first | assumption | decide | omega)) fX7_22 dX7_first_35 ?_
  refine g_bipush X 16 (by decide) dX7_first_38 ?_
  refine g_iload_n X 2 rfl dX7_first_40 ?_
  refine g_imul X dX7_first_41 ?_
  refine gG_top (nI (16 * e)) (pk_mul 16 e) ?_
  refine g_aload_n X 1 rfl dX7_first_42 ?_
  refine gg_X7_box X (gP_23 (by first | assumption | decide | omega)) fX7_25 dX7_first_43 ?_
  refine g_iconst X 5 (by decide) dX7_first_46 ?_
  refine g_iload_n X 2 rfl dX7_first_47 ?_
  refine g_imul X dX7_first_48 ?_
  refine gG_top (nI (5 * e)) (pk_mul 5 e) ?_
  refine g_iconst X 3 (by decide) dX7_first_49 ?_
  refine g_iadd X dX7_first_50 ?_
  refine gG_top (nI ((5 * e) + 3)) (nI_add (5 * e) 3) ?_
  refine g_ialdN X (5 * e + 3) rfl (by omega) (by decide) (gP_27 (by first | assumption | decide | omega)) rfl dX7_first_51 ?_
  refine gG_top (nI ys.length) (by rw [hV1, gup_eq]) ?_
  refine g_copy X hR (N := 32) (N2 := 32) (sp := 16 * e + 1) (dp := 16 * e) (len := ys.length) qL_X7_28 rfl rfl rfl (gP_26 (by first | assumption | decide | omega)) (gP_26 (by first | assumption | decide | omega)) (fun _ => rfl) (fun _ => rfl) (by decide) (by decide) (by omega) (by omega) ⟨Nat.le_of_ble_eq_true rfl, Nat.le_of_ble_eq_true rfl⟩ (Nat.le_of_ble_eq_true rfl) dX7_first_52 ?_
  refine gG_nm (fun V2 hV2 => ?_)
  refine g_iload_n X 0 rfl dX7_first_55 ?_
  refine g_iret X F ?_ rfl dX7_first_56
  refine ⟨by rw [hrd], ⟨by rw [hV2, gset_ne (by simp), hV1, gup_eq], by omega, fun j hj => ?_⟩, fun K b i hn => ?_, fun j hj => ?_, fun j hj => ?_⟩
  · rw [hV2, gset_eq]
    rw [pk_cpy_in (by omega) (by omega), hV1, gup_ne (by simp), show 16 * e + 1 + (16 * e + j - (16 * e)) = 16 * e + (j + 1) by omega]
    exact hx.2.2 (j + 1) (by simp only [List.length_cons]; omega)
  · rw [hV2, gset_ne (fun q => hn ⟨Or.inl q.1, q.2⟩), hV1, gup_off _ _ (fun q => hn ⟨Or.inr q.1, q.2⟩)]
  · rw [hV2, gset_ne (by simp), hV1, gup_ne (by simp; omega)]
  · rw [hV2, gset_eq, pk_cpy_out (by omega), hV1, gup_ne (by simp)]

abbrev rmX7_line : Room := { frames := 1, cells := 0, slots := 0, locals := 40 }
set_option maxRecDepth 20000 in
theorem k_lineF {l : Launch} {B : gB} (hI : gI B) (V : gMem) (k : Nat) (e : Nat) (c : Nat) (xs : List Nat) (hk : k < 2) (he : e < 2) (hc : c < 16) (hx : RowM V k e xs) (hl : xs.length < 16) : gM l B yX7_line cX7_line 5 none rmX7_line [.ref (B.2.1 23 k 0), .int (nI c), .int (nI e), .int (nI 0)] V (fun v V' => v = none ∧ ∃ Vx, RowM Vx k e (c :: xs) ∧ rmodM V Vx k e ∧ V' = gup (gup Vx 24 k 0 (10 * c + 5) 0) 24 k 0 (10 * c + 6) (-1)) := by
  refine gM_of (own := RX7) (L := [(0, .ref (B.2.1 23 k 0)), (1, .int (nI c)), (2, .int (nI e)), (3, .int (nI 0))]) (by decide +kernel) rfl hI (Nat.le_of_ble_eq_true rfl) rfl ?_
  intro Z hnL hR X F
  refine g_bipush X 16 (by decide) dX7_line_0 ?_
  refine g_iload_n X 2 rfl dX7_line_2 ?_
  refine g_imul X dX7_line_3 ?_
  refine gG_top (nI (16 * e)) (pk_mul 16 e) ?_
  refine g_iload_n X 3 rfl dX7_line_4 ?_
  refine g_iadd X dX7_line_5 ?_
  refine gG_top (nI ((16 * e) + 0)) (nI_add (16 * e) 0) ?_
  refine gG_top (nI (16 * e)) (rfl) ?_
  refine g_istore X dX7_line_6 [(4, .int (nI (16 * e))), (0, .ref (B.2.1 23 k 0)), (1, .int (nI c)), (2, .int (nI e)), (3, .int (nI 0))] rfl (gnl_lt hnL (by decide)) ?_
  refine g_aload_n X 1 rfl dX7_line_8 ?_
  refine gg_X7_row X (gP_23 (by first | assumption | decide | omega)) fX7_22 dX7_line_9 ?_
  refine g_iload X 0 rfl dX7_line_12 ?_
  refine g_aload_n X 1 rfl dX7_line_14 ?_
  refine gg_X7_row X (gP_23 (by first | assumption | decide | omega)) fX7_22 dX7_line_15 ?_
  refine g_iload X 0 rfl dX7_line_18 ?_
  refine g_iconst X 1 (by decide) dX7_line_20 ?_
  refine g_iadd X dX7_line_21 ?_
  refine gG_top (nI ((16 * e) + 1)) (nI_1 _) ?_
  refine g_aload_n X 1 rfl dX7_line_22 ?_
  refine gg_X7_box X (gP_23 (by first | assumption | decide | omega)) fX7_25 dX7_line_23 ?_
  refine g_iconst X 5 (by decide) dX7_line_26 ?_
  refine g_iload_n X 3 rfl dX7_line_27 ?_
  refine g_imul X dX7_line_28 ?_
  refine gG_top (nI (5 * e)) (pk_mul 5 e) ?_
  refine g_iconst X 3 (by decide) dX7_line_29 ?_
  refine g_iadd X dX7_line_30 ?_
  refine gG_top (nI ((5 * e) + 3)) (nI_add (5 * e) 3) ?_
  refine g_ialdN X (5 * e + 3) rfl (by omega) (by decide) (gP_27 (by first | assumption | decide | omega)) rfl dX7_line_31 ?_
  refine gG_top (nI xs.length) (hx.1) ?_
  refine g_iload_n X 4 rfl dX7_line_32 ?_
  refine g_isub X dX7_line_33 ?_
  refine gG_top (nI xs.length) (by rw [pk_sub (Nat.zero_le _), Nat.sub_zero]) ?_
  refine g_copy X hR (N := 32) (N2 := 32) (sp := 16 * e) (dp := 16 * e + 1) (len := xs.length) qL_X7_28 rfl rfl rfl (gP_26 (by first | assumption | decide | omega)) (gP_26 (by first | assumption | decide | omega)) (fun _ => rfl) (fun _ => rfl) (by decide) (by decide) (by omega) (by omega) ⟨Nat.le_of_ble_eq_true rfl, Nat.le_of_ble_eq_true rfl⟩ (Nat.le_of_ble_eq_true rfl) dX7_line_34 ?_
  refine gG_nm (fun V1 hV1 => ?_)
  refine g_aload_n X 1 rfl dX7_line_37 ?_
  refine gg_X7_row X (gP_23 (by first | assumption | decide | omega)) fX7_22 dX7_line_38 ?_
  refine g_iload X 0 rfl dX7_line_41 ?_
  refine g_iload_n X 2 rfl dX7_line_43 ?_
  refine g_iastN X (16 * e) rfl (by omega) (by decide) (gP_26 (by first | assumption | decide | omega)) (fun _ => rfl) dX7_line_44 ?_
  refine gG_nm (fun V2 hV2 => ?_)
  refine g_aload_n X 1 rfl dX7_line_45 ?_
  refine gg_X7_box X (gP_23 (by first | assumption | decide | omega)) fX7_25 dX7_line_46 ?_
  refine g_iconst X 5 (by decide) dX7_line_49 ?_
  refine g_iload_n X 3 rfl dX7_line_50 ?_
  refine g_imul X dX7_line_51 ?_
  refine gG_top (nI (5 * e)) (pk_mul 5 e) ?_
  refine g_iconst X 3 (by decide) dX7_line_52 ?_
  refine g_iadd X dX7_line_53 ?_
  refine gG_top (nI ((5 * e) + 3)) (nI_add (5 * e) 3) ?_
  refine g_dup2 X rfl rfl dX7_line_54 ?_
  refine g_ialdN X (5 * e + 3) rfl (by omega) (by decide) (gP_27 (by first | assumption | decide | omega)) rfl dX7_line_55 ?_
  refine gG_top (nI xs.length) (by rw [hV2, gup_ne (by simp), hV1, gset_ne (by simp)]; exact hx.1) ?_
  refine g_iconst X 1 (by decide) dX7_line_56 ?_
  refine g_iadd X dX7_line_57 ?_
  refine gG_top (nI (xs.length + 1)) (nI_1 _) ?_
  refine g_iastN X (5 * e + 3) rfl (by omega) (by decide) (gP_27 (by first | assumption | decide | omega)) (fun _ => rfl) dX7_line_58 ?_
  refine gG_nm (fun V3 hV3 => ?_)
  refine g_aload_n X 1 rfl dX7_line_59 ?_
  refine g_iload_n X 2 rfl dX7_line_60 ?_
  refine g_iconst X 5 (by decide) dX7_line_61 ?_
  refine g_iconst X 0 (by decide) dX7_line_62 ?_
  refine g_callV X hR (rest := []) mX7_set lX7_48 (k_set hI V3 k c 5 0 (by first | assumption | decide | omega) (by first | assumption | decide | omega) (by first | assumption | decide | omega)) rfl rfl (Nat.le_of_ble_eq_true rfl) (gP_23 (by first | assumption | decide | omega)) rfl rfl rfl ⟨Nat.le_of_ble_eq_true rfl, Nat.le_of_ble_eq_true rfl, Nat.le_of_ble_eq_true rfl, Nat.le_of_ble_eq_true rfl⟩ dX7_line_63 (fun r4 V5 hz_6 => ?_)
  refine gG_rv hz_6.1 ?_
  have hV5 := hz_6.2
  refine gG_st [] rfl ?_
  refine g_aload_n X 1 rfl dX7_line_66 ?_
  refine g_iload_n X 2 rfl dX7_line_67 ?_
  refine g_bipush X 6 (by decide) dX7_line_68 ?_
  refine g_iconst X (-1) (by decide) dX7_line_70 ?_
  refine g_callV X hR (rest := []) mX7_set lX7_48 (k_set hI V5 k c 6 (-1) (by first | assumption | decide | omega) (by first | assumption | decide | omega) (by first | assumption | decide | omega)) rfl rfl (Nat.le_of_ble_eq_true rfl) (gP_23 (by first | assumption | decide | omega)) rfl rfl rfl ⟨Nat.le_of_ble_eq_true rfl, Nat.le_of_ble_eq_true rfl, Nat.le_of_ble_eq_true rfl, Nat.le_of_ble_eq_true rfl⟩ dX7_line_71 (fun r7 V8 hz_9 => ?_)
  refine gG_rv hz_9.1 ?_
  have hV8 := hz_9.2
  refine gG_st [] rfl ?_
  refine g_vret X F ?_ rfl dX7_line_74
  refine ⟨rfl, V3, ⟨by rw [hV3, gup_eq]; simp only [List.length_cons, List.length_append, List.length_nil], by simp only [List.length_cons, List.length_append, List.length_nil]; omega, fun j hj => ?_⟩, ⟨fun K b i hn => ?_, fun j hj => ?_, fun j hj => ?_⟩, by rw [hV8, hV5]⟩
  · rw [hV3, gup_ne (by simp), hV2]
    simp only [List.length_cons] at hj
    cases j with
    | zero => rw [show 16 * e + 0 = 16 * e by omega, gup_eq]; rfl
    | succ j => rw [gup_ne (by omega), hV1, gset_eq, pk_cpy_in (by omega) (by omega), show 16 * e + (16 * e + (j + 1) - (16 * e + 1)) = 16 * e + j by omega, hx.2.2 j (by omega)]; rfl
  · rw [hV3, gup_off _ _ (fun q => hn ⟨Or.inr q.1, q.2⟩), hV2, gup_off _ _ (fun q => hn ⟨Or.inl q.1, q.2⟩), hV1, gset_ne (fun q => hn ⟨Or.inl q.1, q.2⟩)]
  · rw [hV3, gup_ne (by omega), hV2, gup_ne (by simp), hV1, gset_ne (by simp)]
  · rw [hV3, gup_ne (by simp), hV2, gup_ne (by omega), hV1, gset_eq, pk_cpy_out (by omega)]

set_option maxRecDepth 20000 in
theorem k_lineL {l : Launch} {B : gB} (hI : gI B) (V : gMem) (k : Nat) (e : Nat) (c : Nat) (xs : List Nat) (hk : k < 2) (he : e < 2) (hc : c < 16) (hx : RowM V k e xs) (hl : xs.length < 16) : gM l B yX7_line cX7_line 5 none rmX7_line [.ref (B.2.1 23 k 0), .int (nI c), .int (nI e), .int (nI xs.length)] V (fun v V' => v = none ∧ ∃ Vx, RowM Vx k e (xs ++ [c]) ∧ rmodM V Vx k e ∧ V' = gup (gup Vx 24 k 0 (10 * c + 5) 0) 24 k 0 (10 * c + 6) (-1)) := by
  refine gM_of (own := RX7) (L := [(0, .ref (B.2.1 23 k 0)), (1, .int (nI c)), (2, .int (nI e)), (3, .int (nI xs.length))]) (by decide +kernel) rfl hI (Nat.le_of_ble_eq_true rfl) rfl ?_
  intro Z hnL hR X F
  refine g_bipush X 16 (by decide) dX7_line_0 ?_
  refine g_iload_n X 2 rfl dX7_line_2 ?_
  refine g_imul X dX7_line_3 ?_
  refine gG_top (nI (16 * e)) (pk_mul 16 e) ?_
  refine g_iload_n X 3 rfl dX7_line_4 ?_
  refine g_iadd X dX7_line_5 ?_
  refine gG_top (nI ((16 * e) + xs.length)) (nI_add (16 * e) xs.length) ?_
  refine g_istore X dX7_line_6 [(4, .int (nI ((16 * e) + xs.length))), (0, .ref (B.2.1 23 k 0)), (1, .int (nI c)), (2, .int (nI e)), (3, .int (nI xs.length))] rfl (gnl_lt hnL (by decide)) ?_
  refine g_aload_n X 1 rfl dX7_line_8 ?_
  refine gg_X7_row X (gP_23 (by first | assumption | decide | omega)) fX7_22 dX7_line_9 ?_
  refine g_iload X 0 rfl dX7_line_12 ?_
  refine g_aload_n X 1 rfl dX7_line_14 ?_
  refine gg_X7_row X (gP_23 (by first | assumption | decide | omega)) fX7_22 dX7_line_15 ?_
  refine g_iload X 0 rfl dX7_line_18 ?_
  refine g_iconst X 1 (by decide) dX7_line_20 ?_
  refine g_iadd X dX7_line_21 ?_
  refine gG_top (nI (((16 * e) + xs.length) + 1)) (nI_1 _) ?_
  refine g_aload_n X 1 rfl dX7_line_22 ?_
  refine gg_X7_box X (gP_23 (by first | assumption | decide | omega)) fX7_25 dX7_line_23 ?_
  refine g_iconst X 5 (by decide) dX7_line_26 ?_
  refine g_iload_n X 3 rfl dX7_line_27 ?_
  refine g_imul X dX7_line_28 ?_
  refine gG_top (nI (5 * e)) (pk_mul 5 e) ?_
  refine g_iconst X 3 (by decide) dX7_line_29 ?_
  refine g_iadd X dX7_line_30 ?_
  refine gG_top (nI ((5 * e) + 3)) (nI_add (5 * e) 3) ?_
  refine g_ialdN X (5 * e + 3) rfl (by omega) (by decide) (gP_27 (by first | assumption | decide | omega)) rfl dX7_line_31 ?_
  refine gG_top (nI xs.length) (hx.1) ?_
  refine g_iload_n X 4 rfl dX7_line_32 ?_
  refine g_isub X dX7_line_33 ?_
  refine gG_top (nI 0) (by rw [pk_sub (Nat.le_refl _), Nat.sub_self]) ?_
  refine g_copy X hR (N := 32) (N2 := 32) (sp := 16 * e + xs.length) (dp := 16 * e + xs.length + 1) (len := 0) qL_X7_28 rfl rfl rfl (gP_26 (by first | assumption | decide | omega)) (gP_26 (by first | assumption | decide | omega)) (fun _ => rfl) (fun _ => rfl) (by decide) (by decide) (by omega) (by omega) ⟨Nat.le_of_ble_eq_true rfl, Nat.le_of_ble_eq_true rfl⟩ (Nat.le_of_ble_eq_true rfl) dX7_line_34 ?_
  refine gG_nm (fun V1 hV1 => ?_)
  refine g_aload_n X 1 rfl dX7_line_37 ?_
  refine gg_X7_row X (gP_23 (by first | assumption | decide | omega)) fX7_22 dX7_line_38 ?_
  refine g_iload X 0 rfl dX7_line_41 ?_
  refine g_iload_n X 2 rfl dX7_line_43 ?_
  refine g_iastN X (16 * e + xs.length) rfl (by omega) (by decide) (gP_26 (by first | assumption | decide | omega)) (fun _ => rfl) dX7_line_44 ?_
  refine gG_nm (fun V2 hV2 => ?_)
  refine g_aload_n X 1 rfl dX7_line_45 ?_
  refine gg_X7_box X (gP_23 (by first | assumption | decide | omega)) fX7_25 dX7_line_46 ?_
  refine g_iconst X 5 (by decide) dX7_line_49 ?_
  refine g_iload_n X 3 rfl dX7_line_50 ?_
  refine g_imul X dX7_line_51 ?_
  refine gG_top (nI (5 * e)) (pk_mul 5 e) ?_
  refine g_iconst X 3 (by decide) dX7_line_52 ?_
  refine g_iadd X dX7_line_53 ?_
  refine gG_top (nI ((5 * e) + 3)) (nI_add (5 * e) 3) ?_
  refine g_dup2 X rfl rfl dX7_line_54 ?_
  refine g_ialdN X (5 * e + 3) rfl (by omega) (by decide) (gP_27 (by first | assumption | decide | omega)) rfl dX7_line_55 ?_
  refine gG_top (nI xs.length) (by rw [hV2, gup_ne (by simp), hV1, gset_ne (by simp)]; exact hx.1) ?_
  refine g_iconst X 1 (by decide) dX7_line_56 ?_
  refine g_iadd X dX7_line_57 ?_
  refine gG_top (nI (xs.length + 1)) (nI_1 _) ?_
  refine g_iastN X (5 * e + 3) rfl (by omega) (by decide) (gP_27 (by first | assumption | decide | omega)) (fun _ => rfl) dX7_line_58 ?_
  refine gG_nm (fun V3 hV3 => ?_)
  refine g_aload_n X 1 rfl dX7_line_59 ?_
  refine g_iload_n X 2 rfl dX7_line_60 ?_
  refine g_iconst X 5 (by decide) dX7_line_61 ?_
  refine g_iconst X 0 (by decide) dX7_line_62 ?_
  refine g_callV X hR (rest := []) mX7_set lX7_48 (k_set hI V3 k c 5 0 (by first | assumption | decide | omega) (by first | assumption | decide | omega) (by first | assumption | decide | omega)) rfl rfl (Nat.le_of_ble_eq_true rfl) (gP_23 (by first | assumption | decide | omega)) rfl rfl rfl ⟨Nat.le_of_ble_eq_true rfl, Nat.le_of_ble_eq_true rfl, Nat.le_of_ble_eq_true rfl, Nat.le_of_ble_eq_true rfl⟩ dX7_line_63 (fun r4 V5 hz_6 => ?_)
  refine gG_rv hz_6.1 ?_
  have hV5 := hz_6.2
  refine gG_st [] rfl ?_
  refine g_aload_n X 1 rfl dX7_line_66 ?_
  refine g_iload_n X 2 rfl dX7_line_67 ?_
  refine g_bipush X 6 (by decide) dX7_line_68 ?_
  refine g_iconst X (-1) (by decide) dX7_line_70 ?_
  refine g_callV X hR (rest := []) mX7_set lX7_48 (k_set hI V5 k c 6 (-1) (by first | assumption | decide | omega) (by first | assumption | decide | omega) (by first | assumption | decide | omega)) rfl rfl (Nat.le_of_ble_eq_true rfl) (gP_23 (by first | assumption | decide | omega)) rfl rfl rfl ⟨Nat.le_of_ble_eq_true rfl, Nat.le_of_ble_eq_true rfl, Nat.le_of_ble_eq_true rfl, Nat.le_of_ble_eq_true rfl⟩ dX7_line_71 (fun r7 V8 hz_9 => ?_)
  refine gG_rv hz_9.1 ?_
  have hV8 := hz_9.2
  refine gG_st [] rfl ?_
  refine g_vret X F ?_ rfl dX7_line_74
  refine ⟨rfl, V3, ⟨by rw [hV3, gup_eq]; simp only [List.length_cons, List.length_append, List.length_nil], by simp only [List.length_cons, List.length_append, List.length_nil]; omega, fun j hj => ?_⟩, ⟨fun K b i hn => ?_, fun j hj => ?_, fun j hj => ?_⟩, by rw [hV8, hV5]⟩
  · rw [hV3, gup_ne (by simp), hV2]
    simp only [List.length_append, List.length_cons, List.length_nil] at hj
    by_cases hjl : j = xs.length
    · subst hjl
      rw [gup_eq]; simp
    · rw [gup_ne (by omega), hV1, gset_eq, pk_cpy_out (by omega), hx.2.2 j (by omega), List.getElem_append_left (by omega)]
  · rw [hV3, gup_off _ _ (fun q => hn ⟨Or.inr q.1, q.2⟩), hV2, gup_off _ _ (fun q => hn ⟨Or.inl q.1, q.2⟩), hV1, gset_ne (fun q => hn ⟨Or.inl q.1, q.2⟩)]
  · rw [hV3, gup_ne (by omega), hV2, gup_ne (by simp), hV1, gset_ne (by simp)]
  · rw [hV3, gup_ne (by simp), hV2, gup_ne (by omega), hV1, gset_eq, pk_cpy_out (by omega)]

abbrev rmX7_copy : Room := { frames := 1, cells := 0, slots := 0, locals := 40 }
set_option maxRecDepth 20000 in
theorem k_mcopy {l : Launch} {B : gB} (hI : gI B) (V : gMem) (K : Nat) (k : Nat) (k2 : Nat) (k3 : Nat) (N : Nat) (hk : k < 2) (hk2 : k2 < 2) (hk3 : k3 < 2) (hN : N < 2 ^ 31) (hp : gP K k 0) (hp2 : gP K k2 0) (heN : ∀ j f, gE B K j 0 f = .inl (B.2.2.1.1, N, .inl f)) : gM l B yX7_copy cX7_copy 3 none rmX7_copy [.ref (B.2.1 23 k3 0), .ref (B.2.1 K k 0), .ref (B.2.1 K k2 0)] V (fun v V' => v = none ∧ ∃ f, (∀ j, j < N → f j = V K k 0 j) ∧ V' = gset V K k2 0 f) := by
  refine gM_of (own := RX7) (L := [(0, .ref (B.2.1 23 k3 0)), (1, .ref (B.2.1 K k 0)), (2, .ref (B.2.1 K k2 0))]) (by decide +kernel) rfl hI (Nat.le_of_ble_eq_true rfl) rfl ?_
  intro Z hnL hR X F
  refine g_aload_n X 1 rfl dX7_copy_0 ?_
  refine g_iconst X 0 (by decide) dX7_copy_1 ?_
  refine g_aload_n X 2 rfl dX7_copy_2 ?_
  refine g_iconst X 0 (by decide) dX7_copy_3 ?_
  refine g_aload_n X 1 rfl dX7_copy_4 ?_
  refine g_alen X (N := N) (v := nI N) hp (heN k _) rfl dX7_copy_5 ?_
  refine g_copy X hR (N := N) (N2 := N) (sp := 0) (dp := 0) (len := N) qL_X7_28 rfl rfl rfl hp hp2 (heN k) (heN k2) hN hN (by omega) (by omega) ⟨Nat.le_of_ble_eq_true rfl, Nat.le_of_ble_eq_true rfl⟩ (Nat.le_of_ble_eq_true rfl) dX7_copy_6 ?_
  refine g_vret X F ?_ rfl dX7_copy_9
  refine ⟨rfl, _, fun j hj => ?_, rfl⟩
  rw [pk_cpy_in (Nat.zero_le _) (by omega)]
  simp

