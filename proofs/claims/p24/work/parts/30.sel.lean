/-! rows of whole, of the class (30.sel) -/
theorem WF.on {S : gSt} (h : WF S) {i : Nat} (hi : i < S.1 6) (h8 : S.2.2.2.1 i 8 = 1) : i ∈ S.2.1 2 := (h.2.2.2.2.1 i).mpr ⟨hi, h8⟩
theorem sCome_no {S : gSt} {i : Nat} {ys : List Nat} (hq : S.2.1 (S.1 1) = i :: ys) (h : sRoom S i = false) : sCome S = S := by
  unfold sCome
  rw [hq]
  simp only []
  rw [if_neg (by rw [h]; decide)]
theorem sCome_nil {S : gSt} (hq : S.2.1 (S.1 1) = []) : sCome S = S := by
  unfold sCome
  rw [hq]
theorem cntF_congr {f g : Nat → Bool} : ∀ n, (∀ i, i < n → f i = g i) → cntF f n = cntF g n
  | 0, _ => rfl
  | n + 1, h => by
    unfold cntF
    rw [cntF_congr n (fun i hi => h i (by omega)), h n (by omega)]
theorem cntF_set {f g : Nat → Bool} {i : Nat} (h0 : f i = false) (h1 : g i = true) (hs : ∀ j, j ≠ i → g j = f j) : ∀ n, i < n → cntF g n = cntF f n + 1
  | 0, h => by omega
  | n + 1, h => by
    unfold cntF
    by_cases hn : i = n
    · subst hn
      rw [cntF_congr i (fun j hj => hs j (by omega)), h0, h1]
      simp
    · rw [cntF_set h0 h1 hs n (by omega), hs n (fun q => hn q.symm)]
      omega
theorem goOnL_cnt (pl tk n : Nat) : ∀ (is : List Nat) (lim : Nat) (S : gSt), is.Nodup → (∀ i ∈ is, i < n ∧ S.2.2.2.1 i 8 = 1) → cntF (fun i => decide ((goOnL pl tk is lim S).1.2.2.2.1 i 8 = 2)) n = cntF (fun i => decide (S.2.2.2.1 i 8 = 2)) n + (goOnL pl tk is lim S).2 := by
  intro is
  induction is with
  | nil => intro lim S _ _; rfl
  | cons i is ih =>
    intro lim S hn hm
    rw [List.nodup_cons] at hn
    obtain ⟨hi, h8⟩ := hm i List.mem_cons_self
    unfold goOnL
    split
    · rw [ih _ _ hn.2 (fun j hj => ⟨(hm j (List.mem_cons_of_mem _ hj)).1, by rw [← (hm j (List.mem_cons_of_mem _ hj)).2]; simp [sC]⟩)]
      congr 1
      exact cntF_congr n (fun j _ => by simp [sC])
    · show cntF (fun j => decide ((goOnL pl tk is lim (sO (sC S i 8 2) i (nI tk))).1.2.2.2.1 j 8 = 2)) n = _ + ((goOnL pl tk is lim (sO (sC S i 8 2) i (nI tk))).2 + 1)
      rw [ih _ _ hn.2 (fun j hj => by
        have hji : j ≠ i := fun q => hn.1 (q ▸ hj)
        exact ⟨(hm j (List.mem_cons_of_mem _ hj)).1, by rw [← (hm j (List.mem_cons_of_mem _ hj)).2]; simp [sO, sC, hji]⟩)]
      rw [cntF_set (f := fun j => decide (S.2.2.2.1 j 8 = 2)) (g := fun j => decide ((sO (sC S i 8 2) i (nI tk)).2.2.2.1 j 8 = 2)) (i := i) (by simp [h8]) (by simp [sO, sC]) (fun j hj => by simp [sO, sC, hj]) n hi]
      omega
theorem sLeave_eq (S : gSt) (l : Nat) (ys : List Nat) : sLeave S l ys = sQ (sQ (sC S l 8 0) (S.2.2.2.1 l 1) (l :: S.2.1 (S.2.2.2.1 l 1))) 2 ys := by
  have h : (sC S l 8 0).2.2.2.1 l 1 = S.2.2.2.1 l 1 := by simp [sC]
  unfold sLeave
  simp only [h]
  rfl
theorem goBack_st {S : gSt} (h : WF S) (i : Nat) : (sGoBack S).2.2.2.1 i 8 = 2 ↔ S.2.2.2.1 i 8 = 2 := by
  rcases List.eq_nil_or_concat (S.2.1 2) with hq | ⟨ys, l, hq⟩
  · unfold sGoBack
    rw [hq]
    exact Iff.rfl
  · have hq : S.2.1 2 = ys ++ [l] := hq.trans (List.concat_eq_append ..)
    have hrev : (S.2.1 2).reverse = l :: ys.reverse := by rw [hq]; simp
    have hl8 : S.2.2.2.1 l 8 = 1 := ((h.2.2.2.2.1 l).mp (by rw [hq]; simp)).2
    have hn := nodup_rev h.ne
    rw [hrev] at hn
    unfold sGoBack
    rw [hrev]
    simp only []
    split
    · rw [(backL_spec ys.reverse _ (List.nodup_cons.mp hn).2).2.2.2.2.1 i 8 (by decide), sLeave_eq]
      show (if i = l ∧ 8 = 8 then 0 else S.2.2.2.1 i 8) = 2 ↔ _
      by_cases hi : i = l
      · subst hi; simp [hl8]
      · simp [hi]
    · rw [(backL_spec (l :: ys.reverse) S hn).2.2.2.2.1 i 8 (by decide)]
theorem come_st {S : gSt} (h : WF S) (i : Nat) : (sCome S).2.2.2.1 i 8 = 2 ↔ S.2.2.2.1 i 8 = 2 := by
  cases hq : S.2.1 (S.1 1) with
  | nil => rw [sCome_nil hq]
  | cons c ys =>
    have hc8 : S.2.2.2.1 c 8 = 0 := (h.qmem (e := S.1 1) (by have := h.1.1; omega) (by rw [hq]; exact List.mem_cons_self)).2.1
    by_cases hroom : sRoom S c = true
    · rw [sCome_eq hq hroom]
      split
      · show (if i = c ∧ 8 = 8 then 3 else S.2.2.2.1 i 8) = 2 ↔ _
        by_cases hi : i = c
        · subst hi; simp [hc8]
        · simp [hi]
      · show (if i = c ∧ 8 = 9 then 0 else if i = c ∧ 8 = 8 then 1 else (if (sQ S (S.1 1) ys).2.2.2.1 c 7 = 0 then sPay (sQ S (S.1 1) ys) (S.1 1) c else sQ S (S.1 1) ys).2.2.2.1 i 8) = 2 ↔ _
        by_cases hi : i = c
        · subst hi; simp [hc8]
        · rw [if_neg (by omega), if_neg (by omega)]
          split
          · rw [(sPay_c (sQ S (S.1 1) ys) (S.1 1) c).1 i 8 (by decide) (by decide)]; rfl
          · rfl
    · rw [sCome_no hq (by simpa using hroom)]
theorem cntS_congr {S T : gSt} (h6 : T.1 6 = S.1 6) (h : ∀ i, T.2.2.2.1 i 8 = 2 ↔ S.2.2.2.1 i 8 = 2) : sCnt T 2 = sCnt S 2 := by
  unfold sCnt
  rw [h6]
  exact cntF_congr _ (fun i _ => by simp [h i])
theorem move_cnt {S : gSt} (h : WF S) : sCnt (sMove S).1 2 = sCnt S 2 + (sMove S).2 := by
  unfold sMove
  split
  · rfl
  · split
    · show cntF (fun i => decide ((goOnL (S.1 2) (S.1 0) (S.2.1 2) (S.1 2 + 4) S).1.2.2.2.1 i 8 = 2)) ((goOnL (S.1 2) (S.1 0) (S.2.1 2) (S.1 2 + 4) S).1.1 6) = _
      rw [(goOnL_same _ _ _ _ S).1]
      exact goOnL_cnt _ _ _ _ _ _ h.ne (fun i hi => (h.2.2.2.2.1 i).mp hi)
    · exact cntS_congr (by rw [sGoBack_num S h]) (goBack_st h)
theorem tick_cnt {S : gSt} (h : WF S) : sCnt (sTick S).1 2 = sCnt S 2 + (sMove S).2 := by
  rw [← move_cnt h]
  refine (cntS_congr (S := sCome (sMove S).1) (T := (sTick S).1) rfl (fun i => Iff.rfl)).trans (cntS_congr ?_ (come_st h.move))
  rw [sCome_num]
def nOk (n : Nat) : Bool := if h : n = 0 then true else (decide (n % 10 = 1) || decide (n % 10 = 2)) && nOk (n / 10)
termination_by n
decreasing_by exact Nat.div_lt_self (Nat.pos_of_ne_zero h) (by decide)
abbrev gCd : Type := Nat × (Nat → Nat)
def CodeC (V : gMem) (c : gCd) : Prop := V 1 0 0 2 = nI c.1 ∧ ∀ k, k < c.1 → V 2 0 0 k = nI (c.2 k)
def CodeOk (c : gCd) : Prop := c.1 ≤ 8 ∧ ∀ k, k < c.1 → nOk (c.2 k) = true ∧ c.2 k < 10 ^ 6 ∧ 0 < c.2 k
abbrev rmX2_ringsOf : Room := { frames := 1, cells := 0, slots := 0, locals := 21 }
set_option maxRecDepth 20000 in
theorem k_ringsOf {l : Launch} {B : gB} (hI : gI B) (V : gMem) (c : gCd) (k : Nat) (hC : CodeC V c) (hk : CodeOk c) (hkn : k < c.1) : gM l B yX2_ringsOf cX2_ringsOf 2 (some .int) rmX2_ringsOf [.ref (B.2.1 1 0 0), .int (nI k)] V (fun v V' => v = some (.int (nI (c.2 k))) ∧ V' = V) := by
  refine gM_of (own := RX2) (L := [(0, .ref (B.2.1 1 0 0)), (1, .int (nI k))]) (by decide +kernel) rfl hI (Nat.le_of_ble_eq_true rfl) rfl ?_
  intro Z hnL hR X F
  have h8 : k < 8 := by have := hk.1; omega
  refine g_iload_n X 1 rfl dX2_ringsOf_0 ?_
  refine g_aload_n X 0 rfl dX2_ringsOf_1 ?_
  refine gg_X2_signals X ⟨by decide, by decide⟩ fX2_9 dX2_ringsOf_2 ?_
  refine g_alen X (v := 8) ⟨by decide, by decide⟩ rfl (by decide) dX2_ringsOf_5 ?_
  refine g_callS X hR (As := [.int (nI k), .int 8]) (rest := []) mX6_isIndex lX2_32 (k_isIndex1 hI V (nI k) 8 (nI_pos' (by omega)) (nI_lt (b := 8) (by have := hk.1; omega) (by decide))) rfl rfl (Nat.le_of_ble_eq_true rfl) ⟨Nat.le_of_ble_eq_true rfl, Nat.le_of_ble_eq_true rfl, Nat.le_of_ble_eq_true rfl, Nat.le_of_ble_eq_true rfl⟩ dX2_ringsOf_6 (fun r1 V2 hz_3 => ?_)
  refine gG_ret hz_3.1 hz_3.2 ?_
  refine gG_st [.int 1] rfl ?_
  refine g_if_eq X 21 (by decide) dX2_ringsOf_9 (fun c4 => ?_) (fun c4 => ?_)
  ·  exact absurd c4 (by decide)
  · refine g_aload_n X 0 rfl dX2_ringsOf_12 ?_
    refine gg_X2_signals X ⟨by decide, by decide⟩ fX2_9 dX2_ringsOf_13 ?_
    refine g_iload_n X 1 rfl dX2_ringsOf_16 ?_
    refine g_ialdN X (k) rfl (by omega) (by decide) ⟨by decide, by decide⟩ rfl dX2_ringsOf_17 ?_
    refine gG_top (nI (c.2 k)) (hC.2 k hkn) ?_
    refine g_goto X 22 (by decide) dX2_ringsOf_18 ?_
    refine g_iret X F ?_ rfl dX2_ringsOf_22
    exact ⟨rfl, rfl⟩
abbrev rmX2_mixedInto : Room := { frames := 2, cells := 0, slots := 0, locals := 42 }
set_option maxRecDepth 20000 in
theorem k_cmix {l : Launch} {B : gB} (hI : gI B) (V : gMem) (c : gCd) (d : Int64) (hC : CodeC V c) (hk : CodeOk c) : gM l B yX2_mixedInto cX2_mixedInto 6 (some .long) rmX2_mixedInto [.ref (B.2.1 1 0 0), .long d] V (fun v V' => v = some (.long (mixL ((List.range c.1).map (fun j => nI (c.2 j))) d)) ∧ V' = V) := by
  refine gM_of (own := RX2) (L := [(0, .ref (B.2.1 1 0 0)), (1, .long d)]) (by decide +kernel) rfl hI (Nat.le_of_ble_eq_true rfl) rfl ?_
  intro Z hnL hR X F
  have h8 : c.1 ≤ 8 := hk.1
  refine g_lload_n X 1 rfl dX2_mixedInto_0 ?_
  refine g_lstore_n X rfl dX2_mixedInto_1 [(3, .long d), (0, .ref (B.2.1 1 0 0)), (1, .long d)] rfl (gnl_lt hnL (by decide)) ?_
  refine g_iconst X 0 (by decide) dX2_mixedInto_2 ?_
  refine g_istore X dX2_mixedInto_3 [(5, .int 0), (3, .long d), (0, .ref (B.2.1 1 0 0)), (1, .long d)] rfl (gnl_lt hnL (by decide)) ?_
  refine gG_L [2, 3, 1, 0] (L' := [(0, .ref (B.2.1 1 0 0)), (1, .long d), (3, .long d), (5, .int 0)]) rfl ?_
  have loop : ∀ (f : Nat) (k : Nat) , k + f = c.1 →  gG Z B (0, 0) V 5 [(0, .ref (B.2.1 1 0 0)), (1, .long d), (3, .long (mixL ((List.range k).map (fun j => nI (c.2 j))) d)), (5, .int (nI k))] [] := by
    intro f
    induction f with
    | zero =>
      intro k  hf 
      refine g_iload X 3 rfl dX2_mixedInto_5 ?_
      refine g_aload_n X 0 rfl dX2_mixedInto_7 ?_
      refine gg_X2_size X ⟨by decide, by decide⟩ fX2_18 dX2_mixedInto_8 ?_
      refine gG_top (nI c.1) (hC.1) ?_
      refine g_icmp_ge X 31 (by decide) dX2_mixedInto_11 (fun c1 => ?_) (fun c1 => ?_)
      · refine g_lload_n X 2 rfl dX2_mixedInto_31 ?_
        refine g_lret X F ?_ rfl dX2_mixedInto_32
        exact ⟨by rw [show k = c.1 by omega], rfl⟩
      · first | exact absurd (nI_le (by omega) (by omega)) c1 | exact absurd c1 (nI_le (by omega) (by omega))
    | succ f ih =>
      intro k  hf 
      refine g_iload X 3 rfl dX2_mixedInto_5 ?_
      refine g_aload_n X 0 rfl dX2_mixedInto_7 ?_
      refine gg_X2_size X ⟨by decide, by decide⟩ fX2_18 dX2_mixedInto_8 ?_
      refine gG_top (nI c.1) (hC.1) ?_
      refine g_icmp_ge X 31 (by decide) dX2_mixedInto_11 (fun c2 => ?_) (fun c2 => ?_)
      · first | exact absurd (nI_ge (by omega) (by omega)) c2 | exact absurd c2 (nI_ge (by omega) (by omega))
      · refine g_lload_n X 2 rfl dX2_mixedInto_14 ?_
        refine g_aload_n X 0 rfl dX2_mixedInto_15 ?_
        refine g_iload X 3 rfl dX2_mixedInto_16 ?_
        refine g_callV X hR (rest := [.long (mixL ((List.range k).map (fun j => nI (c.2 j))) d)]) mX2_ringsOf lX2_22 (k_ringsOf hI V c k (by first | assumption | decide | omega) (by first | assumption | decide | omega) (by first | assumption | decide | omega)) rfl rfl (Nat.le_of_ble_eq_true rfl) ⟨by decide, by decide⟩ rfl rfl rfl ⟨Nat.le_of_ble_eq_true rfl, Nat.le_of_ble_eq_true rfl, Nat.le_of_ble_eq_true rfl, Nat.le_of_ble_eq_true rfl⟩ dX2_mixedInto_18 (fun r3 V4 hz_5 => ?_)
        refine gG_ret hz_5.1 hz_5.2 ?_
        refine gG_st [.int (nI (c.2 k)), .long (mixL ((List.range k).map (fun j => nI (c.2 j))) d)] rfl ?_
        refine g_callS X hR (As := [.long (mixL ((List.range k).map (fun j => nI (c.2 j))) d), .int (nI (c.2 k))]) (rest := []) mX6_mixed lX2_54 (k_mixed hI V (mixL ((List.range k).map (fun j => nI (c.2 j))) d) (nI (c.2 k)) ) rfl rfl (Nat.le_of_ble_eq_true rfl) ⟨Nat.le_of_ble_eq_true rfl, Nat.le_of_ble_eq_true rfl, Nat.le_of_ble_eq_true rfl, Nat.le_of_ble_eq_true rfl⟩ dX2_mixedInto_21 (fun r6 V7 hz_8 => ?_)
        refine gG_ret hz_8.1 hz_8.2 ?_
        refine gG_st [.long (mix1 (mixL ((List.range k).map (fun j => nI (c.2 j))) d) (nI (c.2 k)))] rfl ?_
        refine gG_st [.long (mixL ((List.range (k + 1)).map (fun j => nI (c.2 j))) d)] (by rw [show (Value.long (mix1 (mixL ((List.range k).map (fun j => nI (c.2 j))) d) (nI (c.2 k)))) = .long (mixL ((List.range (k + 1)).map (fun j => nI (c.2 j))) d) from congrArg _ ((mixL_range _ _ _).symm)]) ?_
        refine g_lstore_n X rfl dX2_mixedInto_24 [(3, .long (mixL ((List.range (k + 1)).map (fun j => nI (c.2 j))) d)), (0, .ref (B.2.1 1 0 0)), (1, .long d), (5, .int (nI k))] rfl (gnl_lt hnL (by decide)) ?_
        refine g_iinc X 3 rfl (nI (k + 1)) (iinc_1 _) dX2_mixedInto_25 [(5, .int (nI (k + 1))), (3, .long (mixL ((List.range (k + 1)).map (fun j => nI (c.2 j))) d)), (0, .ref (B.2.1 1 0 0)), (1, .long d)] rfl (gnl_lt hnL (by decide)) ?_
        refine g_goto X 5 (by decide) dX2_mixedInto_28 ?_
        refine gG_L [2, 3, 1, 0] (L' := [(0, .ref (B.2.1 1 0 0)), (1, .long d), (3, .long (mixL ((List.range (k + 1)).map (fun j => nI (c.2 j))) d)), (5, .int (nI (k + 1)))]) rfl ?_
        refine ih (k + 1) (by omega)
  exact loop c.1 0 (by omega)
abbrev inB (x a c : Int32) : Prop := a ≤ x ∧ x ≤ c
abbrev ixB (x n : Int32) : Prop := 0 ≤ x ∧ x < n
abbrev rmX6_isBetween : Room := { frames := 0, cells := 0, slots := 0, locals := 0 }
set_option maxRecDepth 20000 in
theorem k_isBetween {l : Launch} {B : gB} (hI : gI B) (V : gMem) (x : Int32) (a : Int32) (c : Int32)  : gM l B yX6_isBetween cX6_isBetween 3 (some .boolean) rmX6_isBetween [.int x, .int a, .int c] V (fun v V' => v = some (.int (if inB x a c then 1 else 0)) ∧ V' = V) := by
  refine gM_of (own := RX6) (L := [(0, .int x), (1, .int a), (2, .int c)]) (by decide +kernel) rfl hI (Nat.le_of_ble_eq_true rfl) rfl ?_
  intro Z hnL hR X F
  refine g_iload_n X 0 rfl dX6_isBetween_0 ?_
  refine g_iload_n X 1 rfl dX6_isBetween_1 ?_
  refine g_icmp_lt X 14 (by decide) dX6_isBetween_2 (fun c1 => ?_) (fun c1 => ?_)
  · refine g_iconst X 0 (by decide) dX6_isBetween_14 ?_
    refine g_zret X F rfl ?_ rfl dX6_isBetween_15
    exact ⟨by rw [if_neg (show ¬ inB x a c from fun q => absurd c1 (Int32.not_lt.mpr q.1))], rfl⟩
  · refine g_iload_n X 0 rfl dX6_isBetween_5 ?_
    refine g_iload_n X 2 rfl dX6_isBetween_6 ?_
    refine g_icmp_gt X 14 (by decide) dX6_isBetween_7 (fun c2 => ?_) (fun c2 => ?_)
    · refine g_iconst X 0 (by decide) dX6_isBetween_14 ?_
      refine g_zret X F rfl ?_ rfl dX6_isBetween_15
      exact ⟨by rw [if_neg (show ¬ inB x a c from fun q => absurd c2 (Int32.not_lt.mpr q.2))], rfl⟩
    · refine g_iconst X 1 (by decide) dX6_isBetween_10 ?_
      refine g_goto X 15 (by decide) dX6_isBetween_11 ?_
      refine g_zret X F rfl ?_ rfl dX6_isBetween_15
      exact ⟨by rw [if_pos (show inB x a c from ⟨Int32.not_lt.mp c1, Int32.not_lt.mp c2⟩)], rfl⟩
set_option maxRecDepth 20000 in
theorem k_isIndexD {l : Launch} {B : gB} (hI : gI B) (V : gMem) (x : Int32) (n : Int32)  : gM l B yX6_isIndex cX6_isIndex 2 (some .boolean) rmX6_isIndex [.int x, .int n] V (fun v V' => v = some (.int (if ixB x n then 1 else 0)) ∧ V' = V) := by
  refine gM_of (own := RX6) (L := [(0, .int x), (1, .int n)]) (by decide +kernel) rfl hI (Nat.le_of_ble_eq_true rfl) rfl ?_
  intro Z hnL hR X F
  refine g_iload_n X 0 rfl dX6_isIndex_0 ?_
  refine g_if_lt X 13 (by decide) dX6_isIndex_1 (fun c1 => ?_) (fun c1 => ?_)
  · refine g_iconst X 0 (by decide) dX6_isIndex_13 ?_
    refine g_zret X F rfl ?_ rfl dX6_isIndex_14
    exact ⟨by rw [if_neg (show ¬ ixB x n from fun q => absurd c1 (Int32.not_lt.mpr q.1))], rfl⟩
  · refine g_iload_n X 0 rfl dX6_isIndex_4 ?_
    refine g_iload_n X 1 rfl dX6_isIndex_5 ?_
    refine g_icmp_ge X 13 (by decide) dX6_isIndex_6 (fun c2 => ?_) (fun c2 => ?_)
    · refine g_iconst X 0 (by decide) dX6_isIndex_13 ?_
      refine g_zret X F rfl ?_ rfl dX6_isIndex_14
      exact ⟨by rw [if_neg (show ¬ ixB x n from fun q => absurd c2 (Int32.not_le.mpr q.2))], rfl⟩
    · refine g_iconst X 1 (by decide) dX6_isIndex_9 ?_
      refine g_goto X 14 (by decide) dX6_isIndex_10 ?_
      refine g_zret X F rfl ?_ rfl dX6_isIndex_14
      exact ⟨by rw [if_pos (show ixB x n from ⟨Int32.not_lt.mp c1, Int32.not_le.mp c2⟩)], rfl⟩
theorem ixB_iff {x : Int32} {n : Nat} (hn : n < 2 ^ 31) : ixB x (nI n) ↔ ∃ j : Nat, j < n ∧ x = nI j := by
  constructor
  · rintro ⟨h1, h2⟩
    rcases pk_ix x hn with q | q | q
    · exact absurd q (Int32.not_lt.mpr h1)
    · exact absurd h2 (Int32.not_lt.mpr q)
    · exact q
  · rintro ⟨j, h1, rfl⟩
    exact ⟨nI_pos' (by omega), nI_lt h1 hn⟩
theorem inB_iff {x : Int32} {a n : Nat} (ha : a < 2 ^ 31) (hn : n < 2 ^ 31 - 1) : inB x (nI a) (nI n) ↔ ∃ j : Nat, a ≤ j ∧ j ≤ n ∧ x = nI j := by
  constructor
  · rintro ⟨h1, h2⟩
    rcases pk_ix x (n := n + 1) (by omega) with q | q | ⟨j, q1, q2⟩
    · exact absurd (Int32.lt_of_le_of_lt h1 q) (nI_pos ha)
    · exact absurd (Int32.le_trans q h2) (nI_ge (by omega) (by omega))
    · refine ⟨j, Classical.byContradiction (fun z => ?_), by omega, q2⟩
      rw [q2] at h1
      exact nI_ge (by omega) ha h1
  · rintro ⟨j, h1, h2, rfl⟩
    exact ⟨nI_le h1 (by omega), nI_le h2 (by omega)⟩
theorem inB_ix {x : Int32} {n : Nat} (hn : n < 2 ^ 31 - 1) : inB x 0 (nI n) ↔ ixB x (nI (n + 1)) := by
  rw [show (0 : Int32) = nI 0 from rfl, inB_iff (by decide) hn, ixB_iff (by omega)]
  constructor
  · rintro ⟨j, h1, h2, h3⟩; exact ⟨j, by omega, h3⟩
  · rintro ⟨j, h1, h2⟩; exact ⟨j, by omega, by omega, h2⟩
abbrev gWd : Type := gSt × gCd × (Nat → Nat)
def wOk (w : gWd) : Prop := WF w.1 ∧ CodeOk w.2.1 ∧ ∀ j, j < 20 → w.2.2 j ≤ 9
def COk (V : gMem) (w : gWd) : Prop := AbsC V 0 w.1 ∧ CodeC V w.2.1 ∧ ∀ j, j < 20 → V 4 0 0 j = nI (w.2.2 j)
/-- an answer: 0 or which exception; the value; the world behind -/
abbrev gOu : Type := Nat × Int32 × gWd
def sPB (S : gSt) (p q : Nat) : gSt := sN (sN S 2 p) 3 q
def oBuild (w : gWd) (p q : Int32) : gOu := if inB p 4 30 ∧ inB q 10 500 then (if w.1.2.1 2 = [] then (0, nI (w.1.1 3), (sPB w.1 p.toNatClampNeg q.toNatClampNeg, w.2)) else (2, 0, w)) else (1, 0, w)
def oToll (w : gWd) (p q : Int32) : gOu := if inB p 0 9 ∧ inB q 0 9 then (0, nI (10 * w.1.1 4 + w.1.1 5), (sN (sN w.1 4 p.toNatClampNeg) 5 q.toNatClampNeg, w.2)) else (1, 0, w)
def sTurn (S : gSt) : gSt := sN S 1 (1 - S.1 1)
def oCart (w : gWd) (x what : Int32) : gOu := if ixB x (nI (w.1.1 6)) ∧ ixB what 9 then (0, sTell w.1 x.toNatClampNeg what.toNatClampNeg, w) else (1, 0, w)
def oQueue (w : gWd) (e x : Int32) : gOu := if ixB e 2 ∧ ixB x (nI (w.1.2.1 e.toNatClampNeg).length) then (0, nI ((w.1.2.1 e.toNatClampNeg)[x.toNatClampNeg]?.getD 0), w) else (1, 0, w)
def oBox (w : gWd) (e what : Int32) : gOu := if ixB e 2 ∧ ixB what 4 then (0, gTell w.1 e.toNatClampNeg what.toNatClampNeg, w) else (1, 0, w)
def oEmpty (w : gWd) (e : Int32) : gOu := if ixB e 2 then (0, nI (w.1.2.2.1 e.toNatClampNeg 4), (sG (sG w.1 e.toNatClampNeg 1 0) e.toNatClampNeg 4 0, w.2)) else (1, 0, w)
def oPass (w : gWd) (x : Int32) : gOu := if inB x 1 200 then (0, nI (sRun x.toNatClampNeg w.1).2, ((sRun x.toNatClampNeg w.1).1, w.2)) else (1, 0, w)
theorem sNumOk.turn {S : gSt} (h : sNumOk S) : sNumOk (sTurn S) := by
  obtain ⟨a, b, c, d, e, f⟩ := h
  exact ⟨show 1 - S.1 1 ≤ 1 by omega, b, c, d, e, f⟩
theorem WF.turn {S : gSt} (h : WF S) : WF (sTurn S) := ⟨h.1.turn, h.2.1, h.2.2.1, h.2.2.2.1, h.2.2.2.2.1, h.2.2.2.2.2.1, h.2.2.2.2.2.2.1, h.2.2.2.2.2.2.2⟩
theorem sRun_snoc : ∀ (n : Nat) (S : gSt), (sRun (n + 1) S).1 = (sTick (sRun n S).1).1 ∧ (sRun (n + 1) S).2 = (sRun n S).2 + (sTick (sRun n S).1).2
  | 0, S => ⟨rfl, by show (sTick S).2 + 0 = 0 + (sTick S).2; omega⟩
  | n + 1, S => by
    obtain ⟨h1, h2⟩ := sRun_snoc n (sTick S).1
    refine ⟨h1, ?_⟩
    show (sTick S).2 + (sRun (n + 1) (sTick S).1).2 = (sTick S).2 + (sRun n (sTick S).1).2 + (sTick (sRun n (sTick S).1).1).2
    rw [h2]; omega
theorem run_cnt : ∀ (n : Nat) {S : gSt}, WF S → sCnt (sRun n S).1 2 = sCnt S 2 + (sRun n S).2
  | 0, S, _ => rfl
  | n + 1, S, h => by
    show sCnt (sRun n (sTick S).1).1 2 = sCnt S 2 + ((sTick S).2 + (sRun n (sTick S).1).2)
    rw [run_cnt n h.tick, tick_cnt h]
    show sCnt S 2 + (sMove S).2 + _ = sCnt S 2 + ((sMove S).2 + _)
    omega
theorem len_cnt {p : Nat → Bool} : ∀ (n : Nat) {l : List Nat}, l.Nodup → (∀ i, i ∈ l ↔ (i < n ∧ p i = true)) → l.length = cntF p n
  | 0, l, hn, h => by
    cases l with
    | nil => rfl
    | cons a l => exact absurd ((h a).mp List.mem_cons_self).1 (Nat.not_lt_zero _)
  | n + 1, l, hn, h => by
    unfold cntF
    by_cases hp : p n = true
    · have hm : n ∈ l := (h n).mpr ⟨Nat.lt_succ_self n, hp⟩
      have h1 := len_cnt n (l := l.erase n) (hn.erase n) (fun i => by
        rw [List.Nodup.mem_erase_iff hn, h i]
        constructor
        · rintro ⟨a, c, d⟩; exact ⟨by omega, d⟩
        · rintro ⟨a, c⟩; exact ⟨by omega, by omega, c⟩)
      have h2 := List.length_erase_of_mem hm
      have h3 := List.length_pos_of_mem hm
      rw [if_pos hp]
      omega
    · rw [if_neg hp, Nat.add_zero]
      refine len_cnt n hn (fun i => ?_)
      rw [h i]
      constructor
      · rintro ⟨a, c⟩
        have : i ≠ n := fun q => hp (q ▸ c)
        exact ⟨by omega, c⟩
      · rintro ⟨a, c⟩; exact ⟨by omega, c⟩
theorem WF.onlen {S : gSt} (h : WF S) : (S.2.1 2).length = sCnt S 1 := len_cnt _ h.ne (fun i => by rw [h.2.2.2.2.1 i, decide_eq_true_eq])
/-- away for ever -/
theorem tick_3 {S : gSt} (h : WF S) {i : Nat} (hi3 : S.2.2.2.1 i 8 = 3) : (sTick S).1.2.2.2.1 i 8 = 3 := by
  have hnm : i ∉ S.2.1 2 := fun q => by have := ((h.2.2.2.2.1 i).mp q).2; omega
  have hm : (sMove S).1.2.2.2.1 i 8 = 3 := by
    unfold sMove
    split
    · exact hi3
    · split
      · show (goOnL (S.1 2) (S.1 0) (S.2.1 2) (S.1 2 + 4) S).1.2.2.2.1 i 8 = 3
        rw [((goOnL_same (S.1 2) (S.1 0) (S.2.1 2) (S.1 2 + 4) S).2.2.2.2 i hnm).1 8]
        exact hi3
      · show (sGoBack S).2.2.2.1 i 8 = 3
        rcases List.eq_nil_or_concat (S.2.1 2) with hq | ⟨ys, l, hq⟩
        · unfold sGoBack
          rw [hq]
          exact hi3
        · have hq : S.2.1 2 = ys ++ [l] := hq.trans (List.concat_eq_append ..)
          have hrev : (S.2.1 2).reverse = l :: ys.reverse := by rw [hq]; simp
          have hil : i ≠ l := fun q => hnm (by rw [hq, q]; simp)
          have hn := nodup_rev h.ne
          rw [hrev] at hn
          unfold sGoBack
          rw [hrev]
          simp only []
          split
          · rw [(backL_spec ys.reverse _ (List.nodup_cons.mp hn).2).2.2.2.2.1 i 8 (by decide), sLeave_eq]
            show (if i = l ∧ 8 = 8 then 0 else S.2.2.2.1 i 8) = 3
            rw [if_neg (fun q => hil q.1)]
            exact hi3
          · rw [(backL_spec (l :: ys.reverse) S hn).2.2.2.2.1 i 8 (by decide)]
            exact hi3
  have h1 := h.move
  show (sCome (sMove S).1).2.2.2.1 i 8 = 3
  generalize (sMove S).1 = T at hm h1
  cases hq : T.2.1 (T.1 1) with
  | nil => rw [sCome_nil hq]; exact hm
  | cons c ys =>
    have hc8 : T.2.2.2.1 c 8 = 0 := (h1.qmem (e := T.1 1) (by have := h1.1.1; omega) (by rw [hq]; exact List.mem_cons_self)).2.1
    have hic : i ≠ c := fun q => by rw [q] at hm; omega
    by_cases hroom : sRoom T c = true
    · rw [sCome_eq hq hroom]
      split
      · show (if i = c ∧ 8 = 8 then 3 else T.2.2.2.1 i 8) = 3
        rw [if_neg (fun q => hic q.1)]; exact hm
      · show (if i = c ∧ 8 = 9 then 0 else if i = c ∧ 8 = 8 then 1 else (if (sQ T (T.1 1) ys).2.2.2.1 c 7 = 0 then sPay (sQ T (T.1 1) ys) (T.1 1) c else sQ T (T.1 1) ys).2.2.2.1 i 8) = 3
        rw [if_neg (by omega), if_neg (by omega)]
        split
        · rw [(sPay_c (sQ T (T.1 1) ys) (T.1 1) c).1 i 8 (by decide) (by decide)]; exact hm
        · exact hm
    · rw [sCome_no hq (by simpa using hroom)]; exact hm
def ovF (i : Nat) : Nat → Nat → gSt → Int32
  | 0, _, _ => -1
  | f + 1, k, S => if S.2.2.2.1 i 8 = 2 then nI k else ovF i f (k + 1) (sTick S).1
theorem ovF_3 {i : Nat} : ∀ (f k : Nat) {S : gSt}, WF S → S.2.2.2.1 i 8 = 3 → ovF i f k S = -1
  | 0, _, _, _, _ => rfl
  | f + 1, k, S, h, h3 => by
    rw [ovF, if_neg (by omega)]
    exact ovF_3 f (k + 1) h.tick (tick_3 h h3)
def oOver (w : gWd) (x : Int32) : gOu := if ixB x (nI (w.1.1 6)) then (0, ovF x.toNatClampNeg 201 0 w.1, w) else (1, 0, w)
def kpF (S : gSt) (k : Nat) : Nat := (sRun k S).2 + (sRun (60 - k) (sTurn (sRun k S).1)).2
def kpL (S : gSt) : Nat → Nat × Int32
  | 0 => ((sRun 60 S).2, -1)
  | k + 1 => if (kpL S k).1 < kpF S k then (kpF S k, nI k) else kpL S k
def oKeep (w : gWd) : Int32 := (kpL w.1 60).2
def fsV (S : gSt) (n what : Nat) : Int32 := match what with
  | 0 => nI (sRun n S).2
  | 1 => nI ((sRun n S).1.2.2.1 0 1 + (sRun n S).1.2.2.1 1 1) - nI (S.2.2.1 0 1 + S.2.2.1 1 1)
  | _ => nI ((sRun n S).1.2.1 2).length
def oSee (w : gWd) (p q : Int32) : gOu := if inB p 1 100 then (if inB q 0 2 then (0, fsV w.1 p.toNatClampNeg q.toNatClampNeg, w) else (2, 0, w)) else (1, 0, w)
theorem sub2 (a x y : Int32) : a - x - y = a - (x + y) := by
  rw [Int32.sub_eq_add_neg, Int32.sub_eq_add_neg, Int32.sub_eq_add_neg, Int32.neg_add, Int32.sub_eq_add_neg, Int32.add_assoc]
theorem sTick_6 {S : gSt} (h : WF S) : (sTick S).1.1 6 = S.1 6 := by
  unfold sTick
  simp only [sN]
  rw [if_neg (by decide), sCome_num, sMove_num h]
theorem kpL_0 (S : gSt) : kpL S 0 = ((sRun 60 S).2, -1) := by rw [kpL]
theorem kpL_s (S : gSt) (k : Nat) : kpL S (k + 1) = if (kpL S k).1 < kpF S k then (kpF S k, nI k) else kpL S k := by rw [kpL]
theorem sRun_le {S : gSt} (h : WF S) (n : Nat) : (sRun n S).2 ≤ 16 := by
  have h1 := run_cnt n h
  have h2 := cntF_le (fun i => decide ((sRun n S).1.2.2.2.1 i 8 = 2)) ((sRun n S).1.1 6)
  have h3 := (h.run n).1.2.2.2.2.2
  unfold sCnt at h1
  omega
theorem kpF_le {S : gSt} (h : WF S) (k : Nat) : kpF S k ≤ 32 := by
  have h1 := sRun_le h k
  have h2 := sRun_le ((WF.run k h).turn) (60 - k)
  unfold kpF
  omega
theorem kpL_le {S : gSt} (h : WF S) : ∀ k, (kpL S k).1 ≤ 32
  | 0 => by
    rw [kpL_0]
    have := sRun_le h 60
    show (sRun 60 S).2 ≤ 32
    omega
  | k + 1 => by
    rw [kpL_s]
    split
    · exact kpF_le h k
    · exact kpL_le h k
