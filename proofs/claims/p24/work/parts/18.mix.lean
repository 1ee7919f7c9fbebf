/-! the checksum's sums -/
def mix1 (d : Int64) (x : Int32) : Int64 := d * 31 + x.toInt64
def mixL (xs : List Int32) (d : Int64) : Int64 := xs.foldl mix1 d
theorem mixL_add (xs : List Int32) (x : Int32) (d : Int64) : mixL (xs ++ [x]) d = mix1 (mixL xs d) x := by simp [mixL]
theorem mixL_app (xs ys : List Int32) (d : Int64) : mixL (xs ++ ys) d = mixL ys (mixL xs d) := by simp [mixL]
theorem mixL_range (f : Nat → Int32) (k : Nat) (d : Int64) : mixL ((List.range (k + 1)).map f) d = mix1 (mixL ((List.range k).map f) d) (f k) := by
  rw [List.range_succ, List.map_append]
  exact mixL_add _ _ _
theorem mixL_take {xs : List Nat} {j i : Nat} (h : xs[j]? = some i) (d : Int64) : mixL ((xs.take (j + 1)).map nI) d = mix1 (mixL ((xs.take j).map nI) d) (nI i) := by
  rw [List.take_add_one, h]
  simp only [Option.toList_some, List.map_append, List.map_cons, List.map_nil]
  exact mixL_add _ _ _
def gateL (S : gSt) (e : Nat) : List Int32 := (List.range 4).map (gTell S e) ++ (S.2.1 e).map nI
def cartL (S : gSt) (i : Nat) : List Int32 := (List.range 9).map (sTell S i)
def cartsL (S : gSt) (n : Nat) : List Int32 := (List.range n).flatMap (cartL S)
theorem cartsL_0 (S : gSt) (d : Int64) : mixL (cartsL S 0) d = d := rfl
theorem mixL_0 (f : Nat → Int32) (d : Int64) : mixL ((List.range 0).map f) d = d := rfl
theorem mixL_take0 (xs : List Nat) (d : Int64) : mixL ((xs.take 0).map nI) d = d := rfl
theorem cartsL_succ (S : gSt) (n : Nat) : cartsL S (n + 1) = cartsL S n ++ cartL S n := by simp [cartsL, List.range_succ]

abbrev rmX6_mixed : Room := { frames := 0, cells := 0, slots := 0, locals := 0 }
set_option maxRecDepth 20000 in
theorem k_mixed {l : Launch} {B : gB} (hI : gI B) (V : gMem) (x : Int64) (y : Int32)  : gM l B yX6_mixed cX6_mixed 3 (some .long) rmX6_mixed [.long x, .int y] V (fun v V' => v = some (.long (mix1 x y)) ∧ V' = V) := by
  refine gM_of (own := RX6) (L := [(0, .long x), (2, .int y)]) (by decide +kernel) rfl hI (Nat.le_of_ble_eq_true rfl) rfl ?_
  intro Z hnL hR X F
  refine g_lload_n X 0 rfl dX6_mixed_0 ?_
  refine g_ldc2 X 31 qK_X6_250 dX6_mixed_1 ?_
  refine g_lmul X dX6_mixed_4 ?_
  refine g_iload_n X 1 rfl dX6_mixed_5 ?_
  refine g_i2l X dX6_mixed_6 ?_
  refine g_ladd X dX6_mixed_7 ?_
  refine g_lret X F ?_ rfl dX6_mixed_8
  exact ⟨rfl, rfl⟩

abbrev rmX3_mixedInto : Room := { frames := 2, cells := 0, slots := 0, locals := 42 }
set_option maxRecDepth 20000 in
theorem k_gmix {l : Launch} {B : gB} (hI : gI B) (V : gMem) (b : Nat) (S : gSt) (e : Nat) (d : Int64) (hb : b < 3) (hS : AbsC V b S) (he : e < 2) : gM l B yX3_mixedInto cX3_mixedInto 6 (some .long) rmX3_mixedInto [.ref (B.2.1 12 b e), .long d] V (fun v V' => v = some (.long (mixL (gateL S e) d)) ∧ V' = V) := by
  refine gM_of (own := RX3) (L := [(0, .ref (B.2.1 12 b e)), (1, .long d)]) (by decide +kernel) rfl hI (Nat.le_of_ble_eq_true rfl) rfl ?_
  intro Z hnL hR X F
  have hlen : (S.2.1 e).length ≤ 16 := hS.bnd (by omega)
  refine g_lload_n X 1 rfl dX3_mixedInto_0 ?_
  refine g_lstore_n X rfl dX3_mixedInto_1 [(3, .long d), (0, .ref (B.2.1 12 b e)), (1, .long d)] rfl (gnl_lt hnL (by decide)) ?_
  refine g_iconst X 0 (by decide) dX3_mixedInto_2 ?_
  refine g_istore X dX3_mixedInto_3 [(5, .int 0), (3, .long d), (0, .ref (B.2.1 12 b e)), (1, .long d)] rfl (gnl_lt hnL (by decide)) ?_
  refine gG_L [2, 3, 1, 0] (L' := [(0, .ref (B.2.1 12 b e)), (1, .long d), (3, .long d), (5, .int 0)]) rfl ?_
  have loop : ∀ (f : Nat) (k : Nat) , k + f = 4 →  gG Z B (0, 0) V 5 [(0, .ref (B.2.1 12 b e)), (1, .long d), (3, .long (mixL ((List.range k).map (gTell S e)) d)), (5, .int (nI k))] [] := by
    intro f
    induction f with
    | zero =>
      intro k  hf 
      refine g_iload X 3 rfl dX3_mixedInto_5 ?_
      refine g_iconst X 4 (by decide) dX3_mixedInto_7 ?_
      refine g_icmp_ge X 28 (by decide) dX3_mixedInto_8 (fun c1 => ?_) (fun c1 => ?_)
      · refine g_iconst X 0 (by decide) dX3_mixedInto_28 ?_
        refine g_istore X dX3_mixedInto_29 [(5, .int 0), (0, .ref (B.2.1 12 b e)), (1, .long d), (3, .long (mixL ((List.range k).map (gTell S e)) d))] rfl (gnl_lt hnL (by decide)) ?_
        refine gG_L [1, 2, 3, 0] (L' := [(0, .ref (B.2.1 12 b e)), (1, .long d), (3, .long (mixL ((List.range k).map (gTell S e)) d)), (5, .int 0)]) rfl ?_
        refine gG_Le [(0, .ref (B.2.1 12 b e)), (1, .long d), (3, .long (mixL (((S.2.1 e).take 0).map nI) (mixL ((List.range k).map (gTell S e)) d))), (5, .int (nI 0))] (by rw [mixL_take0]; rfl) ?_
        have loop2 : ∀ (f : Nat) (j : Nat) , j + f = (S.2.1 e).length →  gG Z B (0, 0) V 31 [(0, .ref (B.2.1 12 b e)), (1, .long d), (3, .long (mixL (((S.2.1 e).take j).map nI) (mixL ((List.range k).map (gTell S e)) d))), (5, .int (nI j))] [] := by
          intro f
          induction f with
          | zero =>
            intro j  hf 
            refine g_iload X 3 rfl dX3_mixedInto_31 ?_
            refine g_aload_n X 0 rfl dX3_mixedInto_33 ?_
            refine gg_X3_waiting X (gP_12 (by first | assumption | decide | omega) (by first | assumption | decide | omega)) fX3_12 dX3_mixedInto_34 ?_
            refine gg_X5_size X (gP_13 (by first | assumption | decide | omega) (by first | assumption | decide | omega)) fX3_34 dX3_mixedInto_37 ?_
            refine gG_top (nI (S.2.1 e).length) ((hS.2.1 e (by first | decide | omega)).1) ?_
            refine g_icmp_ge X 63 (by decide) dX3_mixedInto_40 (fun c2 => ?_) (fun c2 => ?_)
            · refine g_lload_n X 2 rfl dX3_mixedInto_63 ?_
              refine g_lret X F ?_ rfl dX3_mixedInto_64
              exact ⟨by rw [show mixL (gateL S e) d = mixL (((S.2.1 e).take j).map nI) (mixL ((List.range k).map (gTell S e)) d) by rw [gateL, mixL_app, List.take_of_length_le (by omega), show k = 4 by omega]], rfl⟩
            · first | exact absurd (nI_le (by omega) (by omega)) c2 | exact absurd c2 (nI_le (by omega) (by omega))
          | succ f ih =>
            intro j  hf 
            obtain ⟨i, hgi⟩ := get_some (xs := S.2.1 e) (j := j) (by omega)
            refine g_iload X 3 rfl dX3_mixedInto_31 ?_
            refine g_aload_n X 0 rfl dX3_mixedInto_33 ?_
            refine gg_X3_waiting X (gP_12 (by first | assumption | decide | omega) (by first | assumption | decide | omega)) fX3_12 dX3_mixedInto_34 ?_
            refine gg_X5_size X (gP_13 (by first | assumption | decide | omega) (by first | assumption | decide | omega)) fX3_34 dX3_mixedInto_37 ?_
            refine gG_top (nI (S.2.1 e).length) ((hS.2.1 e (by first | decide | omega)).1) ?_
            refine g_icmp_ge X 63 (by decide) dX3_mixedInto_40 (fun c3 => ?_) (fun c3 => ?_)
            · first | exact absurd (nI_ge (by omega) (by omega)) c3 | exact absurd c3 (nI_ge (by omega) (by omega))
            · refine g_lload_n X 2 rfl dX3_mixedInto_43 ?_
              refine g_aload_n X 0 rfl dX3_mixedInto_44 ?_
              refine gg_X3_waiting X (gP_12 (by first | assumption | decide | omega) (by first | assumption | decide | omega)) fX3_12 dX3_mixedInto_45 ?_
              refine g_iload X 3 rfl dX3_mixedInto_48 ?_
              refine g_callV X hR (rest := [.long (mixL (((S.2.1 e).take j).map nI) (mixL ((List.range k).map (gTell S e)) d))]) mX5_at lX3_45 (k_at hI V b e (S.2.1 e) j (by first | assumption | decide | omega) (by omega) (hS.2.1 e (by omega)) (by omega)) rfl rfl (Nat.le_of_ble_eq_true rfl) (gP_13 (by first | assumption | decide | omega) (by first | assumption | decide | omega)) rfl rfl rfl ⟨Nat.le_of_ble_eq_true rfl, Nat.le_of_ble_eq_true rfl, Nat.le_of_ble_eq_true rfl, Nat.le_of_ble_eq_true rfl⟩ dX3_mixedInto_50 (fun r4 V5 hz_6 => ?_)
              refine gG_ret hz_6.1 hz_6.2 ?_
              refine gG_st [.int (lat (S.2.1 e) j), .long (mixL (((S.2.1 e).take j).map nI) (mixL ((List.range k).map (gTell S e)) d))] rfl ?_
              refine gG_top (nI i) (lat_some hgi) ?_
              refine g_callS X hR (As := [.long (mixL (((S.2.1 e).take j).map nI) (mixL ((List.range k).map (gTell S e)) d)), .int (nI i)]) (rest := []) mX6_mixed lX3_41 (k_mixed hI V (mixL (((S.2.1 e).take j).map nI) (mixL ((List.range k).map (gTell S e)) d)) (nI i) ) rfl rfl (Nat.le_of_ble_eq_true rfl) ⟨Nat.le_of_ble_eq_true rfl, Nat.le_of_ble_eq_true rfl, Nat.le_of_ble_eq_true rfl, Nat.le_of_ble_eq_true rfl⟩ dX3_mixedInto_53 (fun r7 V8 hz_9 => ?_)
              refine gG_ret hz_9.1 hz_9.2 ?_
              refine gG_st [.long (mix1 (mixL (((S.2.1 e).take j).map nI) (mixL ((List.range k).map (gTell S e)) d)) (nI i))] rfl ?_
              refine gG_st [.long (mixL (((S.2.1 e).take (j + 1)).map nI) (mixL ((List.range k).map (gTell S e)) d))] (by rw [show (Value.long (mix1 (mixL (((S.2.1 e).take j).map nI) (mixL ((List.range k).map (gTell S e)) d)) (nI i))) = .long (mixL (((S.2.1 e).take (j + 1)).map nI) (mixL ((List.range k).map (gTell S e)) d)) from congrArg _ ((mixL_take hgi _).symm)]) ?_
              refine g_lstore_n X rfl dX3_mixedInto_56 [(3, .long (mixL (((S.2.1 e).take (j + 1)).map nI) (mixL ((List.range k).map (gTell S e)) d))), (0, .ref (B.2.1 12 b e)), (1, .long d), (5, .int (nI j))] rfl (gnl_lt hnL (by decide)) ?_
              refine g_iinc X 3 rfl (nI (j + 1)) (iinc_1 _) dX3_mixedInto_57 [(5, .int (nI (j + 1))), (3, .long (mixL (((S.2.1 e).take (j + 1)).map nI) (mixL ((List.range k).map (gTell S e)) d))), (0, .ref (B.2.1 12 b e)), (1, .long d)] rfl (gnl_lt hnL (by decide)) ?_
              refine g_goto X 31 (by decide) dX3_mixedInto_60 ?_
              refine gG_L [2, 3, 1, 0] (L' := [(0, .ref (B.2.1 12 b e)), (1, .long d), (3, .long (mixL (((S.2.1 e).take (j + 1)).map nI) (mixL ((List.range k).map (gTell S e)) d))), (5, .int (nI (j + 1)))]) rfl ?_
              refine ih (j + 1) (by omega)
        exact loop2 (S.2.1 e).length 0 (by omega)
      · first | exact absurd (nI_le (a := 4) (by omega) (by omega)) c1 | exact absurd c1 (nI_le (a := 4) (by omega) (by omega))
    | succ f ih =>
      intro k  hf 
      refine g_iload X 3 rfl dX3_mixedInto_5 ?_
      refine g_iconst X 4 (by decide) dX3_mixedInto_7 ?_
      refine g_icmp_ge X 28 (by decide) dX3_mixedInto_8 (fun c10 => ?_) (fun c10 => ?_)
      · first | exact absurd (nI_ge (b := 4) (by omega) (by decide)) c10 | exact absurd c10 (nI_ge (b := 4) (by omega) (by decide))
      · refine g_lload_n X 2 rfl dX3_mixedInto_11 ?_
        refine g_aload_n X 0 rfl dX3_mixedInto_12 ?_
        refine g_iload X 3 rfl dX3_mixedInto_13 ?_
        refine g_callV X hR (rest := [.long (mixL ((List.range k).map (gTell S e)) d)]) mX3_tell lX3_37 (k_gtell hI V b S e k (by first | assumption | decide | omega) hS (by first | assumption | decide | omega) (by omega)) rfl rfl (Nat.le_of_ble_eq_true rfl) (gP_12 (by first | assumption | decide | omega) (by first | assumption | decide | omega)) rfl rfl rfl ⟨Nat.le_of_ble_eq_true rfl, Nat.le_of_ble_eq_true rfl, Nat.le_of_ble_eq_true rfl, Nat.le_of_ble_eq_true rfl⟩ dX3_mixedInto_15 (fun r11 V12 hz_13 => ?_)
        refine gG_ret hz_13.1 hz_13.2 ?_
        refine gG_st [.int (gTell S e k), .long (mixL ((List.range k).map (gTell S e)) d)] rfl ?_
        refine g_callS X hR (As := [.long (mixL ((List.range k).map (gTell S e)) d), .int (gTell S e k)]) (rest := []) mX6_mixed lX3_41 (k_mixed hI V (mixL ((List.range k).map (gTell S e)) d) (gTell S e k) ) rfl rfl (Nat.le_of_ble_eq_true rfl) ⟨Nat.le_of_ble_eq_true rfl, Nat.le_of_ble_eq_true rfl, Nat.le_of_ble_eq_true rfl, Nat.le_of_ble_eq_true rfl⟩ dX3_mixedInto_18 (fun r14 V15 hz_16 => ?_)
        refine gG_ret hz_16.1 hz_16.2 ?_
        refine gG_st [.long (mix1 (mixL ((List.range k).map (gTell S e)) d) (gTell S e k))] rfl ?_
        refine gG_st [.long (mixL ((List.range (k + 1)).map (gTell S e)) d)] (by rw [show (Value.long (mix1 (mixL ((List.range k).map (gTell S e)) d) (gTell S e k))) = .long (mixL ((List.range (k + 1)).map (gTell S e)) d) from congrArg _ ((mixL_range _ _ _).symm)]) ?_
        refine g_lstore_n X rfl dX3_mixedInto_21 [(3, .long (mixL ((List.range (k + 1)).map (gTell S e)) d)), (0, .ref (B.2.1 12 b e)), (1, .long d), (5, .int (nI k))] rfl (gnl_lt hnL (by decide)) ?_
        refine g_iinc X 3 rfl (nI (k + 1)) (iinc_1 _) dX3_mixedInto_22 [(5, .int (nI (k + 1))), (3, .long (mixL ((List.range (k + 1)).map (gTell S e)) d)), (0, .ref (B.2.1 12 b e)), (1, .long d)] rfl (gnl_lt hnL (by decide)) ?_
        refine g_goto X 5 (by decide) dX3_mixedInto_25 ?_
        refine gG_L [2, 3, 1, 0] (L' := [(0, .ref (B.2.1 12 b e)), (1, .long d), (3, .long (mixL ((List.range (k + 1)).map (gTell S e)) d)), (5, .int (nI (k + 1)))]) rfl ?_
        refine ih (k + 1) (by omega)
  exact loop 4 0 (by omega)

abbrev rmX0_mixedInto : Room := { frames := 3, cells := 0, slots := 0, locals := 67 }
set_option maxRecDepth 20000 in
theorem k_bmix {l : Launch} {B : gB} (hI : gI B) (V : gMem) (b : Nat) (S : gSt) (d : Int64) (hb : b < 3) (hS : AbsC V b S) (hn : S.1 6 ≤ 16) (hc : ∀ i, i < S.1 6 → sCartOk S i) (hpl : ∀ i, i < S.1 6 → S.2.2.2.1 i 8 = 1 → S.2.2.2.1 i 9 < S.1 2) : gM l B yX0_mixedInto cX0_mixedInto 8 (some .long) rmX0_mixedInto [.ref (B.2.1 10 b 0), .long d] V (fun v V' => v = some (.long (mixL (cartsL S (S.1 6)) (mixL (gateL S 1) (mixL (gateL S 0) d)))) ∧ V' = V) := by
  refine gM_of (own := RX0) (L := [(0, .ref (B.2.1 10 b 0)), (1, .long d)]) (by decide +kernel) rfl hI (Nat.le_of_ble_eq_true rfl) rfl ?_
  intro Z hnL hR X F
  refine g_aload_n X 0 rfl dX0_mixedInto_0 ?_
  refine gg_X0_secondGate X (gP_10 (by first | assumption | decide | omega)) fX0_37 dX0_mixedInto_1 ?_
  refine g_aload_n X 0 rfl dX0_mixedInto_4 ?_
  refine gg_X0_firstGate X (gP_10 (by first | assumption | decide | omega)) fX0_33 dX0_mixedInto_5 ?_
  refine g_lload_n X 1 rfl dX0_mixedInto_8 ?_
  refine g_callV X hR (rest := [.ref (B.2.1 12 b 1)]) mX3_mixedInto lX0_111 (k_gmix hI V b S 0 d (by first | assumption | decide | omega) hS (by first | assumption | decide | omega)) rfl rfl (Nat.le_of_ble_eq_true rfl) (gP_12 (by first | assumption | decide | omega) (by first | assumption | decide | omega)) rfl rfl rfl ⟨Nat.le_of_ble_eq_true rfl, Nat.le_of_ble_eq_true rfl, Nat.le_of_ble_eq_true rfl, Nat.le_of_ble_eq_true rfl⟩ dX0_mixedInto_9 (fun r1 V2 hz_3 => ?_)
  refine gG_ret hz_3.1 hz_3.2 ?_
  refine gG_st [.long (mixL (gateL S 0) d), .ref (B.2.1 12 b 1)] rfl ?_
  refine g_callV X hR (rest := []) mX3_mixedInto lX0_111 (k_gmix hI V b S 1 (mixL (gateL S 0) d) (by first | assumption | decide | omega) hS (by first | assumption | decide | omega)) rfl rfl (Nat.le_of_ble_eq_true rfl) (gP_12 (by first | assumption | decide | omega) (by first | assumption | decide | omega)) rfl rfl rfl ⟨Nat.le_of_ble_eq_true rfl, Nat.le_of_ble_eq_true rfl, Nat.le_of_ble_eq_true rfl, Nat.le_of_ble_eq_true rfl⟩ dX0_mixedInto_12 (fun r4 V5 hz_6 => ?_)
  refine gG_ret hz_6.1 hz_6.2 ?_
  refine gG_st [.long (mixL (gateL S 1) (mixL (gateL S 0) d))] rfl ?_
  refine g_lstore_n X rfl dX0_mixedInto_15 [(3, .long (mixL (gateL S 1) (mixL (gateL S 0) d))), (0, .ref (B.2.1 10 b 0)), (1, .long d)] rfl (gnl_lt hnL (by decide)) ?_
  refine g_iconst X 0 (by decide) dX0_mixedInto_16 ?_
  refine g_istore X dX0_mixedInto_17 [(5, .int 0), (3, .long (mixL (gateL S 1) (mixL (gateL S 0) d))), (0, .ref (B.2.1 10 b 0)), (1, .long d)] rfl (gnl_lt hnL (by decide)) ?_
  refine gG_L [2, 3, 1, 0] (L' := [(0, .ref (B.2.1 10 b 0)), (1, .long d), (3, .long (mixL (gateL S 1) (mixL (gateL S 0) d))), (5, .int 0)]) rfl ?_
  refine gG_Le [(0, .ref (B.2.1 10 b 0)), (1, .long d), (3, .long (mixL (cartsL S 0) (mixL (gateL S 1) (mixL (gateL S 0) d)))), (5, .int (nI 0))] (by rw [cartsL_0]; rfl) ?_
  have loop : ∀ (f : Nat) (i : Nat) , i + f = S.1 6 →  gG Z B (0, 0) V 19 [(0, .ref (B.2.1 10 b 0)), (1, .long d), (3, .long (mixL (cartsL S i) (mixL (gateL S 1) (mixL (gateL S 0) d)))), (5, .int (nI i))] [] := by
    intro f
    induction f with
    | zero =>
      intro i  hf 
      refine g_iload X 3 rfl dX0_mixedInto_19 ?_
      refine g_aload_n X 0 rfl dX0_mixedInto_21 ?_
      refine gg_X0_cartCount X (gP_10 (by first | assumption | decide | omega)) fX0_50 dX0_mixedInto_22 ?_
      refine gG_top (nI (S.1 6)) (hS.1 6 (by decide)) ?_
      refine g_icmp_ge X 76 (by decide) dX0_mixedInto_25 (fun c7 => ?_) (fun c7 => ?_)
      · refine g_lload_n X 2 rfl dX0_mixedInto_76 ?_
        refine g_lret X F ?_ rfl dX0_mixedInto_77
        exact ⟨by rw [show i = S.1 6 by omega], rfl⟩
      · first | exact absurd (nI_le (by omega) (by omega)) c7 | exact absurd c7 (nI_le (by omega) (by omega))
    | succ f ih =>
      intro i  hf 
      have hiN : i < S.1 6 := by omega
      have hci := hc i hiN
      refine g_iload X 3 rfl dX0_mixedInto_19 ?_
      refine g_aload_n X 0 rfl dX0_mixedInto_21 ?_
      refine gg_X0_cartCount X (gP_10 (by first | assumption | decide | omega)) fX0_50 dX0_mixedInto_22 ?_
      refine gG_top (nI (S.1 6)) (hS.1 6 (by decide)) ?_
      refine g_icmp_ge X 76 (by decide) dX0_mixedInto_25 (fun c8 => ?_) (fun c8 => ?_)
      · first | exact absurd (nI_ge (by omega) (by omega)) c8 | exact absurd c8 (nI_ge (by omega) (by omega))
      · refine g_aload_n X 0 rfl dX0_mixedInto_28 ?_
        refine g_iload X 3 rfl dX0_mixedInto_29 ?_
        refine g_callV X hR (rest := []) mX0_cartAt lX0_57 (k_cartAt hI V b S i (by first | assumption | decide | omega) hS (by first | assumption | decide | omega) hiN) rfl rfl (Nat.le_of_ble_eq_true rfl) (gP_10 (by first | assumption | decide | omega)) rfl rfl rfl ⟨Nat.le_of_ble_eq_true rfl, Nat.le_of_ble_eq_true rfl, Nat.le_of_ble_eq_true rfl, Nat.le_of_ble_eq_true rfl⟩ dX0_mixedInto_31 (fun r9 V10 hz_11 => ?_)
        refine gG_ret hz_11.1 hz_11.2 ?_
        refine gG_st [.ref (B.2.1 15 b i)] rfl ?_
        refine g_astore X dX0_mixedInto_34 [(6, .ref (B.2.1 15 b i)), (0, .ref (B.2.1 10 b 0)), (1, .long d), (3, .long (mixL (cartsL S i) (mixL (gateL S 1) (mixL (gateL S 0) d)))), (5, .int (nI i))] rfl (gnl_lt hnL (by decide)) ?_
        refine g_iconst X 0 (by decide) dX0_mixedInto_36 ?_
        refine g_istore X dX0_mixedInto_37 [(7, .int 0), (6, .ref (B.2.1 15 b i)), (0, .ref (B.2.1 10 b 0)), (1, .long d), (3, .long (mixL (cartsL S i) (mixL (gateL S 1) (mixL (gateL S 0) d)))), (5, .int (nI i))] rfl (gnl_lt hnL (by decide)) ?_
        refine gG_L [2, 3, 4, 5, 1, 0] (L' := [(0, .ref (B.2.1 10 b 0)), (1, .long d), (3, .long (mixL (cartsL S i) (mixL (gateL S 1) (mixL (gateL S 0) d)))), (5, .int (nI i)), (6, .ref (B.2.1 15 b i)), (7, .int 0)]) rfl ?_
        refine gG_Le [(0, .ref (B.2.1 10 b 0)), (1, .long d), (3, .long (mixL ((List.range 0).map (sTell S i)) (mixL (cartsL S i) (mixL (gateL S 1) (mixL (gateL S 0) d))))), (5, .int (nI i)), (6, .ref (B.2.1 15 b i)), (7, .int (nI 0))] (by rw [mixL_0]; rfl) ?_
        have loop2 : ∀ (f : Nat) (k : Nat) , k + f = 9 →  gG Z B (0, 0) V 39 [(0, .ref (B.2.1 10 b 0)), (1, .long d), (3, .long (mixL ((List.range k).map (sTell S i)) (mixL (cartsL S i) (mixL (gateL S 1) (mixL (gateL S 0) d))))), (5, .int (nI i)), (6, .ref (B.2.1 15 b i)), (7, .int (nI k))] [] := by
          intro f
          induction f with
          | zero =>
            intro k  hf 
            refine g_aload X 4 rfl dX0_mixedInto_39 ?_
            refine g_ifnull X dX0_mixedInto_41 ?_
            refine g_iload X 5 rfl dX0_mixedInto_44 ?_
            refine g_bipush X 9 (by decide) dX0_mixedInto_46 ?_
            refine g_icmp_ge X 70 (by decide) dX0_mixedInto_48 (fun c12 => ?_) (fun c12 => ?_)
            · refine gG_L [0, 1, 2, 3] (L' := [(0, .ref (B.2.1 10 b 0)), (1, .long d), (3, .long (mixL ((List.range k).map (sTell S i)) (mixL (cartsL S i) (mixL (gateL S 1) (mixL (gateL S 0) d))))), (5, .int (nI i))]) rfl ?_
              refine gG_Le [(0, .ref (B.2.1 10 b 0)), (1, .long d), (3, .long (mixL (cartsL S (i + 1)) (mixL (gateL S 1) (mixL (gateL S 0) d)))), (5, .int (nI i))] (by rw [cartsL_succ, mixL_app, show k = 9 by omega]; rfl) ?_
              refine g_iinc X 3 rfl (nI (i + 1)) (iinc_1 _) dX0_mixedInto_70 [(5, .int (nI (i + 1))), (0, .ref (B.2.1 10 b 0)), (1, .long d), (3, .long (mixL (cartsL S (i + 1)) (mixL (gateL S 1) (mixL (gateL S 0) d))))] rfl (gnl_lt hnL (by decide)) ?_
              refine g_goto X 19 (by decide) dX0_mixedInto_73 ?_
              refine gG_L [1, 2, 3, 0] (L' := [(0, .ref (B.2.1 10 b 0)), (1, .long d), (3, .long (mixL (cartsL S (i + 1)) (mixL (gateL S 1) (mixL (gateL S 0) d)))), (5, .int (nI (i + 1)))]) rfl ?_
              refine ih (i + 1) (by omega)
            · first | exact absurd (nI_le (a := 9) (by omega) (by omega)) c12 | exact absurd c12 (nI_le (a := 9) (by omega) (by omega))
          | succ f ih =>
            intro k  hf 
            refine g_aload X 4 rfl dX0_mixedInto_39 ?_
            refine g_ifnull X dX0_mixedInto_41 ?_
            refine g_iload X 5 rfl dX0_mixedInto_44 ?_
            refine g_bipush X 9 (by decide) dX0_mixedInto_46 ?_
            refine g_icmp_ge X 70 (by decide) dX0_mixedInto_48 (fun c13 => ?_) (fun c13 => ?_)
            · first | exact absurd (nI_ge (b := 9) (by omega) (by decide)) c13 | exact absurd c13 (nI_ge (b := 9) (by omega) (by decide))
            · refine g_lload_n X 2 rfl dX0_mixedInto_51 ?_
              refine g_aload_n X 0 rfl dX0_mixedInto_52 ?_
              refine g_aload X 4 rfl dX0_mixedInto_53 ?_
              refine g_iload X 5 rfl dX0_mixedInto_55 ?_
              refine g_callV X hR (rest := [.long (mixL ((List.range k).map (sTell S i)) (mixL (cartsL S i) (mixL (gateL S 1) (mixL (gateL S 0) d))))]) mX0_tellCart lX0_115 (k_tellCart hI V b S i k (by first | assumption | decide | omega) hS (by first | assumption | decide | omega) hiN hci (hpl i hiN) (by omega)) rfl rfl (Nat.le_of_ble_eq_true rfl) (gP_10 (by first | assumption | decide | omega)) rfl rfl rfl ⟨Nat.le_of_ble_eq_true rfl, Nat.le_of_ble_eq_true rfl, Nat.le_of_ble_eq_true rfl, Nat.le_of_ble_eq_true rfl⟩ dX0_mixedInto_57 (fun r14 V15 hz_16 => ?_)
              refine gG_ret hz_16.1 hz_16.2 ?_
              refine gG_st [.int (sTell S i k), .long (mixL ((List.range k).map (sTell S i)) (mixL (cartsL S i) (mixL (gateL S 1) (mixL (gateL S 0) d))))] rfl ?_
              refine g_callS X hR (As := [.long (mixL ((List.range k).map (sTell S i)) (mixL (cartsL S i) (mixL (gateL S 1) (mixL (gateL S 0) d)))), .int (sTell S i k)]) (rest := []) mX6_mixed lX0_119 (k_mixed hI V (mixL ((List.range k).map (sTell S i)) (mixL (cartsL S i) (mixL (gateL S 1) (mixL (gateL S 0) d)))) (sTell S i k) ) rfl rfl (Nat.le_of_ble_eq_true rfl) ⟨Nat.le_of_ble_eq_true rfl, Nat.le_of_ble_eq_true rfl, Nat.le_of_ble_eq_true rfl, Nat.le_of_ble_eq_true rfl⟩ dX0_mixedInto_60 (fun r17 V18 hz_19 => ?_)
              refine gG_ret hz_19.1 hz_19.2 ?_
              refine gG_st [.long (mix1 (mixL ((List.range k).map (sTell S i)) (mixL (cartsL S i) (mixL (gateL S 1) (mixL (gateL S 0) d)))) (sTell S i k))] rfl ?_
              refine gG_st [.long (mixL ((List.range (k + 1)).map (sTell S i)) (mixL (cartsL S i) (mixL (gateL S 1) (mixL (gateL S 0) d))))] (by rw [show (Value.long (mix1 (mixL ((List.range k).map (sTell S i)) (mixL (cartsL S i) (mixL (gateL S 1) (mixL (gateL S 0) d)))) (sTell S i k))) = .long (mixL ((List.range (k + 1)).map (sTell S i)) (mixL (cartsL S i) (mixL (gateL S 1) (mixL (gateL S 0) d)))) from congrArg _ ((mixL_range _ _ _).symm)]) ?_
              refine g_lstore_n X rfl dX0_mixedInto_63 [(3, .long (mixL ((List.range (k + 1)).map (sTell S i)) (mixL (cartsL S i) (mixL (gateL S 1) (mixL (gateL S 0) d))))), (0, .ref (B.2.1 10 b 0)), (1, .long d), (5, .int (nI i)), (6, .ref (B.2.1 15 b i)), (7, .int (nI k))] rfl (gnl_lt hnL (by decide)) ?_
              refine g_iinc X 5 rfl (nI (k + 1)) (iinc_1 _) dX0_mixedInto_64 [(7, .int (nI (k + 1))), (3, .long (mixL ((List.range (k + 1)).map (sTell S i)) (mixL (cartsL S i) (mixL (gateL S 1) (mixL (gateL S 0) d))))), (0, .ref (B.2.1 10 b 0)), (1, .long d), (5, .int (nI i)), (6, .ref (B.2.1 15 b i))] rfl (gnl_lt hnL (by decide)) ?_
              refine g_goto X 39 (by decide) dX0_mixedInto_67 ?_
              refine gG_L [2, 3, 1, 4, 5, 0] (L' := [(0, .ref (B.2.1 10 b 0)), (1, .long d), (3, .long (mixL ((List.range (k + 1)).map (sTell S i)) (mixL (cartsL S i) (mixL (gateL S 1) (mixL (gateL S 0) d))))), (5, .int (nI i)), (6, .ref (B.2.1 15 b i)), (7, .int (nI (k + 1)))]) rfl ?_
              refine ih (k + 1) (by omega)
        exact loop2 9 0 (by omega)
  exact loop (S.1 6) 0 (by omega)

abbrev rmX0_newCart : Room := { frames := 2, cells := 0, slots := 0, locals := 42 }
set_option maxRecDepth 20000 in
theorem k_newCart {l : Launch} {B : gB} (hI : gI B) (V : gMem) (b : Nat) (S : gSt) (hb : b < 3) (hS : AbsC V b S) (hn : S.1 6 < 16) : gM l B yX0_newCart cX0_newCart 1 (some (.object "FogBridge$Cart")) rmX0_newCart [.ref (B.2.1 10 b 0)] V (fun v V' => v = some (.ref (B.2.1 15 b (S.1 6))) ∧ V' = gup V 10 b 0 6 (nI (S.1 6 + 1))) := by
  refine gM_of (own := RX0) (L := [(0, .ref (B.2.1 10 b 0))]) (by decide +kernel) rfl hI (Nat.le_of_ble_eq_true rfl) rfl ?_
  intro Z hnL hR X F
  refine g_aload_n X 0 rfl dX0_newCart_0 ?_
  refine gg_X0_cartCount X (gP_10 (by first | assumption | decide | omega)) fX0_50 dX0_newCart_1 ?_
  refine gG_top (nI (S.1 6)) (hS.1 6 (by decide)) ?_
  refine g_aload_n X 0 rfl dX0_newCart_4 ?_
  refine gg_X0_carts X (gP_10 (by first | assumption | decide | omega)) fX0_26 dX0_newCart_5 ?_
  refine g_alenC X (by first | assumption | decide | omega) dX0_newCart_8 ?_
  refine g_icmp_lt X 14 (by decide) dX0_newCart_9 (fun c1 => ?_) (fun c1 => ?_)
  · refine g_aload_n X 0 rfl dX0_newCart_14 ?_
    refine g_dup X rfl dX0_newCart_15 ?_
    refine gg_X0_cartCount X (gP_10 (by first | assumption | decide | omega)) fX0_50 dX0_newCart_16 ?_
    refine gG_top (nI (S.1 6)) (hS.1 6 (by decide)) ?_
    refine g_iconst X 1 (by decide) dX0_newCart_19 ?_
    refine g_iadd X dX0_newCart_20 ?_
    refine gG_top (nI ((S.1 6) + 1)) (nI_1 _) ?_
    refine gp_X0_cartCount X (gP_10 (by first | assumption | decide | omega)) fX0_50 dX0_newCart_21 ?_
    refine gG_nm (fun V2 hV2 => ?_)
    refine g_aload_n X 0 rfl dX0_newCart_24 ?_
    refine g_aload_n X 0 rfl dX0_newCart_25 ?_
    refine gg_X0_cartCount X (gP_10 (by first | assumption | decide | omega)) fX0_50 dX0_newCart_26 ?_
    refine gG_top (nI (S.1 6 + 1)) (by rw [hV2]; exact gup_eq) ?_
    refine g_iconst X 1 (by decide) dX0_newCart_29 ?_
    refine g_isub X dX0_newCart_30 ?_
    refine gG_top (nI (S.1 6)) (nI_pred _) ?_
    refine g_callV X hR (rest := []) mX0_cartAt lX0_57 (k_cartAtN hI V2 b (S.1 6 + 1) (S.1 6) (by first | assumption | decide | omega) (by rw [hV2]; exact gup_eq) (by omega) (by omega)) rfl rfl (Nat.le_of_ble_eq_true rfl) (gP_10 (by first | assumption | decide | omega)) rfl rfl rfl ⟨Nat.le_of_ble_eq_true rfl, Nat.le_of_ble_eq_true rfl, Nat.le_of_ble_eq_true rfl, Nat.le_of_ble_eq_true rfl⟩ dX0_newCart_31 (fun r3 V4 hz_5 => ?_)
    refine gG_ret hz_5.1 hz_5.2 ?_
    refine gG_st [.ref (B.2.1 15 b (S.1 6))] rfl ?_
    refine g_aret X F (Or.inr ⟨_, rfl⟩) ?_ rfl dX0_newCart_34
    exact ⟨rfl, hV2⟩
  · first | exact absurd (nI_lt (b := 16) hn (by decide)) c1 | exact absurd c1 (nI_lt (b := 16) hn (by decide))

set_option maxRecDepth 20000 in
theorem k_newCart16 {l : Launch} {B : gB} (hI : gI B) (V : gMem) (b : Nat) (S : gSt) (hb : b < 3) (hS : AbsC V b S) (hn : S.1 6 = 16) : gM l B yX0_newCart cX0_newCart 1 (some (.object "FogBridge$Cart")) rmX0_newCart [.ref (B.2.1 10 b 0)] V (fun v V' => v = some .null ∧ V' = V) := by
  refine gM_of (own := RX0) (L := [(0, .ref (B.2.1 10 b 0))]) (by decide +kernel) rfl hI (Nat.le_of_ble_eq_true rfl) rfl ?_
  intro Z hnL hR X F
  refine g_aload_n X 0 rfl dX0_newCart_0 ?_
  refine gg_X0_cartCount X (gP_10 (by first | assumption | decide | omega)) fX0_50 dX0_newCart_1 ?_
  refine gG_top (nI (S.1 6)) (hS.1 6 (by decide)) ?_
  refine g_aload_n X 0 rfl dX0_newCart_4 ?_
  refine gg_X0_carts X (gP_10 (by first | assumption | decide | omega)) fX0_26 dX0_newCart_5 ?_
  refine g_alenC X (by first | assumption | decide | omega) dX0_newCart_8 ?_
  refine g_icmp_lt X 14 (by decide) dX0_newCart_9 (fun c1 => ?_) (fun c1 => ?_)
  · first | exact absurd (nI_nlt (a := S.1 6) (b := 16) (by omega) (by omega)) c1 | exact absurd c1 (nI_nlt (a := S.1 6) (b := 16) (by omega) (by omega))
  · refine g_null X dX0_newCart_12 ?_
    refine g_aret X F (Or.inl rfl) ?_ rfl dX0_newCart_13
    exact ⟨rfl, rfl⟩

