abbrev rmX0_gateAt : Room := { frames := 0, cells := 0, slots := 0, locals := 0 }
set_option maxRecDepth 20000 in
theorem k_gateAt {l : Launch} {B : gB} (hI : gI B) (V : gMem) (b : Nat) (e : Nat) (hb : b < 3) (he : e < 2) : gM l B yX0_gateAt cX0_gateAt 2 (some (.object "FogBridge$Gate")) rmX0_gateAt [.ref (B.2.1 10 b 0), .int (nI e)] V (fun v V' => v = some (.ref (B.2.1 12 b e)) ∧ V' = V) := by
  refine gM_of (own := RX0) (L := [(0, .ref (B.2.1 10 b 0)), (1, .int (nI e))]) (by decide +kernel) rfl hI (Nat.le_of_ble_eq_true rfl) rfl ?_
  intro Z hnL hR X F
  refine g_iload_n X 1 rfl dX0_gateAt_0 ?_
  by_cases h0 : e = 0
  · skip
    refine g_if_ne X 11 (by decide) dX0_gateAt_1 (fun c1 => ?_) (fun c1 => ?_)
    · first | exact absurd (fun q => q (by rw [h0]; rfl)) c1 | exact absurd c1 (fun q => q (by rw [h0]; rfl))
    · refine g_aload_n X 0 rfl dX0_gateAt_4 ?_
      refine gg_X0_firstGate X (gP_10 (by first | assumption | decide | omega)) fX0_33 dX0_gateAt_5 ?_
      refine g_goto X 15 (by decide) dX0_gateAt_8 ?_
      refine g_aret X F (Or.inr ⟨_, rfl⟩) ?_ rfl dX0_gateAt_15
      exact ⟨by rw [h0], rfl⟩
  · have h1 : e = 1 := by omega
    refine g_if_ne X 11 (by decide) dX0_gateAt_1 (fun c2 => ?_) (fun c2 => ?_)
    · refine g_aload_n X 0 rfl dX0_gateAt_11 ?_
      refine gg_X0_secondGate X (gP_10 (by first | assumption | decide | omega)) fX0_37 dX0_gateAt_12 ?_
      refine g_aret X F (Or.inr ⟨_, rfl⟩) ?_ rfl dX0_gateAt_15
      exact ⟨by rw [h1], rfl⟩
    · first | exact absurd (nI_ne0 (by omega) (by omega)) c2 | exact absurd c2 (nI_ne0 (by omega) (by omega))

abbrev rmX0_cartAt : Room := { frames := 1, cells := 0, slots := 0, locals := 21 }
set_option maxRecDepth 20000 in
theorem k_cartAt {l : Launch} {B : gB} (hI : gI B) (V : gMem) (b : Nat) (S : gSt) (i : Nat) (hb : b < 3) (hS : AbsC V b S) (hn : S.1 6 ≤ 16) (hi : i < S.1 6) : gM l B yX0_cartAt cX0_cartAt 2 (some (.object "FogBridge$Cart")) rmX0_cartAt [.ref (B.2.1 10 b 0), .int (nI i)] V (fun v V' => v = some (.ref (B.2.1 15 b i)) ∧ V' = V) := by
  refine gM_of (own := RX0) (L := [(0, .ref (B.2.1 10 b 0)), (1, .int (nI i))]) (by decide +kernel) rfl hI (Nat.le_of_ble_eq_true rfl) rfl ?_
  intro Z hnL hR X F
  refine g_iload_n X 1 rfl dX0_cartAt_0 ?_
  refine g_aload_n X 0 rfl dX0_cartAt_1 ?_
  refine gg_X0_cartCount X (gP_10 (by first | assumption | decide | omega)) fX0_50 dX0_cartAt_2 ?_
  refine gG_top (nI (S.1 6)) (hS.1 6 (by decide)) ?_
  refine g_icmp_ge X 29 (by decide) dX0_cartAt_5 (fun c1 => ?_) (fun c1 => ?_)
  · first | exact absurd (nI_ge hi (by omega)) c1 | exact absurd c1 (nI_ge hi (by omega))
  · have hi16 : i < 16 := by omega
    refine g_iload_n X 1 rfl dX0_cartAt_8 ?_
    refine g_aload_n X 0 rfl dX0_cartAt_9 ?_
    refine gg_X0_carts X (gP_10 (by first | assumption | decide | omega)) fX0_26 dX0_cartAt_10 ?_
    refine g_alenC X (by first | assumption | decide | omega) dX0_cartAt_13 ?_
    refine g_callS X hR (As := [.int (nI i), .int 16]) (rest := []) mX6_isIndex lX0_53 (k_isIndex1 hI V (nI i) 16 (nI_pos' (by omega)) (nI_lt (b := 16) hi16 (by decide))) rfl rfl (Nat.le_of_ble_eq_true rfl) ⟨Nat.le_of_ble_eq_true rfl, Nat.le_of_ble_eq_true rfl, Nat.le_of_ble_eq_true rfl, Nat.le_of_ble_eq_true rfl⟩ dX0_cartAt_14 (fun r2 V3 hz_4 => ?_)
    refine gG_ret hz_4.1 hz_4.2 ?_
    refine gG_st [.int 1] rfl ?_
    refine g_if_eq X 29 (by decide) dX0_cartAt_17 (fun c5 => ?_) (fun c5 => ?_)
    ·  exact absurd c5 (by decide)
    · refine g_aload_n X 0 rfl dX0_cartAt_20 ?_
      refine gg_X0_carts X (gP_10 (by first | assumption | decide | omega)) fX0_26 dX0_cartAt_21 ?_
      refine g_iload_n X 1 rfl dX0_cartAt_24 ?_
      refine g_aaldC X (i) rfl hi16 (by first | assumption | decide | omega) dX0_cartAt_25 ?_
      refine g_goto X 30 (by decide) dX0_cartAt_26 ?_
      refine g_aret X F (Or.inr ⟨_, rfl⟩) ?_ rfl dX0_cartAt_30
      exact ⟨rfl, rfl⟩

set_option maxRecDepth 20000 in
theorem k_cartAtm {l : Launch} {B : gB} (hI : gI B) (V : gMem) (b : Nat) (S : gSt) (hb : b < 3) (hS : AbsC V b S) (hn : S.1 6 ≤ 16) : gM l B yX0_cartAt cX0_cartAt 2 (some (.object "FogBridge$Cart")) rmX0_cartAt [.ref (B.2.1 10 b 0), .int ((-1))] V (fun v V' => v = some .null ∧ V' = V) := by
  refine gM_of (own := RX0) (L := [(0, .ref (B.2.1 10 b 0)), (1, .int ((-1)))]) (by decide +kernel) rfl hI (Nat.le_of_ble_eq_true rfl) rfl ?_
  intro Z hnL hR X F
  refine g_iload_n X 1 rfl dX0_cartAt_0 ?_
  refine g_aload_n X 0 rfl dX0_cartAt_1 ?_
  refine gg_X0_cartCount X (gP_10 (by first | assumption | decide | omega)) fX0_50 dX0_cartAt_2 ?_
  refine gG_top (nI (S.1 6)) (hS.1 6 (by decide)) ?_
  refine g_icmp_ge X 29 (by decide) dX0_cartAt_5 (fun c1 => ?_) (fun c1 => ?_)
  · first | exact absurd (fun q => absurd (Int32.le_trans (nI_pos' (by omega)) q) (by decide)) c1 | exact absurd c1 (fun q => absurd (Int32.le_trans (nI_pos' (by omega)) q) (by decide))
  · refine g_iload_n X 1 rfl dX0_cartAt_8 ?_
    refine g_aload_n X 0 rfl dX0_cartAt_9 ?_
    refine gg_X0_carts X (gP_10 (by first | assumption | decide | omega)) fX0_26 dX0_cartAt_10 ?_
    refine g_alenC X (by first | assumption | decide | omega) dX0_cartAt_13 ?_
    refine g_callS X hR (As := [.int ((-1)), .int 16]) (rest := []) mX6_isIndex lX0_53 (k_isIndexN hI V (-1) 16 (by decide)) rfl rfl (Nat.le_of_ble_eq_true rfl) ⟨Nat.le_of_ble_eq_true rfl, Nat.le_of_ble_eq_true rfl, Nat.le_of_ble_eq_true rfl, Nat.le_of_ble_eq_true rfl⟩ dX0_cartAt_14 (fun r2 V3 hz_4 => ?_)
    refine gG_ret hz_4.1 hz_4.2 ?_
    refine gG_st [.int 0] rfl ?_
    refine g_if_eq X 29 (by decide) dX0_cartAt_17 (fun c5 => ?_) (fun c5 => ?_)
    · refine g_null X dX0_cartAt_29 ?_
      refine g_aret X F (Or.inl rfl) ?_ rfl dX0_cartAt_30
      exact ⟨rfl, rfl⟩
    ·  exact absurd c5 (by decide)

set_option maxRecDepth 20000 in
theorem k_cartAtout {l : Launch} {B : gB} (hI : gI B) (V : gMem) (b : Nat) (S : gSt) (x : Int32) (hb : b < 3) (hS : AbsC V b S) (hn : S.1 6 ≤ 16) (hx : ¬ (0 ≤ x ∧ x < nI (S.1 6))) : gM l B yX0_cartAt cX0_cartAt 2 (some (.object "FogBridge$Cart")) rmX0_cartAt [.ref (B.2.1 10 b 0), .int x] V (fun v V' => v = some .null ∧ V' = V) := by
  refine gM_of (own := RX0) (L := [(0, .ref (B.2.1 10 b 0)), (1, .int x)]) (by decide +kernel) rfl hI (Nat.le_of_ble_eq_true rfl) rfl ?_
  intro Z hnL hR X F
  refine g_iload_n X 1 rfl dX0_cartAt_0 ?_
  refine g_aload_n X 0 rfl dX0_cartAt_1 ?_
  refine gg_X0_cartCount X (gP_10 (by first | assumption | decide | omega)) fX0_50 dX0_cartAt_2 ?_
  refine gG_top (nI (S.1 6)) (hS.1 6 (by decide)) ?_
  refine g_icmp_ge X 29 (by decide) dX0_cartAt_5 (fun c1 => ?_) (fun c1 => ?_)
  · refine g_null X dX0_cartAt_29 ?_
    refine g_aret X F (Or.inl rfl) ?_ rfl dX0_cartAt_30
    exact ⟨rfl, rfl⟩
  · refine g_iload_n X 1 rfl dX0_cartAt_8 ?_
    refine g_aload_n X 0 rfl dX0_cartAt_9 ?_
    refine gg_X0_carts X (gP_10 (by first | assumption | decide | omega)) fX0_26 dX0_cartAt_10 ?_
    refine g_alenC X (by first | assumption | decide | omega) dX0_cartAt_13 ?_
    have hx0 : x < 0 := Int32.not_le.mp fun q => hx ⟨q, Int32.not_le.mp c1⟩
    refine g_callS X hR (As := [.int x, .int 16]) (rest := []) mX6_isIndex lX0_53 (k_isIndexN hI V x 16 hx0) rfl rfl (Nat.le_of_ble_eq_true rfl) ⟨Nat.le_of_ble_eq_true rfl, Nat.le_of_ble_eq_true rfl, Nat.le_of_ble_eq_true rfl, Nat.le_of_ble_eq_true rfl⟩ dX0_cartAt_14 (fun r2 V3 hz_4 => ?_)
    refine gG_ret hz_4.1 hz_4.2 ?_
    refine gG_st [.int 0] rfl ?_
    refine g_if_eq X 29 (by decide) dX0_cartAt_17 (fun c5 => ?_) (fun c5 => ?_)
    · refine g_null X dX0_cartAt_29 ?_
      refine g_aret X F (Or.inl rfl) ?_ rfl dX0_cartAt_30
      exact ⟨rfl, rfl⟩
    ·  exact absurd c5 (by decide)

def sToll (S : gSt) (ax wt : Nat) : Nat := ax * S.1 4 + wt / 10 * S.1 5

abbrev rmX0_tollFor : Room := { frames := 0, cells := 0, slots := 0, locals := 0 }
set_option maxRecDepth 20000 in
theorem k_tollFor {l : Launch} {B : gB} (hI : gI B) (V : gMem) (b : Nat) (S : gSt) (ax : Nat) (wt : Nat) (hb : b < 3) (hS : AbsC V b S) (hw : wt < 2 ^ 31) : gM l B yX0_tollFor cX0_tollFor 3 (some .int) rmX0_tollFor [.ref (B.2.1 10 b 0), .int (nI ax), .int (nI wt)] V (fun v V' => v = some (.int (nI (sToll S ax wt))) ∧ V' = V) := by
  refine gM_of (own := RX0) (L := [(0, .ref (B.2.1 10 b 0)), (1, .int (nI ax)), (2, .int (nI wt))]) (by decide +kernel) rfl hI (Nat.le_of_ble_eq_true rfl) rfl ?_
  intro Z hnL hR X F
  refine g_iload_n X 1 rfl dX0_tollFor_0 ?_
  refine g_aload_n X 0 rfl dX0_tollFor_1 ?_
  refine gg_X0_axleToll X (gP_10 (by first | assumption | decide | omega)) fX0_18 dX0_tollFor_2 ?_
  refine gG_top (nI (S.1 4)) (hS.1 4 (by decide)) ?_
  refine g_imul X dX0_tollFor_5 ?_
  refine gG_top (nI (ax * (S.1 4))) (pk_mul ax (S.1 4)) ?_
  refine g_iload_n X 2 rfl dX0_tollFor_6 ?_
  refine g_bipush X 10 (by decide) dX0_tollFor_7 ?_
  refine g_idiv X (by decide) dX0_tollFor_9 ?_
  refine gG_top (nI (wt / 10)) (pk_div (d := 10) hw (by decide) (by decide)) ?_
  refine g_aload_n X 0 rfl dX0_tollFor_10 ?_
  refine gg_X0_tenToll X (gP_10 (by first | assumption | decide | omega)) fX0_21 dX0_tollFor_11 ?_
  refine gG_top (nI (S.1 5)) (hS.1 5 (by decide)) ?_
  refine g_imul X dX0_tollFor_14 ?_
  refine gG_top (nI ((wt / 10) * (S.1 5))) (pk_mul (wt / 10) (S.1 5)) ?_
  refine g_iadd X dX0_tollFor_15 ?_
  refine gG_top (nI ((ax * (S.1 4)) + ((wt / 10) * (S.1 5)))) (nI_add (ax * (S.1 4)) ((wt / 10) * (S.1 5))) ?_
  refine g_iret X F ?_ rfl dX0_tollFor_16
  exact ⟨rfl, rfl⟩

def sTake (S : gSt) (e i pd hn : Nat) : gSt :=
  let S1 := sG S e 1 (S.2.2.1 e 1 + pd)
  let S2 := sG S1 e 2 (S1.2.2.1 e 2 + 1)
  let S3 := sG S2 e 3 (S2.2.2.1 e 3 + S2.2.2.2.1 i 2)
  sG S3 e 4 (S3.2.2.1 e 4 + (hn - pd))

abbrev rmX3_take : Room := { frames := 0, cells := 0, slots := 0, locals := 0 }
set_option maxRecDepth 20000 in
theorem k_take {l : Launch} {B : gB} (hI : gI B) (V : gMem) (b : Nat) (S : gSt) (e : Nat) (i : Nat) (pd : Nat) (hn : Nat) (hb : b < 3) (hS : AbsC V b S) (he : e < 2) (hi : i < S.1 6) (hN : S.1 6 ≤ 16) (hp : pd ≤ hn) : gM l B yX3_take cX3_take 4 none rmX3_take [.ref (B.2.1 12 b e), .ref (B.2.1 15 b i), .int (nI pd), .int (nI hn)] V (fun v V' => v = none ∧ AbsC V' b (sTake S e i pd hn) ∧ brmod V V' b) := by
  refine gM_of (own := RX3) (L := [(0, .ref (B.2.1 12 b e)), (1, .ref (B.2.1 15 b i)), (2, .int (nI pd)), (3, .int (nI hn))]) (by decide +kernel) rfl hI (Nat.le_of_ble_eq_true rfl) rfl ?_
  intro Z hnL hR X F
  refine g_aload_n X 0 rfl dX3_take_0 ?_
  refine g_dup X rfl dX3_take_1 ?_
  refine gg_X3_coins X (gP_12 (by first | assumption | decide | omega) (by first | assumption | decide | omega)) fX3_18 dX3_take_2 ?_
  refine gG_top (nI (S.2.2.1 e 1)) (hS.2.2.1 e (by first | assumption | decide | omega) 1 (by decide) (by decide)) ?_
  refine g_iload_n X 2 rfl dX3_take_5 ?_
  refine g_iadd X dX3_take_6 ?_
  refine gG_top (nI ((S.2.2.1 e 1) + pd)) (nI_add (S.2.2.1 e 1) pd) ?_
  refine gp_X3_coins X (gP_12 (by first | assumption | decide | omega) (by first | assumption | decide | omega)) fX3_18 dX3_take_7 ?_
  refine gG_nm (fun V1 hV1 => ?_)
  obtain ⟨S2, eS2⟩ : ∃ y, y = sG S e 1 ((S.2.2.1 e 1) + pd) := ⟨_, rfl⟩
  have hS2 : AbsC V1 b S2 := by rw [eS2, hV1]; exact hS.setG e 1 ((S.2.2.1 e 1) + pd)
  have mS2 : brmod V V1 b := by rw [hV1]; exact brmod.rf.up (by decide) (by decide)
  have nS2 : S2.1 = S.1 := by rw [eS2]; exact rfl
  refine g_aload_n X 0 rfl dX3_take_10 ?_
  refine g_dup X rfl dX3_take_11 ?_
  refine gg_X3_payers X (gP_12 (by first | assumption | decide | omega) (by first | assumption | decide | omega)) fX3_22 dX3_take_12 ?_
  refine gG_top (nI (S2.2.2.1 e 2)) (hS2.2.2.1 e (by first | assumption | decide | omega) 2 (by decide) (by decide)) ?_
  refine g_iconst X 1 (by decide) dX3_take_15 ?_
  refine g_iadd X dX3_take_16 ?_
  refine gG_top (nI ((S2.2.2.1 e 2) + 1)) (nI_1 _) ?_
  refine gp_X3_payers X (gP_12 (by first | assumption | decide | omega) (by first | assumption | decide | omega)) fX3_22 dX3_take_17 ?_
  refine gG_nm (fun V3 hV3 => ?_)
  obtain ⟨S4, eS4⟩ : ∃ y, y = sG S2 e 2 ((S2.2.2.1 e 2) + 1) := ⟨_, rfl⟩
  have hS4 : AbsC V3 b S4 := by rw [eS4, hV3]; exact hS2.setG e 2 ((S2.2.2.1 e 2) + 1)
  have mS4 : brmod V V3 b := by rw [hV3]; exact mS2.up (by decide) (by decide)
  have nS4 : S4.1 = S.1 := by rw [eS4]; exact nS2
  refine g_aload_n X 0 rfl dX3_take_20 ?_
  refine g_dup X rfl dX3_take_21 ?_
  refine gg_X3_axles X (gP_12 (by first | assumption | decide | omega) (by first | assumption | decide | omega)) fX3_25 dX3_take_22 ?_
  refine gG_top (nI (S4.2.2.1 e 3)) (hS4.2.2.1 e (by first | assumption | decide | omega) 3 (by decide) (by decide)) ?_
  refine g_aload_n X 1 rfl dX3_take_25 ?_
  refine gg_X1_axles X (gP_15 (by first | assumption | decide | omega) (by first | assumption | decide | omega)) fX3_28 dX3_take_26 ?_
  refine gG_top (nI (S4.2.2.2.1 i 2)) (hS4.2.2.2.1 i (by rw [nS4]; first | assumption | omega) 2 (by decide) (by decide)) ?_
  refine g_iadd X dX3_take_29 ?_
  refine gG_top (nI ((S4.2.2.1 e 3) + (S4.2.2.2.1 i 2))) (nI_add (S4.2.2.1 e 3) (S4.2.2.2.1 i 2)) ?_
  refine gp_X3_axles X (gP_12 (by first | assumption | decide | omega) (by first | assumption | decide | omega)) fX3_25 dX3_take_30 ?_
  refine gG_nm (fun V5 hV5 => ?_)
  obtain ⟨S6, eS6⟩ : ∃ y, y = sG S4 e 3 ((S4.2.2.1 e 3) + (S4.2.2.2.1 i 2)) := ⟨_, rfl⟩
  have hS6 : AbsC V5 b S6 := by rw [eS6, hV5]; exact hS4.setG e 3 ((S4.2.2.1 e 3) + (S4.2.2.2.1 i 2))
  have mS6 : brmod V V5 b := by rw [hV5]; exact mS4.up (by decide) (by decide)
  have nS6 : S6.1 = S.1 := by rw [eS6]; exact nS4
  refine g_aload_n X 0 rfl dX3_take_33 ?_
  refine g_dup X rfl dX3_take_34 ?_
  refine gg_X3_keptByCheats X (gP_12 (by first | assumption | decide | omega) (by first | assumption | decide | omega)) fX3_31 dX3_take_35 ?_
  refine gG_top (nI (S6.2.2.1 e 4)) (hS6.2.2.1 e (by first | assumption | decide | omega) 4 (by decide) (by decide)) ?_
  refine g_iload_n X 3 rfl dX3_take_38 ?_
  refine g_iload_n X 2 rfl dX3_take_39 ?_
  refine g_isub X dX3_take_40 ?_
  refine gG_top (nI (hn - pd)) (pk_sub hp) ?_
  refine g_iadd X dX3_take_41 ?_
  refine gG_top (nI ((S6.2.2.1 e 4) + (hn - pd))) (nI_add (S6.2.2.1 e 4) (hn - pd)) ?_
  refine gp_X3_keptByCheats X (gP_12 (by first | assumption | decide | omega) (by first | assumption | decide | omega)) fX3_31 dX3_take_42 ?_
  refine gG_nm (fun V7 hV7 => ?_)
  obtain ⟨S8, eS8⟩ : ∃ y, y = sG S6 e 4 ((S6.2.2.1 e 4) + (hn - pd)) := ⟨_, rfl⟩
  have hS8 : AbsC V7 b S8 := by rw [eS8, hV7]; exact hS6.setG e 4 ((S6.2.2.1 e 4) + (hn - pd))
  have mS8 : brmod V V7 b := by rw [hV7]; exact mS6.up (by decide) (by decide)
  have nS8 : S8.1 = S.1 := by rw [eS8]; exact nS6
  refine g_vret X F ?_ rfl dX3_take_45
  subst eS8 eS6 eS4 eS2
  exact ⟨rfl, hS8, mS8⟩

def sDue (S : gSt) (i : Nat) : Nat := if S.2.2.2.1 i 6 = 0 then sToll S (S.2.2.2.1 i 2) (S.2.2.2.1 i 3) else sToll S 1 (S.2.2.2.1 i 3)
def sPay (S : gSt) (e i : Nat) : gSt := sTake (sC (sC S i 5 (S.2.2.2.1 i 5 - sDue S i)) i 7 1) e i (sDue S i) (sToll S (S.2.2.2.1 i 2) (S.2.2.2.1 i 3))
/-- the bounds that the document sets a cart and the tolls -/
def sCartOk (S : gSt) (i : Nat) : Prop := S.2.2.2.1 i 1 ≤ 1 ∧ (1 ≤ S.2.2.2.1 i 2 ∧ S.2.2.2.1 i 2 ≤ 4) ∧ S.2.2.2.1 i 3 ≤ 200 ∧ (1 ≤ S.2.2.2.1 i 4 ∧ S.2.2.2.1 i 4 ≤ 3) ∧ S.2.2.2.1 i 5 ≤ 100 ∧ S.2.2.2.1 i 6 ≤ 1 ∧ S.2.2.2.1 i 7 ≤ 1 ∧ S.2.2.2.1 i 8 ≤ 3
def sNumOk (S : gSt) : Prop := S.1 1 ≤ 1 ∧ (4 ≤ S.1 2 ∧ S.1 2 ≤ 30) ∧ S.1 3 ≤ 500 ∧ S.1 4 ≤ 9 ∧ S.1 5 ≤ 9 ∧ S.1 6 ≤ 16
theorem sToll_le {S : gSt} (h : sNumOk S) {a w : Nat} (ha : a ≤ 4) (hw : w ≤ 200) : sToll S a w ≤ 216 := by
  obtain ⟨-, -, -, h4, h5, -⟩ := h
  have h1 : a * S.1 4 ≤ 4 * 9 := Nat.mul_le_mul ha h4
  have h2 : w / 10 * S.1 5 ≤ 20 * 9 := Nat.mul_le_mul (by omega) h5
  unfold sToll
  omega
theorem sToll_one {S : gSt} {a w : Nat} (ha : 1 ≤ a) : sToll S 1 w ≤ sToll S a w := by
  unfold sToll
  have : 1 * S.1 4 ≤ a * S.1 4 := Nat.mul_le_mul_right _ ha
  omega
theorem sDue_le {S : gSt} {i : Nat} (h : sCartOk S i) : sDue S i ≤ sToll S (S.2.2.2.1 i 2) (S.2.2.2.1 i 3) := by
  unfold sDue
  split
  · exact Nat.le_refl _
  · exact sToll_one h.2.1.1
theorem sDue_216 {S : gSt} {i : Nat} (hn : sNumOk S) (h : sCartOk S i) : sDue S i ≤ 216 := Nat.le_trans (sDue_le h) (sToll_le hn h.2.1.2 h.2.2.1)

abbrev rmX0_pays : Room := { frames := 1, cells := 0, slots := 0, locals := 23 }
set_option maxRecDepth 20000 in
theorem k_pays {l : Launch} {B : gB} (hI : gI B) (V : gMem) (b : Nat) (S : gSt) (e : Nat) (i : Nat) (hb : b < 3) (hS : AbsC V b S) (he : e < 2) (hi : i < S.1 6) (hn : sNumOk S) (hc : sCartOk S i) : gM l B yX0_pays cX0_pays 5 (some .boolean) rmX0_pays [.ref (B.2.1 10 b 0), .ref (B.2.1 15 b i), .ref (B.2.1 12 b e)] V (fun v V' => v = some (.int (if S.2.2.2.1 i 5 < sDue S i then 0 else 1)) ∧ AbsC V' b (if S.2.2.2.1 i 5 < sDue S i then S else sPay S e i) ∧ brmod V V' b) := by
  refine gM_of (own := RX0) (L := [(0, .ref (B.2.1 10 b 0)), (1, .ref (B.2.1 15 b i)), (2, .ref (B.2.1 12 b e))]) (by decide +kernel) rfl hI (Nat.le_of_ble_eq_true rfl) rfl ?_
  intro Z hnL hR X F
  have hN : S.1 6 ≤ 16 := hn.2.2.2.2.2
  have h216 := sDue_216 hn hc
  have hle := sDue_le hc
  have hw2 := hc.2.2.1
  have hco := hc.2.2.2.2.1
  refine g_aload_n X 0 rfl dX0_pays_0 ?_
  refine g_aload_n X 1 rfl dX0_pays_1 ?_
  refine gg_X1_axles X (gP_15 (by first | assumption | decide | omega) (by first | assumption | decide | omega)) fX0_93 dX0_pays_2 ?_
  refine gG_top (nI (S.2.2.2.1 i 2)) (hS.2.2.2.1 i (by first | assumption | omega) 2 (by decide) (by decide)) ?_
  refine g_aload_n X 1 rfl dX0_pays_5 ?_
  refine gg_X1_weight X (gP_15 (by first | assumption | decide | omega) (by first | assumption | decide | omega)) fX0_87 dX0_pays_6 ?_
  refine gG_top (nI (S.2.2.2.1 i 3)) (hS.2.2.2.1 i (by first | assumption | omega) 3 (by decide) (by decide)) ?_
  refine g_callV X hR (rest := []) mX0_tollFor lX0_107 (k_tollFor hI V b S (S.2.2.2.1 i 2) (S.2.2.2.1 i 3) (by first | assumption | decide | omega) hS (by omega)) rfl rfl (Nat.le_of_ble_eq_true rfl) (gP_10 (by first | assumption | decide | omega)) rfl rfl rfl ⟨Nat.le_of_ble_eq_true rfl, Nat.le_of_ble_eq_true rfl, Nat.le_of_ble_eq_true rfl, Nat.le_of_ble_eq_true rfl⟩ dX0_pays_9 (fun r1 V2 hz_3 => ?_)
  refine gG_ret hz_3.1 hz_3.2 ?_
  refine gG_st [.int (nI (sToll S (S.2.2.2.1 i 2) (S.2.2.2.1 i 3)))] rfl ?_
  refine g_istore_n X rfl dX0_pays_12 [(3, .int (nI (sToll S (S.2.2.2.1 i 2) (S.2.2.2.1 i 3)))), (0, .ref (B.2.1 10 b 0)), (1, .ref (B.2.1 15 b i)), (2, .ref (B.2.1 12 b e))] rfl (gnl_lt hnL (by decide)) ?_
  refine g_aload_n X 2 rfl dX0_pays_13 ?_
  refine gg_X1_isCheat X (gP_15 (by first | assumption | decide | omega) (by first | assumption | decide | omega)) fX0_190 dX0_pays_14 ?_
  refine gG_top (nI (S.2.2.2.1 i 6)) (hS.2.2.2.1 i (by first | assumption | omega) 6 (by decide) (by decide)) ?_
  by_cases hz : S.2.2.2.1 i 6 = 0
  · skip
    refine g_if_eq X 32 (by decide) dX0_pays_17 (fun c4 => ?_) (fun c4 => ?_)
    · refine g_iload_n X 0 rfl dX0_pays_32 ?_
      refine gG_top (nI (sDue S i)) (by rw [show sDue S i = sToll S (S.2.2.2.1 i 2) (S.2.2.2.1 i 3) from if_pos hz]) ?_
      refine g_istore X dX0_pays_33 [(4, .int (nI (sDue S i))), (3, .int (nI (sToll S (S.2.2.2.1 i 2) (S.2.2.2.1 i 3)))), (0, .ref (B.2.1 10 b 0)), (1, .ref (B.2.1 15 b i)), (2, .ref (B.2.1 12 b e))] rfl (gnl_lt hnL (by decide)) ?_
      refine g_aload_n X 3 rfl dX0_pays_35 ?_
      refine gg_X1_coins X (gP_15 (by first | assumption | decide | omega) (by first | assumption | decide | omega)) fX0_99 dX0_pays_36 ?_
      refine gG_top (nI (S.2.2.2.1 i 5)) (hS.2.2.2.1 i (by first | assumption | omega) 5 (by decide) (by decide)) ?_
      refine g_iload X 0 rfl dX0_pays_39 ?_
      refine g_icmp_ge X 46 (by decide) dX0_pays_41 (fun c5 => ?_) (fun c5 => ?_)
      · refine g_aload_n X 3 rfl dX0_pays_46 ?_
        refine g_dup X rfl dX0_pays_47 ?_
        refine gg_X1_coins X (gP_15 (by first | assumption | decide | omega) (by first | assumption | decide | omega)) fX0_99 dX0_pays_48 ?_
        refine gG_top (nI (S.2.2.2.1 i 5)) (hS.2.2.2.1 i (by first | assumption | omega) 5 (by decide) (by decide)) ?_
        refine g_iload X 0 rfl dX0_pays_51 ?_
        refine g_isub X dX0_pays_53 ?_
        refine gG_top (nI (S.2.2.2.1 i 5 - sDue S i)) (pk_sub (by have := ixle c5 (by omega) (by omega); omega)) ?_
        refine gp_X1_coins X (gP_15 (by first | assumption | decide | omega) (by first | assumption | decide | omega)) fX0_99 dX0_pays_54 ?_
        refine gG_nm (fun V6 hV6 => ?_)
        obtain ⟨S7, eS7⟩ : ∃ y, y = sC S i 5 (S.2.2.2.1 i 5 - sDue S i) := ⟨_, rfl⟩
        have hS7 : AbsC V6 b S7 := by rw [eS7, hV6]; exact hS.setC i 5 (S.2.2.2.1 i 5 - sDue S i) (by decide)
        have mS7 : brmod V V6 b := by rw [hV6]; exact brmod.rf.up (by decide) (by decide)
        have nS7 : S7.1 = S.1 := by rw [eS7]; exact rfl
        refine g_aload_n X 3 rfl dX0_pays_57 ?_
        refine g_iconst X 1 (by decide) dX0_pays_58 ?_
        refine gp_X1_hasPaid X rfl rfl (gP_15 (by first | assumption | decide | omega) (by first | assumption | decide | omega)) fX0_173 dX0_pays_59 ?_
        refine gG_nm (fun V8 hV8 => ?_)
        obtain ⟨S9, eS9⟩ : ∃ y, y = sC S7 i 7 1 := ⟨_, rfl⟩
        have hS9 : AbsC V8 b S9 := by rw [eS9, hV8]; exact hS7.setC i 7 1 (by decide)
        have mS9 : brmod V V8 b := by rw [hV8]; exact mS7.up (by decide) (by decide)
        have nS9 : S9.1 = S.1 := by rw [eS9]; exact nS7
        refine g_aload_n X 4 rfl dX0_pays_62 ?_
        refine g_aload_n X 3 rfl dX0_pays_63 ?_
        refine g_iload X 0 rfl dX0_pays_64 ?_
        refine g_iload_n X 1 rfl dX0_pays_66 ?_
        refine g_callV X hR (rest := []) mX3_take lX0_193 (k_take hI V8 b S9 e i (sDue S i) (sToll S (S.2.2.2.1 i 2) (S.2.2.2.1 i 3)) (by first | assumption | decide | omega | (rw [nS9]; first | assumption | omega)) hS9 (by first | assumption | decide | omega | (rw [nS9]; first | assumption | omega)) (by first | assumption | decide | omega | (rw [nS9]; first | assumption | omega)) (by first | assumption | decide | omega | (rw [nS9]; first | assumption | omega)) hle) rfl rfl (Nat.le_of_ble_eq_true rfl) (gP_12 (by first | assumption | decide | omega) (by first | assumption | decide | omega)) rfl rfl rfl ⟨Nat.le_of_ble_eq_true rfl, Nat.le_of_ble_eq_true rfl, Nat.le_of_ble_eq_true rfl, Nat.le_of_ble_eq_true rfl⟩ dX0_pays_67 (fun r10 V11 hz_12 => ?_)
        refine gG_rv hz_12.1 ?_
        obtain ⟨-, haV11, hbV11⟩ := hz_12
        obtain ⟨S13, eS13⟩ : ∃ y, y = sTake S9 e i (sDue S i) (sToll S (S.2.2.2.1 i 2) (S.2.2.2.1 i 3)) := ⟨_, rfl⟩
        have hS13 : AbsC V11 b S13 := by rw [eS13]; exact haV11
        have mS13 : brmod V V11 b := mS9.trans hbV11
        have nS13 : S13.1 = S.1 := by rw [eS13]; exact nS9
        refine gG_st [] rfl ?_
        refine g_iconst X 1 (by decide) dX0_pays_70 ?_
        refine g_zret X F rfl ?_ rfl dX0_pays_71
        subst eS13 eS9 eS7
        exact ⟨by rw [if_neg (by have := ixle c5 (by omega) (by omega); omega)], by rw [if_neg (by have := ixle c5 (by omega) (by omega); omega)]; exact hS13, mS13⟩
      · refine g_iconst X 0 (by decide) dX0_pays_44 ?_
        refine g_zret X F rfl ?_ rfl dX0_pays_45
        exact ⟨by rw [if_pos (by have := ixnle c5 (by omega) (by omega); omega)], by rw [if_pos (by have := ixnle c5 (by omega) (by omega); omega)]; exact hS, brmod.rf⟩
    · first | exact absurd (by rw [hz]; rfl) c4 | exact absurd c4 (by rw [hz]; rfl)
  · skip
    refine g_if_eq X 32 (by decide) dX0_pays_17 (fun c14 => ?_) (fun c14 => ?_)
    · first | exact absurd (nI_ne0 (by omega) (by have := hc.2.2.2.2.2.1; omega)) c14 | exact absurd c14 (nI_ne0 (by omega) (by have := hc.2.2.2.2.2.1; omega))
    · refine g_aload_n X 1 rfl dX0_pays_20 ?_
      refine g_iconst X 1 (by decide) dX0_pays_21 ?_
      refine g_aload_n X 2 rfl dX0_pays_22 ?_
      refine gg_X1_weight X (gP_15 (by first | assumption | decide | omega) (by first | assumption | decide | omega)) fX0_87 dX0_pays_23 ?_
      refine gG_top (nI (S.2.2.2.1 i 3)) (hS.2.2.2.1 i (by first | assumption | omega) 3 (by decide) (by decide)) ?_
      refine g_callV X hR (rest := []) mX0_tollFor lX0_107 (k_tollFor hI V b S 1 (S.2.2.2.1 i 3) (by first | assumption | decide | omega) hS (by omega)) rfl rfl (Nat.le_of_ble_eq_true rfl) (gP_10 (by first | assumption | decide | omega)) rfl rfl rfl ⟨Nat.le_of_ble_eq_true rfl, Nat.le_of_ble_eq_true rfl, Nat.le_of_ble_eq_true rfl, Nat.le_of_ble_eq_true rfl⟩ dX0_pays_26 (fun r15 V16 hz_17 => ?_)
      refine gG_ret hz_17.1 hz_17.2 ?_
      refine gG_st [.int (nI (sToll S 1 (S.2.2.2.1 i 3)))] rfl ?_
      refine g_goto X 33 (by decide) dX0_pays_29 ?_
      refine gG_top (nI (sDue S i)) (by rw [show sDue S i = sToll S 1 (S.2.2.2.1 i 3) from if_neg hz]) ?_
      refine g_istore X dX0_pays_33 [(4, .int (nI (sDue S i))), (3, .int (nI (sToll S (S.2.2.2.1 i 2) (S.2.2.2.1 i 3)))), (0, .ref (B.2.1 10 b 0)), (1, .ref (B.2.1 15 b i)), (2, .ref (B.2.1 12 b e))] rfl (gnl_lt hnL (by decide)) ?_
      refine g_aload_n X 3 rfl dX0_pays_35 ?_
      refine gg_X1_coins X (gP_15 (by first | assumption | decide | omega) (by first | assumption | decide | omega)) fX0_99 dX0_pays_36 ?_
      refine gG_top (nI (S.2.2.2.1 i 5)) (hS.2.2.2.1 i (by first | assumption | omega) 5 (by decide) (by decide)) ?_
      refine g_iload X 0 rfl dX0_pays_39 ?_
      refine g_icmp_ge X 46 (by decide) dX0_pays_41 (fun c18 => ?_) (fun c18 => ?_)
      · refine g_aload_n X 3 rfl dX0_pays_46 ?_
        refine g_dup X rfl dX0_pays_47 ?_
        refine gg_X1_coins X (gP_15 (by first | assumption | decide | omega) (by first | assumption | decide | omega)) fX0_99 dX0_pays_48 ?_
        refine gG_top (nI (S.2.2.2.1 i 5)) (hS.2.2.2.1 i (by first | assumption | omega) 5 (by decide) (by decide)) ?_
        refine g_iload X 0 rfl dX0_pays_51 ?_
        refine g_isub X dX0_pays_53 ?_
        refine gG_top (nI (S.2.2.2.1 i 5 - sDue S i)) (pk_sub (by have := ixle c18 (by omega) (by omega); omega)) ?_
        refine gp_X1_coins X (gP_15 (by first | assumption | decide | omega) (by first | assumption | decide | omega)) fX0_99 dX0_pays_54 ?_
        refine gG_nm (fun V19 hV19 => ?_)
        obtain ⟨S20, eS20⟩ : ∃ y, y = sC S i 5 (S.2.2.2.1 i 5 - sDue S i) := ⟨_, rfl⟩
        have hS20 : AbsC V19 b S20 := by rw [eS20, hV19]; exact hS.setC i 5 (S.2.2.2.1 i 5 - sDue S i) (by decide)
        have mS20 : brmod V V19 b := by rw [hV19]; exact brmod.rf.up (by decide) (by decide)
        have nS20 : S20.1 = S.1 := by rw [eS20]; exact rfl
        refine g_aload_n X 3 rfl dX0_pays_57 ?_
        refine g_iconst X 1 (by decide) dX0_pays_58 ?_
        refine gp_X1_hasPaid X rfl rfl (gP_15 (by first | assumption | decide | omega) (by first | assumption | decide | omega)) fX0_173 dX0_pays_59 ?_
        refine gG_nm (fun V21 hV21 => ?_)
        obtain ⟨S22, eS22⟩ : ∃ y, y = sC S20 i 7 1 := ⟨_, rfl⟩
        have hS22 : AbsC V21 b S22 := by rw [eS22, hV21]; exact hS20.setC i 7 1 (by decide)
        have mS22 : brmod V V21 b := by rw [hV21]; exact mS20.up (by decide) (by decide)
        have nS22 : S22.1 = S.1 := by rw [eS22]; exact nS20
        refine g_aload_n X 4 rfl dX0_pays_62 ?_
        refine g_aload_n X 3 rfl dX0_pays_63 ?_
        refine g_iload X 0 rfl dX0_pays_64 ?_
        refine g_iload_n X 1 rfl dX0_pays_66 ?_
        refine g_callV X hR (rest := []) mX3_take lX0_193 (k_take hI V21 b S22 e i (sDue S i) (sToll S (S.2.2.2.1 i 2) (S.2.2.2.1 i 3)) (by first | assumption | decide | omega | (rw [nS22]; first | assumption | omega)) hS22 (by first | assumption | decide | omega | (rw [nS22]; first | assumption | omega)) (by first | assumption | decide | omega | (rw [nS22]; first | assumption | omega)) (by first | assumption | decide | omega | (rw [nS22]; first | assumption | omega)) hle) rfl rfl (Nat.le_of_ble_eq_true rfl) (gP_12 (by first | assumption | decide | omega) (by first | assumption | decide | omega)) rfl rfl rfl ⟨Nat.le_of_ble_eq_true rfl, Nat.le_of_ble_eq_true rfl, Nat.le_of_ble_eq_true rfl, Nat.le_of_ble_eq_true rfl⟩ dX0_pays_67 (fun r23 V24 hz_25 => ?_)
        refine gG_rv hz_25.1 ?_
        obtain ⟨-, haV24, hbV24⟩ := hz_25
        obtain ⟨S26, eS26⟩ : ∃ y, y = sTake S22 e i (sDue S i) (sToll S (S.2.2.2.1 i 2) (S.2.2.2.1 i 3)) := ⟨_, rfl⟩
        have hS26 : AbsC V24 b S26 := by rw [eS26]; exact haV24
        have mS26 : brmod V V24 b := mS22.trans hbV24
        have nS26 : S26.1 = S.1 := by rw [eS26]; exact nS22
        refine gG_st [] rfl ?_
        refine g_iconst X 1 (by decide) dX0_pays_70 ?_
        refine g_zret X F rfl ?_ rfl dX0_pays_71
        subst eS26 eS22 eS20
        exact ⟨by rw [if_neg (by have := ixle c18 (by omega) (by omega); omega)], by rw [if_neg (by have := ixle c18 (by omega) (by omega); omega)]; exact hS26, mS26⟩
      · refine g_iconst X 0 (by decide) dX0_pays_44 ?_
        refine g_zret X F rfl ?_ rfl dX0_pays_45
        exact ⟨by rw [if_pos (by have := ixnle c18 (by omega) (by omega); omega)], by rw [if_pos (by have := ixnle c18 (by omega) (by omega); omega)]; exact hS, brmod.rf⟩

def sW (S : gSt) : Nat := ((S.2.1 2).map (fun i => S.2.2.2.1 i 3)).sum
theorem lat_some {xs : List Nat} {j i : Nat} (h : xs[j]? = some i) : lat xs j = nI i := by simp [lat, h]
theorem get_some {xs : List Nat} {j : Nat} (h : j < xs.length) : ∃ i, xs[j]? = some i := ⟨xs[j], List.getElem?_eq_getElem h⟩
theorem take_sum {xs : List Nat} {j i : Nat} (f : Nat → Nat) (h : xs[j]? = some i) : ((xs.take (j + 1)).map f).sum = ((xs.take j).map f).sum + f i := by
  rw [List.take_add_one, h]
  simp
theorem len31 {xs : List Nat} (h : xs.length ≤ 16) : xs.length < 2 ^ 31 := by omega

abbrev rmX0_weightOnBridge : Room := { frames := 2, cells := 0, slots := 0, locals := 42 }
set_option maxRecDepth 20000 in
theorem k_wob {l : Launch} {B : gB} (hI : gI B) (V : gMem) (b : Nat) (S : gSt) (hb : b < 3) (hS : AbsC V b S) (hn : S.1 6 ≤ 16) (hmem : ∀ i ∈ S.2.1 2, i < S.1 6) : gM l B yX0_weightOnBridge cX0_weightOnBridge 4 (some .int) rmX0_weightOnBridge [.ref (B.2.1 10 b 0)] V (fun v V' => v = some (.int (nI (sW S))) ∧ V' = V) := by
  refine gM_of (own := RX0) (L := [(0, .ref (B.2.1 10 b 0))]) (by decide +kernel) rfl hI (Nat.le_of_ble_eq_true rfl) rfl ?_
  intro Z hnL hR X F
  have hlen : (S.2.1 2).length ≤ 16 := hS.bnd (by decide)
  refine g_iconst X 0 (by decide) dX0_weightOnBridge_0 ?_
  refine g_istore_n X rfl dX0_weightOnBridge_1 [(1, .int 0), (0, .ref (B.2.1 10 b 0))] rfl (gnl_lt hnL (by decide)) ?_
  refine g_iconst X 0 (by decide) dX0_weightOnBridge_2 ?_
  refine g_istore_n X rfl dX0_weightOnBridge_3 [(2, .int 0), (1, .int 0), (0, .ref (B.2.1 10 b 0))] rfl (gnl_lt hnL (by decide)) ?_
  refine gG_L [2, 1, 0] (L' := [(0, .ref (B.2.1 10 b 0)), (1, .int 0), (2, .int 0)]) rfl ?_
  have loop : ∀ (f : Nat) (j : Nat) , j + f = (S.2.1 2).length →  gG Z B (0, 0) V 4 [(0, .ref (B.2.1 10 b 0)), (1, .int (nI ((((S.2.1 2).take j).map (fun i => S.2.2.2.1 i 3)).sum))), (2, .int (nI j))] [] := by
    intro f
    induction f with
    | zero =>
      intro j  hf 
      refine g_iload_n X 2 rfl dX0_weightOnBridge_4 ?_
      refine g_aload_n X 0 rfl dX0_weightOnBridge_5 ?_
      refine gg_X0_crossing X (gP_10 (by first | assumption | decide | omega)) fX0_43 dX0_weightOnBridge_6 ?_
      refine gg_X5_size X (gP_13 (by first | assumption | decide | omega) (by first | assumption | decide | omega)) fX0_80 dX0_weightOnBridge_9 ?_
      refine gG_top (nI (S.2.1 2).length) ((hS.2.1 2 (by first | decide | omega)).1) ?_
      refine g_icmp_ge X 45 (by decide) dX0_weightOnBridge_12 (fun c1 => ?_) (fun c1 => ?_)
      · refine g_iload_n X 1 rfl dX0_weightOnBridge_45 ?_
        refine g_iret X F ?_ rfl dX0_weightOnBridge_46
        exact ⟨by rw [show sW S = (((S.2.1 2).take j).map (fun i => S.2.2.2.1 i 3)).sum by rw [List.take_of_length_le (by omega)]; rfl], rfl⟩
      · first | exact absurd (nI_le (by omega) (by omega)) c1 | exact absurd c1 (nI_le (by omega) (by omega))
    | succ f ih =>
      intro j  hf 
      refine g_iload_n X 2 rfl dX0_weightOnBridge_4 ?_
      refine g_aload_n X 0 rfl dX0_weightOnBridge_5 ?_
      refine gg_X0_crossing X (gP_10 (by first | assumption | decide | omega)) fX0_43 dX0_weightOnBridge_6 ?_
      refine gg_X5_size X (gP_13 (by first | assumption | decide | omega) (by first | assumption | decide | omega)) fX0_80 dX0_weightOnBridge_9 ?_
      refine gG_top (nI (S.2.1 2).length) ((hS.2.1 2 (by first | decide | omega)).1) ?_
      refine g_icmp_ge X 45 (by decide) dX0_weightOnBridge_12 (fun c2 => ?_) (fun c2 => ?_)
      · first | exact absurd (nI_ge (by omega) (by omega)) c2 | exact absurd c2 (nI_ge (by omega) (by omega))
      · refine g_aload_n X 0 rfl dX0_weightOnBridge_15 ?_
        refine g_aload_n X 0 rfl dX0_weightOnBridge_16 ?_
        refine gg_X0_crossing X (gP_10 (by first | assumption | decide | omega)) fX0_43 dX0_weightOnBridge_17 ?_
        refine g_iload_n X 2 rfl dX0_weightOnBridge_20 ?_
        refine g_callV X hR (rest := [.ref (B.2.1 10 b 0)]) mX5_at lX0_83 (k_at hI V b 2 (S.2.1 2) j (by first | assumption | decide | omega) (by first | assumption | decide | omega) (hS.2.1 2 (by decide)) (by omega)) rfl rfl (Nat.le_of_ble_eq_true rfl) (gP_13 (by first | assumption | decide | omega) (by first | assumption | decide | omega)) rfl rfl rfl ⟨Nat.le_of_ble_eq_true rfl, Nat.le_of_ble_eq_true rfl, Nat.le_of_ble_eq_true rfl, Nat.le_of_ble_eq_true rfl⟩ dX0_weightOnBridge_21 (fun r3 V4 hz_5 => ?_)
        refine gG_ret hz_5.1 hz_5.2 ?_
        refine gG_st [.int (lat (S.2.1 2) j), .ref (B.2.1 10 b 0)] rfl ?_
        obtain ⟨i, hgi⟩ := get_some (xs := S.2.1 2) (j := j) (by omega)
        have hmi : i ∈ S.2.1 2 := List.mem_of_getElem? hgi
        have hli := hmem i hmi
        refine gG_top (nI i) (lat_some hgi) ?_
        refine g_callV X hR (rest := []) mX0_cartAt lX0_57 (k_cartAt hI V b S i (by first | assumption | decide | omega) hS (by first | assumption | decide | omega) (by first | assumption | decide | omega)) rfl rfl (Nat.le_of_ble_eq_true rfl) (gP_10 (by first | assumption | decide | omega)) rfl rfl rfl ⟨Nat.le_of_ble_eq_true rfl, Nat.le_of_ble_eq_true rfl, Nat.le_of_ble_eq_true rfl, Nat.le_of_ble_eq_true rfl⟩ dX0_weightOnBridge_24 (fun r6 V7 hz_8 => ?_)
        refine gG_ret hz_8.1 hz_8.2 ?_
        refine gG_st [.ref (B.2.1 15 b i)] rfl ?_
        refine g_astore_n X rfl dX0_weightOnBridge_27 [(3, .ref (B.2.1 15 b i)), (0, .ref (B.2.1 10 b 0)), (1, .int (nI ((((S.2.1 2).take j).map (fun i => S.2.2.2.1 i 3)).sum))), (2, .int (nI j))] rfl (gnl_lt hnL (by decide)) ?_
        refine g_aload_n X 0 rfl dX0_weightOnBridge_28 ?_
        refine g_ifnull X dX0_weightOnBridge_29 ?_
        refine g_iload_n X 2 rfl dX0_weightOnBridge_32 ?_
        refine g_aload_n X 0 rfl dX0_weightOnBridge_33 ?_
        refine gg_X1_weight X (gP_15 (by first | assumption | decide | omega) (by first | assumption | decide | omega)) fX0_87 dX0_weightOnBridge_34 ?_
        refine gG_top (nI (S.2.2.2.1 i 3)) (hS.2.2.2.1 i (by first | assumption | omega) 3 (by decide) (by decide)) ?_
        refine g_iadd X dX0_weightOnBridge_37 ?_
        refine gG_top (nI (((((S.2.1 2).take j).map (fun i => S.2.2.2.1 i 3)).sum) + (S.2.2.2.1 i 3))) (nI_add ((((S.2.1 2).take j).map (fun i => S.2.2.2.1 i 3)).sum) (S.2.2.2.1 i 3)) ?_
        refine gG_top (nI ((((S.2.1 2).take (j + 1)).map (fun i => S.2.2.2.1 i 3)).sum)) (by rw [take_sum _ hgi]) ?_
        refine g_istore_n X rfl dX0_weightOnBridge_38 [(1, .int (nI ((((S.2.1 2).take (j + 1)).map (fun i => S.2.2.2.1 i 3)).sum))), (3, .ref (B.2.1 15 b i)), (0, .ref (B.2.1 10 b 0)), (2, .int (nI j))] rfl (gnl_lt hnL (by decide)) ?_
        refine g_iinc X 3 rfl (nI (j + 1)) (iinc_1 _) dX0_weightOnBridge_39 [(2, .int (nI (j + 1))), (1, .int (nI ((((S.2.1 2).take (j + 1)).map (fun i => S.2.2.2.1 i 3)).sum))), (3, .ref (B.2.1 15 b i)), (0, .ref (B.2.1 10 b 0))] rfl (gnl_lt hnL (by decide)) ?_
        refine g_goto X 4 (by decide) dX0_weightOnBridge_42 ?_
        refine gG_L [3, 1, 0] (L' := [(0, .ref (B.2.1 10 b 0)), (1, .int (nI ((((S.2.1 2).take (j + 1)).map (fun i => S.2.2.2.1 i 3)).sum))), (2, .int (nI (j + 1)))]) rfl ?_
        refine ih (j + 1) (by omega)
  exact loop (S.2.1 2).length 0 (by omega)

def sFree (S : gSt) : Bool := match (S.2.1 2).getLast? with
  | none => true
  | some l => decide (S.2.2.2.1 l 1 = S.1 1) && decide (0 < S.2.2.2.1 l 9)
def sRoom (S : gSt) (i : Nat) : Bool := sFree S && decide (sW S + S.2.2.2.1 i 3 ≤ S.1 3)
theorem llast_some {xs : List Nat} {l : Nat} (h : xs.getLast? = some l) : llast xs = nI l := by
  rw [List.getLast?_eq_getElem?] at h
  unfold llast
  rw [if_neg (by intro q; rw [List.length_eq_zero_iff.mp q] at h; cases h), lat_some h]
theorem llast_none {xs : List Nat} (h : xs.getLast? = none) : llast xs = -1 := by
  rw [List.getLast?_eq_none_iff] at h
  subst h
  rfl
theorem getLast_mem {xs : List Nat} {l : Nat} (h : xs.getLast? = some l) : l ∈ xs := List.mem_of_getLast? h
theorem sum_le {xs : List Nat} {f : Nat → Nat} {c : Nat} (h : ∀ i ∈ xs, f i ≤ c) : (xs.map f).sum ≤ xs.length * c := by
  induction xs with
  | nil => simp
  | cons a l ih =>
    have h1 := ih (fun i hi => h i (List.mem_cons_of_mem _ hi))
    have h2 := h a List.mem_cons_self
    simp only [List.map_cons, List.sum_cons, List.length_cons, Nat.succ_mul]
    omega

abbrev rmX0_hasRoomFor : Room := { frames := 3, cells := 0, slots := 0, locals := 65 }
set_option maxRecDepth 20000 in
theorem k_room {l : Launch} {B : gB} (hI : gI B) (V : gMem) (b : Nat) (S : gSt) (i : Nat) (hb : b < 3) (hS : AbsC V b S) (hn : sNumOk S) (hc : ∀ i, i < S.1 6 → sCartOk S i) (hmem : ∀ i ∈ S.2.1 2, i < S.1 6) (hway : ∀ i ∈ S.2.1 2, S.2.2.2.1 i 9 < S.1 2) (hi : i < S.1 6) : gM l B yX0_hasRoomFor cX0_hasRoomFor 4 (some .boolean) rmX0_hasRoomFor [.ref (B.2.1 10 b 0), .ref (B.2.1 15 b i)] V (fun v V' => v = some (.int (if sRoom S i = true then 1 else 0)) ∧ V' = V) := by
  refine gM_of (own := RX0) (L := [(0, .ref (B.2.1 10 b 0)), (1, .ref (B.2.1 15 b i))]) (by decide +kernel) rfl hI (Nat.le_of_ble_eq_true rfl) rfl ?_
  intro Z hnL hR X F
  have hN : S.1 6 ≤ 16 := hn.2.2.2.2.2
  have hlen : (S.2.1 2).length ≤ 16 := hS.bnd (by decide)
  have hW : sW S + S.2.2.2.1 i 3 ≤ 3400 := by
    have h1 := sum_le (f := fun i => S.2.2.2.1 i 3) (c := 200) (fun i hi => (hc i (hmem i hi)).2.2.1)
    have h2 := (hc i hi).2.2.1
    have h3 : (S.2.1 2).length * 200 ≤ 16 * 200 := Nat.mul_le_mul_right _ hlen
    unfold sW
    omega
  refine g_aload_n X 0 rfl dX0_hasRoomFor_0 ?_
  refine g_aload_n X 0 rfl dX0_hasRoomFor_1 ?_
  refine gg_X0_crossing X (gP_10 (by first | assumption | decide | omega)) fX0_43 dX0_hasRoomFor_2 ?_
  refine g_callV X hR (rest := [.ref (B.2.1 10 b 0)]) mX5_last lX0_184 (k_last hI V b 2 (S.2.1 2) (by first | assumption | decide | omega) (by first | assumption | decide | omega) (hS.2.1 2 (by decide))) rfl rfl (Nat.le_of_ble_eq_true rfl) (gP_13 (by first | assumption | decide | omega) (by first | assumption | decide | omega)) rfl rfl rfl ⟨Nat.le_of_ble_eq_true rfl, Nat.le_of_ble_eq_true rfl, Nat.le_of_ble_eq_true rfl, Nat.le_of_ble_eq_true rfl⟩ dX0_hasRoomFor_5 (fun r1 V2 hz_3 => ?_)
  refine gG_ret hz_3.1 hz_3.2 ?_
  refine gG_st [.int (llast (S.2.1 2)), .ref (B.2.1 10 b 0)] rfl ?_
  cases hlast : (S.2.1 2).getLast? with
  | none =>
    refine gG_top (-1) (llast_none hlast) ?_
    refine g_callV X hR (rest := []) mX0_cartAt lX0_57 (k_cartAtm hI V b S (by first | assumption | decide | omega) hS hN) rfl rfl (Nat.le_of_ble_eq_true rfl) (gP_10 (by first | assumption | decide | omega)) rfl rfl rfl ⟨Nat.le_of_ble_eq_true rfl, Nat.le_of_ble_eq_true rfl, Nat.le_of_ble_eq_true rfl, Nat.le_of_ble_eq_true rfl⟩ dX0_hasRoomFor_8 (fun r4 V5 hz_6 => ?_)
    refine gG_ret hz_6.1 hz_6.2 ?_
    refine gG_st [.null] rfl ?_
    refine g_astore_nN X rfl dX0_hasRoomFor_11 [(2, .null), (0, .ref (B.2.1 10 b 0)), (1, .ref (B.2.1 15 b i))] rfl (gnl_lt hnL (by decide)) ?_
    refine g_aload_nN X 0 rfl dX0_hasRoomFor_12 ?_
    refine g_ifnullN X 34 (by decide) dX0_hasRoomFor_13 ?_
    refine g_iconst X 1 (by decide) dX0_hasRoomFor_34 ?_
    refine g_goto X 39 (by decide) dX0_hasRoomFor_35 ?_
    have hfree : sFree S = true := by simp [sFree, hlast]
    have hz : True := trivial
    refine g_istore_n X rfl dX0_hasRoomFor_39 [(3, .int 1), (2, .null), (0, .ref (B.2.1 10 b 0)), (1, .ref (B.2.1 15 b i))] rfl (gnl_lt hnL (by decide)) ?_
    refine g_iload_n X 0 rfl dX0_hasRoomFor_40 ?_
    refine g_if_eq X 64 (by decide) dX0_hasRoomFor_41 (fun c7 => ?_) (fun c7 => ?_)
    ·  exact absurd c7 (by decide)
    · refine g_aload_n X 2 rfl dX0_hasRoomFor_44 ?_
      refine g_callV X hR (rest := []) mX0_weightOnBridge lX0_187 (k_wob hI V b S (by first | assumption | decide | omega) hS hN (by first | assumption | decide | omega)) rfl rfl (Nat.le_of_ble_eq_true rfl) (gP_10 (by first | assumption | decide | omega)) rfl rfl rfl ⟨Nat.le_of_ble_eq_true rfl, Nat.le_of_ble_eq_true rfl, Nat.le_of_ble_eq_true rfl, Nat.le_of_ble_eq_true rfl⟩ dX0_hasRoomFor_45 (fun r8 V9 hz_10 => ?_)
      refine gG_ret hz_10.1 hz_10.2 ?_
      refine gG_st [.int (nI (sW S))] rfl ?_
      refine g_aload_n X 3 rfl dX0_hasRoomFor_48 ?_
      refine gg_X1_weight X (gP_15 (by first | assumption | decide | omega) (by first | assumption | decide | omega)) fX0_87 dX0_hasRoomFor_49 ?_
      refine gG_top (nI (S.2.2.2.1 i 3)) (hS.2.2.2.1 i (by first | assumption | omega) 3 (by decide) (by decide)) ?_
      refine g_iadd X dX0_hasRoomFor_52 ?_
      refine gG_top (nI ((sW S) + (S.2.2.2.1 i 3))) (nI_add (sW S) (S.2.2.2.1 i 3)) ?_
      refine g_aload_n X 2 rfl dX0_hasRoomFor_53 ?_
      refine gg_X0_bears X (gP_10 (by first | assumption | decide | omega)) fX0_15 dX0_hasRoomFor_54 ?_
      refine gG_top (nI (S.1 3)) (hS.1 3 (by decide)) ?_
      refine g_icmp_gt X 64 (by decide) dX0_hasRoomFor_57 (fun c11 => ?_) (fun c11 => ?_)
      · refine g_iconst X 0 (by decide) dX0_hasRoomFor_64 ?_
        refine g_zret X F rfl ?_ rfl dX0_hasRoomFor_65
        have hq : S.1 3 < sW S + S.2.2.2.1 i 3 := ixlt c11 (by have := hn.2.2.1; omega) (by have := hW; omega)
        exact ⟨by simp [sRoom, hfree, hq], rfl⟩
      · refine g_iconst X 1 (by decide) dX0_hasRoomFor_60 ?_
        refine g_goto X 65 (by decide) dX0_hasRoomFor_61 ?_
        refine g_zret X F rfl ?_ rfl dX0_hasRoomFor_65
        have hq : sW S + S.2.2.2.1 i 3 ≤ S.1 3 := ixnlt c11 (by have := hn.2.2.1; omega) (by have := hW; omega)
        exact ⟨by simp [sRoom, hfree, hq], rfl⟩
  | some l =>
    have hml := getLast_mem hlast
    have hll := hmem l hml
    refine gG_top (nI l) (llast_some hlast) ?_
    refine g_callV X hR (rest := []) mX0_cartAt lX0_57 (k_cartAt hI V b S l (by first | assumption | decide | omega) hS hN hll) rfl rfl (Nat.le_of_ble_eq_true rfl) (gP_10 (by first | assumption | decide | omega)) rfl rfl rfl ⟨Nat.le_of_ble_eq_true rfl, Nat.le_of_ble_eq_true rfl, Nat.le_of_ble_eq_true rfl, Nat.le_of_ble_eq_true rfl⟩ dX0_hasRoomFor_8 (fun r12 V13 hz_14 => ?_)
    refine gG_ret hz_14.1 hz_14.2 ?_
    refine gG_st [.ref (B.2.1 15 b l)] rfl ?_
    refine g_astore_n X rfl dX0_hasRoomFor_11 [(2, .ref (B.2.1 15 b l)), (0, .ref (B.2.1 10 b 0)), (1, .ref (B.2.1 15 b i))] rfl (gnl_lt hnL (by decide)) ?_
    refine g_aload_n X 0 rfl dX0_hasRoomFor_12 ?_
    refine g_ifnull X dX0_hasRoomFor_13 ?_
    refine g_aload_n X 0 rfl dX0_hasRoomFor_16 ?_
    refine gg_X1_end X (gP_15 (by first | assumption | decide | omega) (by first | assumption | decide | omega)) fX0_100 dX0_hasRoomFor_17 ?_
    refine gG_top (nI (S.2.2.2.1 l 1)) (hS.2.2.2.1 l (by first | assumption | omega) 1 (by decide) (by decide)) ?_
    refine g_aload_n X 1 rfl dX0_hasRoomFor_20 ?_
    refine gg_X0_direction X (gP_10 (by first | assumption | decide | omega)) fX0_61 dX0_hasRoomFor_21 ?_
    refine gG_top (nI (S.1 1)) (hS.1 1 (by decide)) ?_
    refine g_icmp_ne X 38 (by decide) dX0_hasRoomFor_24 (fun c15 => ?_) (fun c15 => ?_)
    · refine g_iconst X 0 (by decide) dX0_hasRoomFor_38 ?_
      have hfree : sFree S = false := by
        have h1 : ¬ S.2.2.2.1 l 1 = S.1 1 := fun q => c15 (by rw [q])
        simp [sFree, hlast, h1]
      have hz : True := trivial
      refine g_istore_n X rfl dX0_hasRoomFor_39 [(3, .int 0), (2, .ref (B.2.1 15 b l)), (0, .ref (B.2.1 10 b 0)), (1, .ref (B.2.1 15 b i))] rfl (gnl_lt hnL (by decide)) ?_
      refine g_iload_n X 0 rfl dX0_hasRoomFor_40 ?_
      refine g_if_eq X 64 (by decide) dX0_hasRoomFor_41 (fun c16 => ?_) (fun c16 => ?_)
      · refine g_iconst X 0 (by decide) dX0_hasRoomFor_64 ?_
        refine g_zret X F rfl ?_ rfl dX0_hasRoomFor_65
        exact ⟨by simp [sRoom, hfree], rfl⟩
      ·  exact absurd c16 (by decide)
    · refine g_aload_n X 0 rfl dX0_hasRoomFor_27 ?_
      refine gg_X1_way X (gP_15 (by first | assumption | decide | omega) (by first | assumption | decide | omega)) fX0_133 dX0_hasRoomFor_28 ?_
      refine gG_top (nI (S.2.2.2.1 l 9)) (hS.2.2.2.1 l (by first | assumption | omega) 9 (by decide) (by decide)) ?_
      refine g_if_le X 38 (by decide) dX0_hasRoomFor_31 (fun c17 => ?_) (fun c17 => ?_)
      · refine g_iconst X 0 (by decide) dX0_hasRoomFor_38 ?_
        have hfree : sFree S = false := by
          have h2 : S.2.2.2.1 l 9 = 0 := ixle0 c17 (by have := hway l hml; have := hn.2.1; omega)
          simp [sFree, hlast, h2]
        have hz : True := trivial
        refine g_istore_n X rfl dX0_hasRoomFor_39 [(3, .int 0), (2, .ref (B.2.1 15 b l)), (0, .ref (B.2.1 10 b 0)), (1, .ref (B.2.1 15 b i))] rfl (gnl_lt hnL (by decide)) ?_
        refine g_iload_n X 0 rfl dX0_hasRoomFor_40 ?_
        refine g_if_eq X 64 (by decide) dX0_hasRoomFor_41 (fun c18 => ?_) (fun c18 => ?_)
        · refine g_iconst X 0 (by decide) dX0_hasRoomFor_64 ?_
          refine g_zret X F rfl ?_ rfl dX0_hasRoomFor_65
          exact ⟨by simp [sRoom, hfree], rfl⟩
        ·  exact absurd c18 (by decide)
      · refine g_iconst X 1 (by decide) dX0_hasRoomFor_34 ?_
        refine g_goto X 39 (by decide) dX0_hasRoomFor_35 ?_
        have hfree : sFree S = true := by
          have h1 : S.2.2.2.1 l 1 = S.1 1 := (nI_eq (by have := (hc l hll).1; omega) (by have := hn.1; omega)).mp c15
          have h2 : 0 < S.2.2.2.1 l 9 := ixnle0 c17 (by have := hway l hml; have := hn.2.1; omega)
          simp [sFree, hlast, h1, h2]
        have hz : True := trivial
        refine g_istore_n X rfl dX0_hasRoomFor_39 [(3, .int 1), (2, .ref (B.2.1 15 b l)), (0, .ref (B.2.1 10 b 0)), (1, .ref (B.2.1 15 b i))] rfl (gnl_lt hnL (by decide)) ?_
        refine g_iload_n X 0 rfl dX0_hasRoomFor_40 ?_
        refine g_if_eq X 64 (by decide) dX0_hasRoomFor_41 (fun c19 => ?_) (fun c19 => ?_)
        ·  exact absurd c19 (by decide)
        · refine g_aload_n X 2 rfl dX0_hasRoomFor_44 ?_
          refine g_callV X hR (rest := []) mX0_weightOnBridge lX0_187 (k_wob hI V b S (by first | assumption | decide | omega) hS hN (by first | assumption | decide | omega)) rfl rfl (Nat.le_of_ble_eq_true rfl) (gP_10 (by first | assumption | decide | omega)) rfl rfl rfl ⟨Nat.le_of_ble_eq_true rfl, Nat.le_of_ble_eq_true rfl, Nat.le_of_ble_eq_true rfl, Nat.le_of_ble_eq_true rfl⟩ dX0_hasRoomFor_45 (fun r20 V21 hz_22 => ?_)
          refine gG_ret hz_22.1 hz_22.2 ?_
          refine gG_st [.int (nI (sW S))] rfl ?_
          refine g_aload_n X 3 rfl dX0_hasRoomFor_48 ?_
          refine gg_X1_weight X (gP_15 (by first | assumption | decide | omega) (by first | assumption | decide | omega)) fX0_87 dX0_hasRoomFor_49 ?_
          refine gG_top (nI (S.2.2.2.1 i 3)) (hS.2.2.2.1 i (by first | assumption | omega) 3 (by decide) (by decide)) ?_
          refine g_iadd X dX0_hasRoomFor_52 ?_
          refine gG_top (nI ((sW S) + (S.2.2.2.1 i 3))) (nI_add (sW S) (S.2.2.2.1 i 3)) ?_
          refine g_aload_n X 2 rfl dX0_hasRoomFor_53 ?_
          refine gg_X0_bears X (gP_10 (by first | assumption | decide | omega)) fX0_15 dX0_hasRoomFor_54 ?_
          refine gG_top (nI (S.1 3)) (hS.1 3 (by decide)) ?_
          refine g_icmp_gt X 64 (by decide) dX0_hasRoomFor_57 (fun c23 => ?_) (fun c23 => ?_)
          · refine g_iconst X 0 (by decide) dX0_hasRoomFor_64 ?_
            refine g_zret X F rfl ?_ rfl dX0_hasRoomFor_65
            have hq : S.1 3 < sW S + S.2.2.2.1 i 3 := ixlt c23 (by have := hn.2.2.1; omega) (by have := hW; omega)
            exact ⟨by simp [sRoom, hfree, hq], rfl⟩
          · refine g_iconst X 1 (by decide) dX0_hasRoomFor_60 ?_
            refine g_goto X 65 (by decide) dX0_hasRoomFor_61 ?_
            refine g_zret X F rfl ?_ rfl dX0_hasRoomFor_65
            have hq : sW S + S.2.2.2.1 i 3 ≤ S.1 3 := ixnlt c23 (by have := hn.2.2.1; omega) (by have := hW; omega)
            exact ⟨by simp [sRoom, hfree, hq], rfl⟩

def sCome (S : gSt) : gSt := match S.2.1 (S.1 1) with
  | [] => S
  | i :: ys => if sRoom S i = true then
      (let S1 := sQ S (S.1 1) ys
       if S1.2.2.2.1 i 7 = 0 ∧ S1.2.2.2.1 i 5 < sDue S1 i then sC S1 i 8 3
       else
        let S2 := if S1.2.2.2.1 i 7 = 0 then sPay S1 (S.1 1) i else S1
        let S3 := sC S2 i 8 1
        let S4 := sC S3 i 9 0
        sQ S4 2 (S4.2.1 2 ++ [i]))
    else S
/-- all that a run keeps -/
def WF (S : gSt) : Prop := sNumOk S ∧ (∀ i, i < S.1 6 → sCartOk S i) ∧
  (∀ e, e < 2 → (S.2.1 e).Nodup ∧ ∀ i, i ∈ S.2.1 e ↔ (i < S.1 6 ∧ S.2.2.2.1 i 8 = 0 ∧ S.2.2.2.1 i 1 = e)) ∧
  (S.2.1 2).Pairwise (fun i j => S.2.2.2.1 j 9 < S.2.2.2.1 i 9) ∧ (∀ i, i ∈ S.2.1 2 ↔ (i < S.1 6 ∧ S.2.2.2.1 i 8 = 1)) ∧ (∀ i ∈ S.2.1 2, S.2.2.2.1 i 9 < S.1 2) ∧
  (∀ i ∈ S.2.1 2, ∀ j ∈ S.2.1 2, S.2.2.2.1 i 1 = S.2.2.2.1 j 1) ∧ (∀ i, i < S.1 6 → S.2.2.2.1 i 8 = 2 → ∃ t : Nat, t ≤ S.1 0 ∧ S.2.2.2.2 i = nI t)
theorem nodup_le : ∀ (n : Nat) (l : List Nat), l.Nodup → (∀ x ∈ l, x < n) → l.length ≤ n := by
  intro n
  induction n with
  | zero =>
    intro l _ h
    cases l with
    | nil => exact Nat.le_refl _
    | cons a l => exact absurd (h a List.mem_cons_self) (Nat.not_lt_zero _)
  | succ n ih =>
    intro l hn h
    have h1 := ih (l.erase n) (hn.erase n) (fun x hx => by
      have h2 := h x (List.mem_of_mem_erase hx)
      have h3 : x ≠ n := fun q => by subst q; exact (List.Nodup.mem_erase_iff hn).mp hx |>.1 rfl
      omega)
    have h4 := List.length_erase (a := n) (l := l)
    split at h4 <;> omega
theorem WF.ne {S : gSt} (h : WF S) : (S.2.1 2).Nodup := h.2.2.2.1.imp (fun q e => by subst e; exact Nat.lt_irrefl _ q)
theorem WF.mem {S : gSt} (h : WF S) {i : Nat} (hi : i ∈ S.2.1 2) : i < S.1 6 := ((h.2.2.2.2.1 i).mp hi).1
theorem WF.qmem {S : gSt} (h : WF S) {e i : Nat} (he : e < 2) (hi : i ∈ S.2.1 e) : i < S.1 6 ∧ S.2.2.2.1 i 8 = 0 ∧ S.2.2.2.1 i 1 = e := ((h.2.2.1 e he).2 i).mp hi
/-- a cart that waits: there is room for it in the row on the bridge -/
theorem WF.lt16 {S : gSt} (h : WF S) {i : Nat} (hi : i < S.1 6) (hs : S.2.2.2.1 i 8 ≠ 1) : (S.2.1 2).length < 16 := by
  have h1 : i ∉ S.2.1 2 := fun q => hs ((h.2.2.2.2.1 i).mp q).2
  have h2 := nodup_le (S.1 6) (i :: S.2.1 2) (List.nodup_cons.mpr ⟨h1, h.ne⟩) (fun x hx => by
    rcases List.mem_cons.mp hx with q | q
    · rw [q]; exact hi
    · exact h.mem q)
  have h3 := h.1.2.2.2.2.2
  simp only [List.length_cons] at h2
  omega
theorem WF.qlt16 {S : gSt} (h : WF S) {e i : Nat} (he : e < 2) (hi : i < S.1 6) (hs : ¬ i ∈ S.2.1 e) : (S.2.1 e).length < 16 := by
  have h2 := nodup_le (S.1 6) (i :: S.2.1 e) (List.nodup_cons.mpr ⟨hs, (h.2.2.1 e he).1⟩) (fun x hx => by
    rcases List.mem_cons.mp hx with q | q
    · rw [q]; exact hi
    · exact (h.qmem he q).1)
  have h3 := h.1.2.2.2.2.2
  simp only [List.length_cons] at h2
  omega
theorem lat_nil {xs : List Nat} (h : xs = []) : lat xs 0 = -1 := by subst h; rfl
theorem lat_cons {xs ys : List Nat} {i : Nat} (h : xs = i :: ys) : lat xs 0 = nI i := by subst h; rfl

abbrev rmX0_comeOn : Room := { frames := 4, cells := 0, slots := 0, locals := 88 }
set_option maxRecDepth 20000 in
theorem k_comeOn {l : Launch} {B : gB} (hI : gI B) (V : gMem) (b : Nat) (S : gSt) (hb : b < 3) (hS : AbsC V b S) (hw : WF S) : gM l B yX0_comeOn cX0_comeOn 3 none rmX0_comeOn [.ref (B.2.1 10 b 0)] V (fun v V' => v = none ∧ AbsC V' b (sCome S) ∧ brmod V V' b) := by
  refine gM_of (own := RX0) (L := [(0, .ref (B.2.1 10 b 0))]) (by decide +kernel) rfl hI (Nat.le_of_ble_eq_true rfl) rfl ?_
  intro Z hnL hR X F
  have hN : S.1 6 ≤ 16 := hw.1.2.2.2.2.2
  have hd : S.1 1 < 2 := by have := hw.1.1; omega
  refine g_aload_n X 0 rfl dX0_comeOn_0 ?_
  refine g_aload_n X 0 rfl dX0_comeOn_1 ?_
  refine gg_X0_direction X (gP_10 (by first | assumption | decide | omega)) fX0_61 dX0_comeOn_2 ?_
  refine gG_top (nI (S.1 1)) (hS.1 1 (by decide)) ?_
  refine g_callV X hR (rest := []) mX0_gateAt lX0_153 (k_gateAt hI V b (S.1 1) (by first | assumption | decide | omega) hd) rfl rfl (Nat.le_of_ble_eq_true rfl) (gP_10 (by first | assumption | decide | omega)) rfl rfl rfl ⟨Nat.le_of_ble_eq_true rfl, Nat.le_of_ble_eq_true rfl, Nat.le_of_ble_eq_true rfl, Nat.le_of_ble_eq_true rfl⟩ dX0_comeOn_5 (fun r1 V2 hz_3 => ?_)
  refine gG_ret hz_3.1 hz_3.2 ?_
  refine gG_st [.ref (B.2.1 12 b (S.1 1))] rfl ?_
  refine g_astore_n X rfl dX0_comeOn_8 [(1, .ref (B.2.1 12 b (S.1 1))), (0, .ref (B.2.1 10 b 0))] rfl (gnl_lt hnL (by decide)) ?_
  refine g_aload_n X 1 rfl dX0_comeOn_9 ?_
  refine g_aload_n X 0 rfl dX0_comeOn_10 ?_
  refine gg_X3_waiting X (gP_12 (by first | assumption | decide | omega) (by first | assumption | decide | omega)) fX0_157 dX0_comeOn_11 ?_
  refine g_iconst X 0 (by decide) dX0_comeOn_14 ?_
  refine g_callV X hR (rest := [.ref (B.2.1 10 b 0)]) mX5_at lX0_83 (k_at hI V b (S.1 1) (S.2.1 (S.1 1)) 0 (by first | assumption | decide | omega) (by omega) (hS.2.1 (S.1 1) (by omega)) (by first | assumption | decide | omega)) rfl rfl (Nat.le_of_ble_eq_true rfl) (gP_13 (by first | assumption | decide | omega) (by first | assumption | decide | omega)) rfl rfl rfl ⟨Nat.le_of_ble_eq_true rfl, Nat.le_of_ble_eq_true rfl, Nat.le_of_ble_eq_true rfl, Nat.le_of_ble_eq_true rfl⟩ dX0_comeOn_15 (fun r4 V5 hz_6 => ?_)
  refine gG_ret hz_6.1 hz_6.2 ?_
  refine gG_st [.int (lat (S.2.1 (S.1 1)) 0), .ref (B.2.1 10 b 0)] rfl ?_
  cases hq : S.2.1 (S.1 1) with
  | nil =>
    refine gG_top (-1) (lat_nil rfl) ?_
    refine g_callV X hR (rest := []) mX0_cartAt lX0_57 (k_cartAtm hI V b S (by first | assumption | decide | omega) hS (by first | assumption | decide | omega)) rfl rfl (Nat.le_of_ble_eq_true rfl) (gP_10 (by first | assumption | decide | omega)) rfl rfl rfl ⟨Nat.le_of_ble_eq_true rfl, Nat.le_of_ble_eq_true rfl, Nat.le_of_ble_eq_true rfl, Nat.le_of_ble_eq_true rfl⟩ dX0_comeOn_18 (fun r7 V8 hz_9 => ?_)
    refine gG_ret hz_9.1 hz_9.2 ?_
    refine gG_st [.null] rfl ?_
    refine g_astore_nN X rfl dX0_comeOn_21 [(2, .null), (1, .ref (B.2.1 12 b (S.1 1))), (0, .ref (B.2.1 10 b 0))] rfl (gnl_lt hnL (by decide)) ?_
    refine g_aload_nN X 0 rfl dX0_comeOn_22 ?_
    refine g_ifnullN X 34 (by decide) dX0_comeOn_23 ?_
    refine g_vret X F ?_ rfl dX0_comeOn_34
    rw [show sCome S = S by unfold sCome; rw [hq]]
    exact ⟨rfl, hS, brmod.rf⟩
  | cons i ys =>
    have hiq : i ∈ S.2.1 (S.1 1) := by rw [hq]; exact List.mem_cons_self
    obtain ⟨hi, hst, hend⟩ := hw.qmem hd hiq
    have hci := hw.2.1 i hi
    refine gG_top (nI i) (lat_cons rfl) ?_
    refine g_callV X hR (rest := []) mX0_cartAt lX0_57 (k_cartAt hI V b S i (by first | assumption | decide | omega) hS (by first | assumption | decide | omega) (by first | assumption | decide | omega)) rfl rfl (Nat.le_of_ble_eq_true rfl) (gP_10 (by first | assumption | decide | omega)) rfl rfl rfl ⟨Nat.le_of_ble_eq_true rfl, Nat.le_of_ble_eq_true rfl, Nat.le_of_ble_eq_true rfl, Nat.le_of_ble_eq_true rfl⟩ dX0_comeOn_18 (fun r10 V11 hz_12 => ?_)
    refine gG_ret hz_12.1 hz_12.2 ?_
    refine gG_st [.ref (B.2.1 15 b i)] rfl ?_
    refine g_astore_n X rfl dX0_comeOn_21 [(2, .ref (B.2.1 15 b i)), (1, .ref (B.2.1 12 b (S.1 1))), (0, .ref (B.2.1 10 b 0))] rfl (gnl_lt hnL (by decide)) ?_
    refine g_aload_n X 0 rfl dX0_comeOn_22 ?_
    refine g_ifnull X dX0_comeOn_23 ?_
    refine g_aload_n X 2 rfl dX0_comeOn_26 ?_
    refine g_aload_n X 0 rfl dX0_comeOn_27 ?_
    refine g_callV X hR (rest := []) mX0_hasRoomFor lX0_169 (k_room hI V b S i (by first | assumption | decide | omega) hS hw.1 hw.2.1 (fun _ q => hw.mem q) hw.2.2.2.2.2.1 hi) rfl rfl (Nat.le_of_ble_eq_true rfl) (gP_10 (by first | assumption | decide | omega)) rfl rfl rfl ⟨Nat.le_of_ble_eq_true rfl, Nat.le_of_ble_eq_true rfl, Nat.le_of_ble_eq_true rfl, Nat.le_of_ble_eq_true rfl⟩ dX0_comeOn_28 (fun r13 V14 hz_15 => ?_)
    refine gG_ret hz_15.1 hz_15.2 ?_
    refine gG_st [.int (if sRoom S i = true then 1 else 0)] rfl ?_
    by_cases hroom : sRoom S i = true
    · refine gG_top 1 (if_pos hroom) ?_
      refine g_if_ne X 35 (by decide) dX0_comeOn_31 (fun c16 => ?_) (fun c16 => ?_)
      · refine g_aload_n X 1 rfl dX0_comeOn_35 ?_
        refine gg_X3_waiting X (gP_12 (by first | assumption | decide | omega) (by first | assumption | decide | omega)) fX0_157 dX0_comeOn_36 ?_
        refine g_callV X hR (rest := []) mX5_removeFirst lX0_147 (k_removeFirst hI V b (S.1 1) i ys (by first | assumption | decide | omega) (by omega) (by have := hS.2.1 (S.1 1) (by omega); rw [hq] at this; exact this)) rfl rfl (Nat.le_of_ble_eq_true rfl) (gP_13 (by first | assumption | decide | omega) (by first | assumption | decide | omega)) rfl rfl rfl ⟨Nat.le_of_ble_eq_true rfl, Nat.le_of_ble_eq_true rfl, Nat.le_of_ble_eq_true rfl, Nat.le_of_ble_eq_true rfl⟩ dX0_comeOn_39 (fun r17 V18 hz_19 => ?_)
        refine gG_rv hz_19.1 ?_
        obtain ⟨-, hrowV18, hmodV18⟩ := hz_19
        obtain ⟨S20, eS20⟩ : ∃ y, y = sQ S (S.1 1) ys := ⟨_, rfl⟩
        have hS20 : AbsC V18 b S20 := by rw [eS20]; exact hS.setQ hrowV18 hmodV18
        have mS20 : brmod V V18 b := brmod.rf.trans hmodV18.br
        have nS20 : S20.1 = S.1 := by rw [eS20]; exact rfl
        refine gG_st [] rfl ?_
        have hc1 : sCartOk S20 i := by rw [eS20]; exact hci
        have hn1 : sNumOk S20 := by rw [eS20]; exact hw.1
        have hi1 : i < S20.1 6 := by rw [nS20]; exact hi
        have hst1 : S20.2.2.2.1 i 8 = 0 := by rw [eS20]; exact hst
        have hl1 : (S20.2.1 2).length < 16 := by rw [eS20]; show (if 2 = S.1 1 then ys else S.2.1 2).length < 16; rw [if_neg (by omega)]; exact hw.lt16 hi (by omega)
        refine g_aload_n X 0 rfl dX0_comeOn_42 ?_
        refine gg_X1_hasPaid X (gP_15 (by first | assumption | decide | omega) (by first | assumption | decide | omega)) fX0_173 dX0_comeOn_43 ?_
        refine gG_top (nI (S20.2.2.2.1 i 7)) (hS20.2.2.2.1 i (by rw [nS20]; first | assumption | omega) 7 (by decide) (by decide)) ?_
        by_cases hp : S20.2.2.2.1 i 7 = 0
        · refine gG_top 0 (by rw [hp]; rfl) ?_
          refine g_if_ne X 58 (by decide) dX0_comeOn_46 (fun c21 => ?_) (fun c21 => ?_)
          ·  exact absurd c21 (by decide)
          · refine g_aload_n X 2 rfl dX0_comeOn_49 ?_
            refine g_aload_n X 0 rfl dX0_comeOn_50 ?_
            refine g_aload_n X 1 rfl dX0_comeOn_51 ?_
            refine g_callV X hR (rest := []) mX0_pays lX0_177 (k_pays hI V18 b S20 (S.1 1) i (by first | assumption | decide | omega | (rw [nS20]; first | assumption | omega)) hS20 hd hi1 hn1 hc1) rfl rfl (Nat.le_of_ble_eq_true rfl) (gP_10 (by first | assumption | decide | omega)) rfl rfl rfl ⟨Nat.le_of_ble_eq_true rfl, Nat.le_of_ble_eq_true rfl, Nat.le_of_ble_eq_true rfl, Nat.le_of_ble_eq_true rfl⟩ dX0_comeOn_52 (fun r22 V23 hz_24 => ?_)
            refine gG_rv hz_24.1 ?_
            obtain ⟨-, haV23, hbV23⟩ := hz_24
            obtain ⟨S25, eS25⟩ : ∃ y, y = if S20.2.2.2.1 i 5 < sDue S20 i then S20 else sPay S20 (S.1 1) i := ⟨_, rfl⟩
            have hS25 : AbsC V23 b S25 := by rw [eS25]; exact haV23
            have mS25 : brmod V V23 b := mS20.trans hbV23
            refine gG_st [.int (if S20.2.2.2.1 i 5 < sDue S20 i then 0 else 1)] rfl ?_
            by_cases hd2 : S20.2.2.2.1 i 5 < sDue S20 i
            · refine gG_top 0 (if_pos hd2) ?_
              refine g_if_eq X 82 (by decide) dX0_comeOn_55 (fun c26 => ?_) (fun c26 => ?_)
              · have eP : S25 = S20 := by rw [eS25]; exact if_pos hd2
                refine g_aload_n X 0 rfl dX0_comeOn_82 ?_
                refine g_iconst X 3 (by decide) dX0_comeOn_83 ?_
                refine gp_X1_state X (gP_15 (by first | assumption | decide | omega) (by first | assumption | decide | omega)) fX0_74 dX0_comeOn_84 ?_
                refine gG_nm (fun V27 hV27 => ?_)
                obtain ⟨S28, eS28⟩ : ∃ y, y = sC S25 i 8 3 := ⟨_, rfl⟩
                have hS28 : AbsC V27 b S28 := by rw [eS28, hV27]; exact hS25.setC i 8 3 (by decide)
                have mS28 : brmod V V27 b := by rw [hV27]; exact mS25.up (by decide) (by decide)
                have nS28 : S28.1 = S25.1 := by rw [eS28]; exact rfl
                refine g_vret X F ?_ rfl dX0_comeOn_87
                have hfin : S28 = sCome S := by
                  rw [eS28, eP]
                  unfold sCome
                  rw [hq]
                  simp only []
                  rw [if_pos hroom]
                  rw [eS20] at hp hd2 ⊢
                  rw [if_pos ⟨hp, hd2⟩]
                exact ⟨rfl, hfin ▸ hS28, mS28⟩
              ·  exact absurd c26 (by decide)
            · refine gG_top 1 (if_neg hd2) ?_
              refine g_if_eq X 82 (by decide) dX0_comeOn_55 (fun c29 => ?_) (fun c29 => ?_)
              ·  exact absurd c29 (by decide)
              · have eP : S25 = sPay S20 (S.1 1) i := by rw [eS25]; exact if_neg hd2
                have hl2 : (S25.2.1 2).length < 16 := by rw [eP]; exact hl1
                have hi2 : i < S25.1 6 := by rw [eP]; exact hi1
                refine g_aload_n X 0 rfl dX0_comeOn_58 ?_
                refine g_iconst X 1 (by decide) dX0_comeOn_59 ?_
                refine gp_X1_state X (gP_15 (by first | assumption | decide | omega) (by first | assumption | decide | omega)) fX0_74 dX0_comeOn_60 ?_
                refine gG_nm (fun V30 hV30 => ?_)
                obtain ⟨S31, eS31⟩ : ∃ y, y = sC S25 i 8 1 := ⟨_, rfl⟩
                have hS31 : AbsC V30 b S31 := by rw [eS31, hV30]; exact hS25.setC i 8 1 (by decide)
                have mS31 : brmod V V30 b := by rw [hV30]; exact mS25.up (by decide) (by decide)
                have nS31 : S31.1 = S25.1 := by rw [eS31]; exact rfl
                refine g_aload_n X 0 rfl dX0_comeOn_63 ?_
                refine g_iconst X 0 (by decide) dX0_comeOn_64 ?_
                refine gp_X1_way X (gP_15 (by first | assumption | decide | omega) (by first | assumption | decide | omega)) fX0_133 dX0_comeOn_65 ?_
                refine gG_nm (fun V32 hV32 => ?_)
                obtain ⟨S33, eS33⟩ : ∃ y, y = sC S31 i 9 0 := ⟨_, rfl⟩
                have hS33 : AbsC V32 b S33 := by rw [eS33, hV32]; exact hS31.setC i 9 0 (by decide)
                have mS33 : brmod V V32 b := by rw [hV32]; exact mS31.up (by decide) (by decide)
                have nS33 : S33.1 = S25.1 := by rw [eS33]; exact nS31
                refine g_aload_n X 2 rfl dX0_comeOn_68 ?_
                refine gg_X0_crossing X (gP_10 (by first | assumption | decide | omega)) fX0_43 dX0_comeOn_69 ?_
                refine g_aload_n X 0 rfl dX0_comeOn_72 ?_
                refine gg_X1_number X (gP_15 (by first | assumption | decide | omega) (by first | assumption | decide | omega)) fX0_160 dX0_comeOn_73 ?_
                refine gG_top (nI i) (hS33.2.2.2.2.2.1 i (by first | assumption | omega)) ?_
                refine g_callV X hR (rest := []) mX5_addLast lX0_181 (k_addLast hI V32 b 2 (S33.2.1 2) i (by first | assumption | decide | omega | (rw [nS33]; first | assumption | omega)) (by first | assumption | decide | omega | (rw [nS33]; first | assumption | omega)) (hS33.2.1 2 (by decide)) (by rw [eS33, eS31]; exact hl2)) rfl rfl (Nat.le_of_ble_eq_true rfl) (gP_13 (by first | assumption | decide | omega) (by first | assumption | decide | omega)) rfl rfl rfl ⟨Nat.le_of_ble_eq_true rfl, Nat.le_of_ble_eq_true rfl, Nat.le_of_ble_eq_true rfl, Nat.le_of_ble_eq_true rfl⟩ dX0_comeOn_76 (fun r34 V35 hz_36 => ?_)
                refine gG_rv hz_36.1 ?_
                obtain ⟨-, hrowV35, hmodV35⟩ := hz_36
                obtain ⟨S37, eS37⟩ : ∃ y, y = sQ S33 2 ((S33.2.1 2) ++ [i]) := ⟨_, rfl⟩
                have hS37 : AbsC V35 b S37 := by rw [eS37]; exact hS33.setQ hrowV35 hmodV35
                have mS37 : brmod V V35 b := mS33.trans hmodV35.br
                have nS37 : S37.1 = S25.1 := by rw [eS37]; exact nS33
                refine gG_st [] rfl ?_
                refine g_goto X 87 (by decide) dX0_comeOn_79 ?_
                refine g_vret X F ?_ rfl dX0_comeOn_87
                have hfin : S37 = sCome S := by
                  rw [eS37, eS33, eS31, eP]
                  unfold sCome
                  rw [hq]
                  simp only []
                  rw [if_pos hroom]
                  rw [eS20] at hp hd2 ⊢
                  rw [if_neg (fun q => hd2 q.2), if_pos hp]
                exact ⟨rfl, hfin ▸ hS37, mS37⟩
        · skip
          refine g_if_ne X 58 (by decide) dX0_comeOn_46 (fun c38 => ?_) (fun c38 => ?_)
          · refine g_aload_n X 0 rfl dX0_comeOn_58 ?_
            refine g_iconst X 1 (by decide) dX0_comeOn_59 ?_
            refine gp_X1_state X (gP_15 (by first | assumption | decide | omega) (by first | assumption | decide | omega)) fX0_74 dX0_comeOn_60 ?_
            refine gG_nm (fun V39 hV39 => ?_)
            obtain ⟨S40, eS40⟩ : ∃ y, y = sC S20 i 8 1 := ⟨_, rfl⟩
            have hS40 : AbsC V39 b S40 := by rw [eS40, hV39]; exact hS20.setC i 8 1 (by decide)
            have mS40 : brmod V V39 b := by rw [hV39]; exact mS20.up (by decide) (by decide)
            have nS40 : S40.1 = S.1 := by rw [eS40]; exact nS20
            refine g_aload_n X 0 rfl dX0_comeOn_63 ?_
            refine g_iconst X 0 (by decide) dX0_comeOn_64 ?_
            refine gp_X1_way X (gP_15 (by first | assumption | decide | omega) (by first | assumption | decide | omega)) fX0_133 dX0_comeOn_65 ?_
            refine gG_nm (fun V41 hV41 => ?_)
            obtain ⟨S42, eS42⟩ : ∃ y, y = sC S40 i 9 0 := ⟨_, rfl⟩
            have hS42 : AbsC V41 b S42 := by rw [eS42, hV41]; exact hS40.setC i 9 0 (by decide)
            have mS42 : brmod V V41 b := by rw [hV41]; exact mS40.up (by decide) (by decide)
            have nS42 : S42.1 = S.1 := by rw [eS42]; exact nS40
            refine g_aload_n X 2 rfl dX0_comeOn_68 ?_
            refine gg_X0_crossing X (gP_10 (by first | assumption | decide | omega)) fX0_43 dX0_comeOn_69 ?_
            refine g_aload_n X 0 rfl dX0_comeOn_72 ?_
            refine gg_X1_number X (gP_15 (by first | assumption | decide | omega) (by first | assumption | decide | omega)) fX0_160 dX0_comeOn_73 ?_
            refine gG_top (nI i) (hS42.2.2.2.2.2.1 i (by first | assumption | omega)) ?_
            refine g_callV X hR (rest := []) mX5_addLast lX0_181 (k_addLast hI V41 b 2 (S42.2.1 2) i (by first | assumption | decide | omega | (rw [nS42]; first | assumption | omega)) (by first | assumption | decide | omega | (rw [nS42]; first | assumption | omega)) (hS42.2.1 2 (by decide)) (by rw [eS42, eS40]; exact hl1)) rfl rfl (Nat.le_of_ble_eq_true rfl) (gP_13 (by first | assumption | decide | omega) (by first | assumption | decide | omega)) rfl rfl rfl ⟨Nat.le_of_ble_eq_true rfl, Nat.le_of_ble_eq_true rfl, Nat.le_of_ble_eq_true rfl, Nat.le_of_ble_eq_true rfl⟩ dX0_comeOn_76 (fun r43 V44 hz_45 => ?_)
            refine gG_rv hz_45.1 ?_
            obtain ⟨-, hrowV44, hmodV44⟩ := hz_45
            obtain ⟨S46, eS46⟩ : ∃ y, y = sQ S42 2 ((S42.2.1 2) ++ [i]) := ⟨_, rfl⟩
            have hS46 : AbsC V44 b S46 := by rw [eS46]; exact hS42.setQ hrowV44 hmodV44
            have mS46 : brmod V V44 b := mS42.trans hmodV44.br
            have nS46 : S46.1 = S.1 := by rw [eS46]; exact nS42
            refine gG_st [] rfl ?_
            refine g_goto X 87 (by decide) dX0_comeOn_79 ?_
            refine g_vret X F ?_ rfl dX0_comeOn_87
            have hfin : S46 = sCome S := by
              rw [eS46, eS42, eS40]
              unfold sCome
              rw [hq]
              simp only []
              rw [if_pos hroom]
              rw [eS20] at hp ⊢
              rw [if_neg (fun q => hp q.1), if_neg hp]
            exact ⟨rfl, hfin ▸ hS46, mS46⟩
          · first | exact absurd (nI_ne0 (by omega) (by have := hc1.2.2.2.2.2.2.1; omega)) c38 | exact absurd c38 (nI_ne0 (by omega) (by have := hc1.2.2.2.2.2.2.1; omega))
      ·  exact absurd c16 (by decide)
    · refine gG_top 0 (if_neg hroom) ?_
      refine g_if_ne X 35 (by decide) dX0_comeOn_31 (fun c47 => ?_) (fun c47 => ?_)
      ·  exact absurd c47 (by decide)
      · refine g_vret X F ?_ rfl dX0_comeOn_34
        rw [show sCome S = S by unfold sCome; rw [hq]; simp [hroom]]
        exact ⟨rfl, hS, brmod.rf⟩

