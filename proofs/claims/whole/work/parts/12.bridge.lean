abbrev rmX0_gateAt : Room := { frames := 0, cells := 0, slots := 0, locals := 0 }
set_option maxRecDepth 20000 in
theorem k_gateAt {l : Launch} {B : gB} (hI : gI B) (V : gMem) (b : Nat) (e : Nat) (hb : b < 3) (he : e < 2) : gM l B yX0_gateAt cX0_gateAt 2 (some (.object "FogBridge$Gate")) rmX0_gateAt [.ref (B.2.1 10 b 0), .int (nI e)] V (fun v V' => v = some (.ref (B.2.1 12 b e)) ∧ V' = V) := by
  refine gM_of (own := RX0) (L := [(0, .ref (B.2.1 10 b 0)), (1, .int (nI e))]) (by decide +kernel) rfl hI (Nat.le_of_ble_eq_true rfl) rfl ?_
  intro Z hnL hR X F
  refine g_iload_n X 1 rfl dX0_gateAt_0 ?_
  by_cases h0 : e = 0
  · skip
    refine g_if_ne X 11 (by decide) dX0_gateAt_1 (fun c1 => ?_) (fun c1 => ?_)
    · exact absurd c1 (fun q => q (by rw [h0]; rfl))
    · refine g_aload_n X 0 rfl dX0_gateAt_4 ?_
      refine gg_X0_firstGate X (gP_10 (by first | assumption | decide | omega)) fX0_33 dX0_gateAt_5 ?_
      refine g_goto X 15 (by decide) dX0_gateAt_8 ?_
      refine g_aret X F (Or.inr ⟨_, rfl⟩) ?_ rfl dX0_gateAt_15
      exact ⟨by rw [h0], rfl⟩
  · have h1 : e = 1 := by omega
    refine g_if_ne X 11 (by decide) dX0_gateAt_1 (fun c2 => ?_) (fun c2 => ?_)
    · refine g_aload_n X 0 rfl dX0_gateAt_11 ?_
      refine gg_X0_secondGate X (gP_10 (by first | assumption | decide | omega)) fX0_37 dX0_gateAt_12 ?_
      refine g_aret X F (Or.inr ⟨_, rfl⟩) ?_ rfl dX0_gateAt_15
      exact ⟨by rw [h1], rfl⟩
    · first | exact absurd (nI_ne0 (by omega) (by omega)) c2 | exact absurd c2 (nI_ne0 (by omega) (by omega))

abbrev rmX0_cartAt : Room := { frames := 1, cells := 0, slots := 0, locals := 21 }
set_option maxRecDepth 20000 in
theorem k_cartAt {l : Launch} {B : gB} (hI : gI B) (V : gMem) (b : Nat) (S : gSt) (i : Nat) (hb : b < 3) (hS : AbsC V b S) (hn : S.1 6 ≤ 16) (hi : i < S.1 6) : gM l B yX0_cartAt cX0_cartAt 2 (some (.object "FogBridge$Cart")) rmX0_cartAt [.ref (B.2.1 10 b 0), .int (nI i)] V (fun v V' => v = some (.ref (B.2.1 15 b i)) ∧ V' = V) := by
  refine gM_of (own := RX0) (L := [(0, .ref (B.2.1 10 b 0)), (1, .int (nI i))]) (by decide +kernel) rfl hI (Nat.le_of_ble_eq_true rfl) rfl ?_
  intro Z hnL hR X F
  refine g_iload_n X 1 rfl dX0_cartAt_0 ?_
  refine g_aload_n X 0 rfl dX0_cartAt_1 ?_
  refine gg_X0_cartCount X (gP_10 (by first | assumption | decide | omega)) fX0_50 dX0_cartAt_2 ?_
  refine gG_top (nI (S.1 6)) (hS.1 6 (by decide)) ?_
  refine g_icmp_ge X 29 (by decide) dX0_cartAt_5 (fun c1 => ?_) (fun c1 => ?_)
  · first | exact absurd (nI_ge hi (by omega)) c1 | exact absurd c1 (nI_ge hi (by omega))
  · have hi16 : i < 16 := by omega
    refine g_iload_n X 1 rfl dX0_cartAt_8 ?_
    refine g_aload_n X 0 rfl dX0_cartAt_9 ?_
    refine gg_X0_carts X (gP_10 (by first | assumption | decide | omega)) fX0_26 dX0_cartAt_10 ?_
    refine g_alenC X (by first | assumption | decide | omega) dX0_cartAt_13 ?_
    refine g_callS X hR (As := [.int (nI i), .int 16]) (rest := []) mX6_isIndex lX0_53 (k_isIndex1 hI V (nI i) 16 (nI_pos' (by omega)) (nI_lt (b := 16) hi16 (by decide))) rfl rfl (Nat.le_of_ble_eq_true rfl) ⟨Nat.le_of_ble_eq_true rfl, Nat.le_of_ble_eq_true rfl, Nat.le_of_ble_eq_true rfl, Nat.le_of_ble_eq_true rfl⟩ dX0_cartAt_14 (fun r2 V3 h4 => ?_)
    refine gG_ret h4.1 h4.2 ?_
    refine gG_st [.int 1] rfl ?_
    refine g_if_eq X 29 (by decide) dX0_cartAt_17 (fun c5 => ?_) (fun c5 => ?_)
    · exact absurd c5 (by decide)
    · refine g_aload_n X 0 rfl dX0_cartAt_20 ?_
      refine gg_X0_carts X (gP_10 (by first | assumption | decide | omega)) fX0_26 dX0_cartAt_21 ?_
      refine g_iload_n X 1 rfl dX0_cartAt_24 ?_
      refine g_aaldC X (i) rfl hi16 (by first | assumption | decide | omega) dX0_cartAt_25 ?_
      refine g_goto X 30 (by decide) dX0_cartAt_26 ?_
      refine g_aret X F (Or.inr ⟨_, rfl⟩) ?_ rfl dX0_cartAt_30
      exact ⟨rfl, rfl⟩

set_option maxRecDepth 20000 in
theorem k_cartAtm {l : Launch} {B : gB} (hI : gI B) (V : gMem) (b : Nat) (S : gSt) (hb : b < 3) (hS : AbsC V b S) (hn : S.1 6 ≤ 16) : gM l B yX0_cartAt cX0_cartAt 2 (some (.object "FogBridge$Cart")) rmX0_cartAt [.ref (B.2.1 10 b 0), .int ((-1))] V (fun v V' => v = some .null ∧ V' = V) := by
  refine gM_of (own := RX0) (L := [(0, .ref (B.2.1 10 b 0)), (1, .int ((-1)))]) (by decide +kernel) rfl hI (Nat.le_of_ble_eq_true rfl) rfl ?_
  intro Z hnL hR X F
  refine g_iload_n X 1 rfl dX0_cartAt_0 ?_
  refine g_aload_n X 0 rfl dX0_cartAt_1 ?_
  refine gg_X0_cartCount X (gP_10 (by first | assumption | decide | omega)) fX0_50 dX0_cartAt_2 ?_
  refine gG_top (nI (S.1 6)) (hS.1 6 (by decide)) ?_
  refine g_icmp_ge X 29 (by decide) dX0_cartAt_5 (fun c1 => ?_) (fun c1 => ?_)
  · exact absurd c1 (fun q => absurd (Int32.le_trans (nI_pos' (by omega)) q) (by decide))
  · refine g_iload_n X 1 rfl dX0_cartAt_8 ?_
    refine g_aload_n X 0 rfl dX0_cartAt_9 ?_
    refine gg_X0_carts X (gP_10 (by first | assumption | decide | omega)) fX0_26 dX0_cartAt_10 ?_
    refine g_alenC X (by first | assumption | decide | omega) dX0_cartAt_13 ?_
    refine g_callS X hR (As := [.int ((-1)), .int 16]) (rest := []) mX6_isIndex lX0_53 (k_isIndexN hI V (-1) 16 (by decide)) rfl rfl (Nat.le_of_ble_eq_true rfl) ⟨Nat.le_of_ble_eq_true rfl, Nat.le_of_ble_eq_true rfl, Nat.le_of_ble_eq_true rfl, Nat.le_of_ble_eq_true rfl⟩ dX0_cartAt_14 (fun r2 V3 h4 => ?_)
    refine gG_ret h4.1 h4.2 ?_
    refine gG_st [.int 0] rfl ?_
    refine g_if_eq X 29 (by decide) dX0_cartAt_17 (fun c5 => ?_) (fun c5 => ?_)
    · refine g_null X dX0_cartAt_29 ?_
      refine g_aret X F (Or.inl rfl) ?_ rfl dX0_cartAt_30
      exact ⟨rfl, rfl⟩
    · exact absurd (rfl) c5

set_option maxRecDepth 20000 in
theorem k_cartAtout {l : Launch} {B : gB} (hI : gI B) (V : gMem) (b : Nat) (S : gSt) (x : Int32) (hb : b < 3) (hS : AbsC V b S) (hn : S.1 6 ≤ 16) (hx : ¬ (0 ≤ x ∧ x < nI (S.1 6))) : gM l B yX0_cartAt cX0_cartAt 2 (some (.object "FogBridge$Cart")) rmX0_cartAt [.ref (B.2.1 10 b 0), .int x] V (fun v V' => v = some .null ∧ V' = V) := by
  refine gM_of (own := RX0) (L := [(0, .ref (B.2.1 10 b 0)), (1, .int x)]) (by decide +kernel) rfl hI (Nat.le_of_ble_eq_true rfl) rfl ?_
  intro Z hnL hR X F
  refine g_iload_n X 1 rfl dX0_cartAt_0 ?_
  refine g_aload_n X 0 rfl dX0_cartAt_1 ?_
  refine gg_X0_cartCount X (gP_10 (by first | assumption | decide | omega)) fX0_50 dX0_cartAt_2 ?_
  refine gG_top (nI (S.1 6)) (hS.1 6 (by decide)) ?_
  refine g_icmp_ge X 29 (by decide) dX0_cartAt_5 (fun c1 => ?_) (fun c1 => ?_)
  · refine g_null X dX0_cartAt_29 ?_
    refine g_aret X F (Or.inl rfl) ?_ rfl dX0_cartAt_30
    exact ⟨rfl, rfl⟩
  · refine g_iload_n X 1 rfl dX0_cartAt_8 ?_
    refine g_aload_n X 0 rfl dX0_cartAt_9 ?_
    refine gg_X0_carts X (gP_10 (by first | assumption | decide | omega)) fX0_26 dX0_cartAt_10 ?_
    refine g_alenC X (by first | assumption | decide | omega) dX0_cartAt_13 ?_
    have hx0 : x < 0 := Int32.not_le.mp fun q => hx ⟨q, Int32.not_le.mp c1⟩
    refine g_callS X hR (As := [.int x, .int 16]) (rest := []) mX6_isIndex lX0_53 (k_isIndexN hI V x 16 hx0) rfl rfl (Nat.le_of_ble_eq_true rfl) ⟨Nat.le_of_ble_eq_true rfl, Nat.le_of_ble_eq_true rfl, Nat.le_of_ble_eq_true rfl, Nat.le_of_ble_eq_true rfl⟩ dX0_cartAt_14 (fun r2 V3 h4 => ?_)
    refine gG_ret h4.1 h4.2 ?_
    refine gG_st [.int 0] rfl ?_
    refine g_if_eq X 29 (by decide) dX0_cartAt_17 (fun c5 => ?_) (fun c5 => ?_)
    · refine g_null X dX0_cartAt_29 ?_
      refine g_aret X F (Or.inl rfl) ?_ rfl dX0_cartAt_30
      exact ⟨rfl, rfl⟩
    · exact absurd (rfl) c5

def sToll (S : gSt) (ax wt : Nat) : Nat := ax * S.1 4 + wt / 10 * S.1 5

abbrev rmX0_tollFor : Room := { frames := 0, cells := 0, slots := 0, locals := 0 }
set_option maxRecDepth 20000 in
theorem k_tollFor {l : Launch} {B : gB} (hI : gI B) (V : gMem) (b : Nat) (S : gSt) (ax : Nat) (wt : Nat) (hb : b < 3) (hS : AbsC V b S) (hw : wt < 2 ^ 31) : gM l B yX0_tollFor cX0_tollFor 3 (some .int) rmX0_tollFor [.ref (B.2.1 10 b 0), .int (nI ax), .int (nI wt)] V (fun v V' => v = some (.int (nI (sToll S ax wt))) ∧ V' = V) := by
  refine gM_of (own := RX0) (L := [(0, .ref (B.2.1 10 b 0)), (1, .int (nI ax)), (2, .int (nI wt))]) (by decide +kernel) rfl hI (Nat.le_of_ble_eq_true rfl) rfl ?_
  intro Z hnL hR X F
  refine g_iload_n X 1 rfl dX0_tollFor_0 ?_
  refine g_aload_n X 0 rfl dX0_tollFor_1 ?_
  refine gg_X0_axleToll X (gP_10 (by first | assumption | decide | omega)) fX0_18 dX0_tollFor_2 ?_
  refine gG_top (nI (S.1 4)) (hS.1 4 (by decide)) ?_
  refine g_imul X dX0_tollFor_5 ?_
  refine gG_top (nI (ax * (S.1 4))) (pk_mul ax (S.1 4)) ?_
  refine g_iload_n X 2 rfl dX0_tollFor_6 ?_
  refine g_bipush X 10 (by decide) dX0_tollFor_7 ?_
  refine g_idiv X (by decide) dX0_tollFor_9 ?_
  refine gG_top (nI (wt / 10)) (pk_div (d := 10) hw (by decide) (by decide)) ?_
  refine g_aload_n X 0 rfl dX0_tollFor_10 ?_
  refine gg_X0_tenToll X (gP_10 (by first | assumption | decide | omega)) fX0_21 dX0_tollFor_11 ?_
  refine gG_top (nI (S.1 5)) (hS.1 5 (by decide)) ?_
  refine g_imul X dX0_tollFor_14 ?_
  refine gG_top (nI ((wt / 10) * (S.1 5))) (pk_mul (wt / 10) (S.1 5)) ?_
  refine g_iadd X dX0_tollFor_15 ?_
  refine gG_top (nI ((ax * (S.1 4)) + ((wt / 10) * (S.1 5)))) (nI_add (ax * (S.1 4)) ((wt / 10) * (S.1 5))) ?_
  refine g_iret X F ?_ rfl dX0_tollFor_16
  exact ⟨rfl, rfl⟩

def sTake (S : gSt) (e i pd hn : Nat) : gSt :=
  let S1 := sG S e 1 (S.2.2.1 e 1 + pd)
  let S2 := sG S1 e 2 (S1.2.2.1 e 2 + 1)
  let S3 := sG S2 e 3 (S2.2.2.1 e 3 + S2.2.2.2.1 i 2)
  sG S3 e 4 (S3.2.2.1 e 4 + (hn - pd))

abbrev rmX3_take : Room := { frames := 0, cells := 0, slots := 0, locals := 0 }
set_option maxRecDepth 20000 in
theorem k_take {l : Launch} {B : gB} (hI : gI B) (V : gMem) (b : Nat) (S : gSt) (e : Nat) (i : Nat) (pd : Nat) (hn : Nat) (hb : b < 3) (hS : AbsC V b S) (he : e < 2) (hi : i < S.1 6) (hN : S.1 6 ≤ 16) (hp : pd ≤ hn) : gM l B yX3_take cX3_take 4 none rmX3_take [.ref (B.2.1 12 b e), .ref (B.2.1 15 b i), .int (nI pd), .int (nI hn)] V (fun v V' => v = none ∧ AbsC V' b (sTake S e i pd hn) ∧ brmod V V' b) := by
  refine gM_of (own := RX3) (L := [(0, .ref (B.2.1 12 b e)), (1, .ref (B.2.1 15 b i)), (2, .int (nI pd)), (3, .int (nI hn))]) (by decide +kernel) rfl hI (Nat.le_of_ble_eq_true rfl) rfl ?_
  intro Z hnL hR X F
  refine g_aload_n X 0 rfl dX3_take_0 ?_
  refine g_dup X rfl dX3_take_1 ?_
  refine gg_X3_coins X (gP_12 (by first | assumption | decide | omega) (by first | assumption | decide | omega)) fX3_18 dX3_take_2 ?_
  refine gG_top (nI (S.2.2.1 e 1)) (hS.2.2.1 e (by first | assumption | decide | omega) 1 (by decide) (by decide)) ?_
  refine g_iload_n X 2 rfl dX3_take_5 ?_
  refine g_iadd X dX3_take_6 ?_
  refine gG_top (nI ((S.2.2.1 e 1) + pd)) (nI_add (S.2.2.1 e 1) pd) ?_
  refine gp_X3_coins X (gP_12 (by first | assumption | decide | omega) (by first | assumption | decide | omega)) fX3_18 dX3_take_7 ?_
  refine gG_nm (fun V1 hV1 => ?_)
  obtain ⟨S2, eS2⟩ : ∃ y, y = sG S e 1 ((S.2.2.1 e 1) + pd) := ⟨_, rfl⟩
  have hS2 : AbsC V1 b S2 := by rw [eS2, hV1]; exact hS.setG e 1 ((S.2.2.1 e 1) + pd)
  have mS2 : brmod V V1 b := by rw [hV1]; exact brmod.rf.up (by decide) (by decide)
  have nS2 : S2.1 = S.1 := by rw [eS2]; exact rfl
  refine g_aload_n X 0 rfl dX3_take_10 ?_
  refine g_dup X rfl dX3_take_11 ?_
  refine gg_X3_payers X (gP_12 (by first | assumption | decide | omega) (by first | assumption | decide | omega)) fX3_22 dX3_take_12 ?_
  refine gG_top (nI (S2.2.2.1 e 2)) (hS2.2.2.1 e (by first | assumption | decide | omega) 2 (by decide) (by decide)) ?_
  refine g_iconst X 1 (by decide) dX3_take_15 ?_
  refine g_iadd X dX3_take_16 ?_
  refine gG_top (nI ((S2.2.2.1 e 2) + 1)) (nI_1 _) ?_
  refine gp_X3_payers X (gP_12 (by first | assumption | decide | omega) (by first | assumption | decide | omega)) fX3_22 dX3_take_17 ?_
  refine gG_nm (fun V3 hV3 => ?_)
  obtain ⟨S4, eS4⟩ : ∃ y, y = sG S2 e 2 ((S2.2.2.1 e 2) + 1) := ⟨_, rfl⟩
  have hS4 : AbsC V3 b S4 := by rw [eS4, hV3]; exact hS2.setG e 2 ((S2.2.2.1 e 2) + 1)
  have mS4 : brmod V V3 b := by rw [hV3]; exact mS2.up (by decide) (by decide)
  have nS4 : S4.1 = S.1 := by rw [eS4]; exact nS2
  refine g_aload_n X 0 rfl dX3_take_20 ?_
  refine g_dup X rfl dX3_take_21 ?_
  refine gg_X3_axles X (gP_12 (by first | assumption | decide | omega) (by first | assumption | decide | omega)) fX3_25 dX3_take_22 ?_
  refine gG_top (nI (S4.2.2.1 e 3)) (hS4.2.2.1 e (by first | assumption | decide | omega) 3 (by decide) (by decide)) ?_
  refine g_aload_n X 1 rfl dX3_take_25 ?_
  refine gg_X1_axles X (gP_15 (by first | assumption | decide | omega) (by first | assumption | decide | omega)) fX3_28 dX3_take_26 ?_
  refine gG_top (nI (S4.2.2.2.1 i 2)) (hS4.2.2.2.1 i (by rw [nS4]; first | assumption | omega) 2 (by decide) (by decide)) ?_
  refine g_iadd X dX3_take_29 ?_
  refine gG_top (nI ((S4.2.2.1 e 3) + (S4.2.2.2.1 i 2))) (nI_add (S4.2.2.1 e 3) (S4.2.2.2.1 i 2)) ?_
  refine gp_X3_axles X (gP_12 (by first | assumption | decide | omega) (by first | assumption | decide | omega)) fX3_25 dX3_take_30 ?_
  refine gG_nm (fun V5 hV5 => ?_)
  obtain ⟨S6, eS6⟩ : ∃ y, y = sG S4 e 3 ((S4.2.2.1 e 3) + (S4.2.2.2.1 i 2)) := ⟨_, rfl⟩
  have hS6 : AbsC V5 b S6 := by rw [eS6, hV5]; exact hS4.setG e 3 ((S4.2.2.1 e 3) + (S4.2.2.2.1 i 2))
  have mS6 : brmod V V5 b := by rw [hV5]; exact mS4.up (by decide) (by decide)
  have nS6 : S6.1 = S.1 := by rw [eS6]; exact nS4
  refine g_aload_n X 0 rfl dX3_take_33 ?_
  refine g_dup X rfl dX3_take_34 ?_
  refine gg_X3_keptByCheats X (gP_12 (by first | assumption | decide | omega) (by first | assumption | decide | omega)) fX3_31 dX3_take_35 ?_
  refine gG_top (nI (S6.2.2.1 e 4)) (hS6.2.2.1 e (by first | assumption | decide | omega) 4 (by decide) (by decide)) ?_
  refine g_iload_n X 3 rfl dX3_take_38 ?_
  refine g_iload_n X 2 rfl dX3_take_39 ?_
  refine g_isub X dX3_take_40 ?_
  refine gG_top (nI (hn - pd)) (pk_sub hp) ?_
  refine g_iadd X dX3_take_41 ?_
  refine gG_top (nI ((S6.2.2.1 e 4) + (hn - pd))) (nI_add (S6.2.2.1 e 4) (hn - pd)) ?_
  refine gp_X3_keptByCheats X (gP_12 (by first | assumption | decide | omega) (by first | assumption | decide | omega)) fX3_31 dX3_take_42 ?_
  refine gG_nm (fun V7 hV7 => ?_)
  obtain ⟨S8, eS8⟩ : ∃ y, y = sG S6 e 4 ((S6.2.2.1 e 4) + (hn - pd)) := ⟨_, rfl⟩
  have hS8 : AbsC V7 b S8 := by rw [eS8, hV7]; exact hS6.setG e 4 ((S6.2.2.1 e 4) + (hn - pd))
  have mS8 : brmod V V7 b := by rw [hV7]; exact mS6.up (by decide) (by decide)
  have nS8 : S8.1 = S.1 := by rw [eS8]; exact nS6
  refine g_vret X F ?_ rfl dX3_take_45
  subst eS8 eS6 eS4 eS2
  exact ⟨rfl, hS8, mS8⟩

def sDue (S : gSt) (i : Nat) : Nat := if S.2.2.2.1 i 6 = 0 then sToll S (S.2.2.2.1 i 2) (S.2.2.2.1 i 3) else sToll S 1 (S.2.2.2.1 i 3)
def sPay (S : gSt) (e i : Nat) : gSt := sTake (sC (sC S i 5 (S.2.2.2.1 i 5 - sDue S i)) i 7 1) e i (sDue S i) (sToll S (S.2.2.2.1 i 2) (S.2.2.2.1 i 3))
/-- the bounds that the document sets a cart and the tolls -/
def sCartOk (S : gSt) (i : Nat) : Prop := S.2.2.2.1 i 1 ≤ 1 ∧ (1 ≤ S.2.2.2.1 i 2 ∧ S.2.2.2.1 i 2 ≤ 4) ∧ S.2.2.2.1 i 3 ≤ 200 ∧ (1 ≤ S.2.2.2.1 i 4 ∧ S.2.2.2.1 i 4 ≤ 3) ∧ S.2.2.2.1 i 5 ≤ 100 ∧ S.2.2.2.1 i 6 ≤ 1 ∧ S.2.2.2.1 i 7 ≤ 1 ∧ S.2.2.2.1 i 8 ≤ 3
def sNumOk (S : gSt) : Prop := S.1 1 ≤ 1 ∧ (4 ≤ S.1 2 ∧ S.1 2 ≤ 30) ∧ S.1 3 ≤ 500 ∧ S.1 4 ≤ 9 ∧ S.1 5 ≤ 9 ∧ S.1 6 ≤ 16
theorem sToll_le {S : gSt} (h : sNumOk S) {a w : Nat} (ha : a ≤ 4) (hw : w ≤ 200) : sToll S a w ≤ 216 := by
  obtain ⟨-, -, -, h4, h5, -⟩ := h
  have h1 : a * S.1 4 ≤ 4 * 9 := Nat.mul_le_mul ha h4
  have h2 : w / 10 * S.1 5 ≤ 20 * 9 := Nat.mul_le_mul (by omega) h5
  unfold sToll
  omega
theorem sToll_one {S : gSt} {a w : Nat} (ha : 1 ≤ a) : sToll S 1 w ≤ sToll S a w := by
  unfold sToll
  have : 1 * S.1 4 ≤ a * S.1 4 := Nat.mul_le_mul_right _ ha
  omega
theorem sDue_le {S : gSt} {i : Nat} (h : sCartOk S i) : sDue S i ≤ sToll S (S.2.2.2.1 i 2) (S.2.2.2.1 i 3) := by
  unfold sDue
  split
  · exact Nat.le_refl _
  · exact sToll_one h.2.1.1
theorem sDue_216 {S : gSt} {i : Nat} (hn : sNumOk S) (h : sCartOk S i) : sDue S i ≤ 216 := Nat.le_trans (sDue_le h) (sToll_le hn h.2.1.2 h.2.2.1)

abbrev rmX0_pays : Room := { frames := 1, cells := 0, slots := 0, locals := 23 }
set_option maxRecDepth 20000 in
theorem k_pays {l : Launch} {B : gB} (hI : gI B) (V : gMem) (b : Nat) (S : gSt) (e : Nat) (i : Nat) (hb : b < 3) (hS : AbsC V b S) (he : e < 2) (hi : i < S.1 6) (hn : sNumOk S) (hc : sCartOk S i) : gM l B yX0_pays cX0_pays 5 (some .boolean) rmX0_pays [.ref (B.2.1 10 b 0), .ref (B.2.1 15 b i), .ref (B.2.1 12 b e)] V (fun v V' => v = some (.int (if S.2.2.2.1 i 5 < sDue S i then 0 else 1)) ∧ AbsC V' b (if S.2.2.2.1 i 5 < sDue S i then S else sPay S e i) ∧ brmod V V' b) := by
  refine gM_of (own := RX0) (L := [(0, .ref (B.2.1 10 b 0)), (1, .ref (B.2.1 15 b i)), (2, .ref (B.2.1 12 b e))]) (by decide +kernel) rfl hI (Nat.le_of_ble_eq_true rfl) rfl ?_
  intro Z hnL hR X F
  have hN : S.1 6 ≤ 16 := hn.2.2.2.2.2
  have h216 := sDue_216 hn hc
  have hle := sDue_le hc
  have hw2 := hc.2.2.1
  have hco := hc.2.2.2.2.1
  refine g_aload_n X 0 rfl dX0_pays_0 ?_
  refine g_aload_n X 1 rfl dX0_pays_1 ?_
  refine gg_X1_axles X (gP_15 (by first | assumption | decide | omega) (by first | assumption | decide | omega)) fX0_93 dX0_pays_2 ?_
  refine gG_top (nI (S.2.2.2.1 i 2)) (hS.2.2.2.1 i (by first | assumption | omega) 2 (by decide) (by decide)) ?_
  refine g_aload_n X 1 rfl dX0_pays_5 ?_
  refine gg_X1_weight X (gP_15 (by first | assumption | decide | omega) (by first | assumption | decide | omega)) fX0_87 dX0_pays_6 ?_
  refine gG_top (nI (S.2.2.2.1 i 3)) (hS.2.2.2.1 i (by first | assumption | omega) 3 (by decide) (by decide)) ?_
  refine g_callV X hR (rest := []) mX0_tollFor lX0_107 (k_tollFor hI V b S (S.2.2.2.1 i 2) (S.2.2.2.1 i 3) (by first | assumption | decide | omega) hS (by omega)) rfl rfl (Nat.le_of_ble_eq_true rfl) (gP_10 (by first | assumption | decide | omega)) rfl rfl rfl ⟨Nat.le_of_ble_eq_true rfl, Nat.le_of_ble_eq_true rfl, Nat.le_of_ble_eq_true rfl, Nat.le_of_ble_eq_true rfl⟩ dX0_pays_9 (fun r1 V2 h3 => ?_)
  refine gG_ret h3.1 h3.2 ?_
  refine gG_st [.int (nI (sToll S (S.2.2.2.1 i 2) (S.2.2.2.1 i 3)))] rfl ?_
  refine g_istore_n X rfl dX0_pays_12 [(3, .int (nI (sToll S (S.2.2.2.1 i 2) (S.2.2.2.1 i 3)))), (0, .ref (B.2.1 10 b 0)), (1, .ref (B.2.1 15 b i)), (2, .ref (B.2.1 12 b e))] rfl (gnl_lt hnL (by decide)) ?_
  refine g_aload_n X 2 rfl dX0_pays_13 ?_
  refine gg_X1_isCheat X (gP_15 (by first | assumption | decide | omega) (by first | assumption | decide | omega)) fX0_190 dX0_pays_14 ?_
  refine gG_top (nI (S.2.2.2.1 i 6)) (hS.2.2.2.1 i (by first | assumption | omega) 6 (by decide) (by decide)) ?_
  by_cases hz : S.2.2.2.1 i 6 = 0
  · skip
    refine g_if_eq X 32 (by decide) dX0_pays_17 (fun c4 => ?_) (fun c4 => ?_)
    · refine g_iload_n X 0 rfl dX0_pays_32 ?_
      refine gG_top (nI (sDue S i)) (by rw [show sDue S i = sToll S (S.2.2.2.1 i 2) (S.2.2.2.1 i 3) from if_pos hz]) ?_
      refine g_istore X dX0_pays_33 [(4, .int (nI (sDue S i))), (3, .int (nI (sToll S (S.2.2.2.1 i 2) (S.2.2.2.1 i 3)))), (0, .ref (B.2.1 10 b 0)), (1, .ref (B.2.1 15 b i)), (2, .ref (B.2.1 12 b e))] rfl (gnl_lt hnL (by decide)) ?_
      refine g_aload_n X 3 rfl dX0_pays_35 ?_
      refine gg_X1_coins X (gP_15 (by first | assumption | decide | omega) (by first | assumption | decide | omega)) fX0_99 dX0_pays_36 ?_
      refine gG_top (nI (S.2.2.2.1 i 5)) (hS.2.2.2.1 i (by first | assumption | omega) 5 (by decide) (by decide)) ?_
      refine g_iload X 0 rfl dX0_pays_39 ?_
      refine g_icmp_ge X 46 (by decide) dX0_pays_41 (fun c5 => ?_) (fun c5 => ?_)
      · refine g_aload_n X 3 rfl dX0_pays_46 ?_
        refine g_dup X rfl dX0_pays_47 ?_
        refine gg_X1_coins X (gP_15 (by first | assumption | decide | omega) (by first | assumption | decide | omega)) fX0_99 dX0_pays_48 ?_
        refine gG_top (nI (S.2.2.2.1 i 5)) (hS.2.2.2.1 i (by first | assumption | omega) 5 (by decide) (by decide)) ?_
        refine g_iload X 0 rfl dX0_pays_51 ?_
        refine g_isub X dX0_pays_53 ?_
        refine gG_top (nI (S.2.2.2.1 i 5 - sDue S i)) (pk_sub (by have := ixle c5 (by omega) (by omega); omega)) ?_
        refine gp_X1_coins X (gP_15 (by first | assumption | decide | omega) (by first | assumption | decide | omega)) fX0_99 dX0_pays_54 ?_
        refine gG_nm (fun V6 hV6 => ?_)
        obtain ⟨S7, eS7⟩ : ∃ y, y = sC S i 5 (S.2.2.2.1 i 5 - sDue S i) := ⟨_, rfl⟩
        have hS7 : AbsC V6 b S7 := by rw [eS7, hV6]; exact hS.setC i 5 (S.2.2.2.1 i 5 - sDue S i) (by decide)
        have mS7 : brmod V V6 b := by rw [hV6]; exact brmod.rf.up (by decide) (by decide)
        have nS7 : S7.1 = S.1 := by rw [eS7]; exact rfl
        refine g_aload_n X 3 rfl dX0_pays_57 ?_
        refine g_iconst X 1 (by decide) dX0_pays_58 ?_
        refine gp_X1_hasPaid X rfl rfl (gP_15 (by first | assumption | decide | omega) (by first | assumption | decide | omega)) fX0_173 dX0_pays_59 ?_
        refine gG_nm (fun V8 hV8 => ?_)
        obtain ⟨S9, eS9⟩ : ∃ y, y = sC S7 i 7 1 := ⟨_, rfl⟩
        have hS9 : AbsC V8 b S9 := by rw [eS9, hV8]; exact hS7.setC i 7 1 (by decide)
        have mS9 : brmod V V8 b := by rw [hV8]; exact mS7.up (by decide) (by decide)
        have nS9 : S9.1 = S.1 := by rw [eS9]; exact nS7
        refine g_aload_n X 4 rfl dX0_pays_62 ?_
        refine g_aload_n X 3 rfl dX0_pays_63 ?_
        refine g_iload X 0 rfl dX0_pays_64 ?_
        refine g_iload_n X 1 rfl dX0_pays_66 ?_
        refine g_callV X hR (rest := []) mX3_take lX0_193 (k_take hI V8 b S9 e i (sDue S i) (sToll S (S.2.2.2.1 i 2) (S.2.2.2.1 i 3)) (by first | assumption | decide | omega | (rw [nS9]; first | assumption | omega)) hS9 (by first | assumption | decide | omega | (rw [nS9]; first | assumption | omega)) (by first | assumption | decide | omega | (rw [nS9]; first | assumption | omega)) (by first | assumption | decide | omega | (rw [nS9]; first | assumption | omega)) hle) rfl rfl (Nat.le_of_ble_eq_true rfl) (gP_12 (by first | assumption | decide | omega) (by first | assumption | decide | omega)) rfl rfl rfl ⟨Nat.le_of_ble_eq_true rfl, Nat.le_of_ble_eq_true rfl, Nat.le_of_ble_eq_true rfl, Nat.le_of_ble_eq_true rfl⟩ dX0_pays_67 (fun r10 V11 h12 => ?_)
        refine gG_rv h12.1 ?_
        obtain ⟨-, haV11, hbV11⟩ := h12
        obtain ⟨S13, eS13⟩ : ∃ y, y = sTake S9 e i (sDue S i) (sToll S (S.2.2.2.1 i 2) (S.2.2.2.1 i 3)) := ⟨_, rfl⟩
        have hS13 : AbsC V11 b S13 := by rw [eS13]; exact haV11
        have mS13 : brmod V V11 b := mS9.trans hbV11
        have nS13 : S13.1 = S.1 := by rw [eS13]; exact nS9
        refine gG_st [] rfl ?_
        refine g_iconst X 1 (by decide) dX0_pays_70 ?_
        refine g_zret X F rfl ?_ rfl dX0_pays_71
        subst eS13 eS9 eS7
        exact ⟨by rw [if_neg (by have := ixle c5 (by omega) (by omega); omega)], by rw [if_neg (by have := ixle c5 (by omega) (by omega); omega)]; exact hS13, mS13⟩
      · refine g_iconst X 0 (by decide) dX0_pays_44 ?_
        refine g_zret X F rfl ?_ rfl dX0_pays_45
        exact ⟨by rw [if_pos (by have := ixnle c5 (by omega) (by omega); omega)], by rw [if_pos (by have := ixnle c5 (by omega) (by omega); omega)]; exact hS, brmod.rf⟩
    · first | exact absurd (by rw [hz]; rfl) c4 | exact absurd c4 (by rw [hz]; rfl)
  · skip
    refine g_if_eq X 32 (by decide) dX0_pays_17 (fun c14 => ?_) (fun c14 => ?_)
    · first | exact absurd (nI_ne0 (by omega) (by have := hc.2.2.2.2.2.1; omega)) c14 | exact absurd c14 (nI_ne0 (by omega) (by have := hc.2.2.2.2.2.1; omega))
    · refine g_aload_n X 1 rfl dX0_pays_20 ?_
      refine g_iconst X 1 (by decide) dX0_pays_21 ?_
      refine g_aload_n X 2 rfl dX0_pays_22 ?_
      refine gg_X1_weight X (gP_15 (by first | assumption | decide | omega) (by first | assumption | decide | omega)) fX0_87 dX0_pays_23 ?_
      refine gG_top (nI (S.2.2.2.1 i 3)) (hS.2.2.2.1 i (by first | assumption | omega) 3 (by decide) (by decide)) ?_
      refine g_callV X hR (rest := []) mX0_tollFor lX0_107 (k_tollFor hI V b S 1 (S.2.2.2.1 i 3) (by first | assumption | decide | omega) hS (by omega)) rfl rfl (Nat.le_of_ble_eq_true rfl) (gP_10 (by first | assumption | decide | omega)) rfl rfl rfl ⟨Nat.le_of_ble_eq_true rfl, Nat.le_of_ble_eq_true rfl, Nat.le_of_ble_eq_true rfl, Nat.le_of_ble_eq_true rfl⟩ dX0_pays_26 (fun r15 V16 h17 => ?_)
      refine gG_ret h17.1 h17.2 ?_
      refine gG_st [.int (nI (sToll S 1 (S.2.2.2.1 i 3)))] rfl ?_
      refine g_goto X 33 (by decide) dX0_pays_29 ?_
      refine gG_top (nI (sDue S i)) (by rw [show sDue S i = sToll S 1 (S.2.2.2.1 i 3) from if_neg hz]) ?_
      refine g_istore X dX0_pays_33 [(4, .int (nI (sDue S i))), (3, .int (nI (sToll S (S.2.2.2.1 i 2) (S.2.2.2.1 i 3)))), (0, .ref (B.2.1 10 b 0)), (1, .ref (B.2.1 15 b i)), (2, .ref (B.2.1 12 b e))] rfl (gnl_lt hnL (by decide)) ?_
      refine g_aload_n X 3 rfl dX0_pays_35 ?_
      refine gg_X1_coins X (gP_15 (by first | assumption | decide | omega) (by first | assumption | decide | omega)) fX0_99 dX0_pays_36 ?_
      refine gG_top (nI (S.2.2.2.1 i 5)) (hS.2.2.2.1 i (by first | assumption | omega) 5 (by decide) (by decide)) ?_
      refine g_iload X 0 rfl dX0_pays_39 ?_
      refine g_icmp_ge X 46 (by decide) dX0_pays_41 (fun c18 => ?_) (fun c18 => ?_)
      · refine g_aload_n X 3 rfl dX0_pays_46 ?_
        refine g_dup X rfl dX0_pays_47 ?_
        refine gg_X1_coins X (gP_15 (by first | assumption | decide | omega) (by first | assumption | decide | omega)) fX0_99 dX0_pays_48 ?_
        refine gG_top (nI (S.2.2.2.1 i 5)) (hS.2.2.2.1 i (by first | assumption | omega) 5 (by decide) (by decide)) ?_
        refine g_iload X 0 rfl dX0_pays_51 ?_
        refine g_isub X dX0_pays_53 ?_
        refine gG_top (nI (S.2.2.2.1 i 5 - sDue S i)) (pk_sub (by have := ixle c18 (by omega) (by omega); omega)) ?_
        refine gp_X1_coins X (gP_15 (by first | assumption | decide | omega) (by first | assumption | decide | omega)) fX0_99 dX0_pays_54 ?_
        refine gG_nm (fun V19 hV19 => ?_)
        obtain ⟨S20, eS20⟩ : ∃ y, y = sC S i 5 (S.2.2.2.1 i 5 - sDue S i) := ⟨_, rfl⟩
        have hS20 : AbsC V19 b S20 := by rw [eS20, hV19]; exact hS.setC i 5 (S.2.2.2.1 i 5 - sDue S i) (by decide)
        have mS20 : brmod V V19 b := by rw [hV19]; exact brmod.rf.up (by decide) (by decide)
        have nS20 : S20.1 = S.1 := by rw [eS20]; exact rfl
        refine g_aload_n X 3 rfl dX0_pays_57 ?_
        refine g_iconst X 1 (by decide) dX0_pays_58 ?_
        refine gp_X1_hasPaid X rfl rfl (gP_15 (by first | assumption | decide | omega) (by first | assumption | decide | omega)) fX0_173 dX0_pays_59 ?_
        refine gG_nm (fun V21 hV21 => ?_)
        obtain ⟨S22, eS22⟩ : ∃ y, y = sC S20 i 7 1 := ⟨_, rfl⟩
        have hS22 : AbsC V21 b S22 := by rw [eS22, hV21]; exact hS20.setC i 7 1 (by decide)
        have mS22 : brmod V V21 b := by rw [hV21]; exact mS20.up (by decide) (by decide)
        have nS22 : S22.1 = S.1 := by rw [eS22]; exact nS20
        refine g_aload_n X 4 rfl dX0_pays_62 ?_
        refine g_aload_n X 3 rfl dX0_pays_63 ?_
        refine g_iload X 0 rfl dX0_pays_64 ?_
        refine g_iload_n X 1 rfl dX0_pays_66 ?_
        refine g_callV X hR (rest := []) mX3_take lX0_193 (k_take hI V21 b S22 e i (sDue S i) (sToll S (S.2.2.2.1 i 2) (S.2.2.2.1 i 3)) (by first | assumption | decide | omega | (rw [nS22]; first | assumption | omega)) hS22 (by first | assumption | decide | omega | (rw [nS22]; first | assumption | omega)) (by first | assumption | decide | omega | (rw [nS22]; first | assumption | omega)) (by first | assumption | decide | omega | (rw [nS22]; first | assumption | omega)) hle) rfl rfl (Nat.le_of_ble_eq_true rfl) (gP_12 (by first | assumption | decide | omega) (by first | assumption | decide | omega)) rfl rfl rfl ⟨Nat.le_of_ble_eq_true rfl, Nat.le_of_ble_eq_true rfl, Nat.le_of_ble_eq_true rfl, Nat.le_of_ble_eq_true rfl⟩ dX0_pays_67 (fun r23 V24 h25 => ?_)
        refine gG_rv h25.1 ?_
        obtain ⟨-, haV24, hbV24⟩ := h25
        obtain ⟨S26, eS26⟩ : ∃ y, y = sTake S22 e i (sDue S i) (sToll S (S.2.2.2.1 i 2) (S.2.2.2.1 i 3)) := ⟨_, rfl⟩
        have hS26 : AbsC V24 b S26 := by rw [eS26]; exact haV24
        have mS26 : brmod V V24 b := mS22.trans hbV24
        have nS26 : S26.1 = S.1 := by rw [eS26]; exact nS22
        refine gG_st [] rfl ?_
        refine g_iconst X 1 (by decide) dX0_pays_70 ?_
        refine g_zret X F rfl ?_ rfl dX0_pays_71
        subst eS26 eS22 eS20
        exact ⟨by rw [if_neg (by have := ixle c18 (by omega) (by omega); omega)], by rw [if_neg (by have := ixle c18 (by omega) (by omega); omega)]; exact hS26, mS26⟩
      · refine g_iconst X 0 (by decide) dX0_pays_44 ?_
        refine g_zret X F rfl ?_ rfl dX0_pays_45
        exact ⟨by rw [if_pos (by have := ixnle c18 (by omega) (by omega); omega)], by rw [if_pos (by have := ixnle c18 (by omega) (by omega); omega)]; exact hS, brmod.rf⟩

