/-! the mean of the ticks in which carts were over -/
theorem n64_of {a : UInt64} (h : FP.Core.dIsNaN a = false) : vf_n64 a := by
  have h1 : ¬ 9218868437227405312 < a.toNat % 2 ^ 63 := fun q => by rw [(FP.Core.isNaN_bits a).mpr q] at h; cases h
  unfold vf_n64
  rw [UInt64.le_iff_toNat_le, UInt64.toNat_and]
  show a.toNat &&& (2 ^ 63 - 1) ≤ 9218868437227405312
  rw [Nat.and_two_pow_sub_one_eq_mod]
  omega
theorem mean_n {s : Int64} {k : Nat} (h0 : 0 < k) (hk : k < 2 ^ 31) : vf_n64 (FP.ddiv (FP.l2d s) (FP.i2d (nI k))) :=
  n64_of (FP.Core.ddiv_out (FP.Core.l2d_fin s).notNaN (FP.Core.i2d_fin _) (fun hz => FP.Core.i2d_ne_zero (nI_ne0 h0 hk) ((FP.Core.zero_bits2 _).mp hz)))
theorem i2d_lN {n : Nat} (h : n < 2 ^ 31) : FP.i2d (nI n) = FP.l2d (lN n) := (FP.Core.i2d_l2d (nI n)).trans (congrArg FP.Core.l2d (nI_l h))
def mSum (S : gSt) : Nat → Nat
  | 0 => 0
  | n + 1 => mSum S n + (if S.2.2.2.1 n 8 = 2 then (S.2.2.2.2 n).toNatClampNeg else 0)
theorem mSum_yes {S : gSt} {n t : Nat} (h : S.2.2.2.1 n 8 = 2) (ht : S.2.2.2.2 n = nI t) (h31 : t < 2 ^ 31) : mSum S n + t = mSum S (n + 1) := by
  show _ = mSum S n + (if S.2.2.2.1 n 8 = 2 then (S.2.2.2.2 n).toNatClampNeg else 0)
  rw [if_pos h, ht, nI_clamp h31]
theorem mSum_no {S : gSt} {n : Nat} (h : ¬ S.2.2.2.1 n 8 = 2) : mSum S n = mSum S (n + 1) := by
  show _ = mSum S n + (if S.2.2.2.1 n 8 = 2 then (S.2.2.2.2 n).toNatClampNeg else 0)
  rw [if_neg h, Nat.add_zero]
def ovB (S : gSt) : Nat → Bool := fun i => decide (S.2.2.2.1 i 8 = 2)
theorem ovB_yes {S : gSt} {n : Nat} (h : S.2.2.2.1 n 8 = 2) : cntF (ovB S) n + 1 = cntF (ovB S) (n + 1) := by
  show _ = cntF (ovB S) n + (if ovB S n = true then 1 else 0)
  rw [if_pos (show ovB S n = true from decide_eq_true h)]
theorem ovB_no {S : gSt} {n : Nat} (h : ¬ S.2.2.2.1 n 8 = 2) : cntF (ovB S) n = cntF (ovB S) (n + 1) := by
  show _ = cntF (ovB S) n + (if ovB S n = true then 1 else 0)
  rw [if_neg (fun q : ovB S n = true => h (of_decide_eq_true q)), Nat.add_zero]
def oMean (S : gSt) : UInt64 := if sCnt S 2 = 0 then FP.dconst0 else FP.ddiv (FP.l2d (lN (mSum S (S.1 6)))) (FP.i2d (nI (sCnt S 2)))

abbrev rmX0_meanOverTick : Room := { frames := 2, cells := 0, slots := 0, locals := 42 }
set_option maxRecDepth 20000 in
theorem k_Cmot {l : Launch} {B : gB} (hI : gI B) (V : gMem) (b : Nat) (S : gSt) (hb : b < 3) (hS : AbsC V b S) (hn : S.1 6 ≤ 16) (h8 : ∀ i, i < S.1 6 → S.2.2.2.1 i 8 ≤ 3) (hov : ∀ i, i < S.1 6 → S.2.2.2.1 i 8 = 2 → ∃ t : Nat, t ≤ S.1 0 ∧ S.2.2.2.2 i = nI t) (ht : S.1 0 < 2 ^ 20) : gM l B yX0_meanOverTick cX0_meanOverTick 6 (some .double) rmX0_meanOverTick [.ref (B.2.1 10 b 0)] V (fun v V' => v = some (.double (oMean S)) ∧ V' = V) := by
  refine gM_of (own := RX0) (L := [(0, .ref (B.2.1 10 b 0))]) (by decide +kernel) rfl hI (Nat.le_of_ble_eq_true rfl) rfl ?_
  intro Z hnL hR X F
  have hcn : sCnt S 2 ≤ S.1 6 := cntF_le _ _
  refine g_lconst X 0 (by decide) dX0_meanOverTick_0 ?_
  refine g_lstore_n X rfl dX0_meanOverTick_1 [(1, .long 0), (0, .ref (B.2.1 10 b 0))] rfl (gnl_lt hnL (by decide)) ?_
  refine g_iconst X 0 (by decide) dX0_meanOverTick_2 ?_
  refine g_istore_n X rfl dX0_meanOverTick_3 [(3, .int 0), (1, .long 0), (0, .ref (B.2.1 10 b 0))] rfl (gnl_lt hnL (by decide)) ?_
  refine g_iconst X 0 (by decide) dX0_meanOverTick_4 ?_
  refine g_istore X dX0_meanOverTick_5 [(4, .int 0), (3, .int 0), (1, .long 0), (0, .ref (B.2.1 10 b 0))] rfl (gnl_lt hnL (by decide)) ?_
  refine gG_L [3, 2, 1, 0] (L' := [(0, .ref (B.2.1 10 b 0)), (1, .long 0), (3, .int 0), (4, .int 0)]) rfl ?_
  have loop : ∀ (f : Nat) (i : Nat) , i + f = S.1 6 →  gG Z B (0, 0) V 7 [(0, .ref (B.2.1 10 b 0)), (1, .long (lN (mSum S i))), (3, .int (nI (cntF (ovB S) i))), (4, .int (nI i))] [] := by
    intro f
    induction f with
    | zero =>
      intro i  hf 
      refine g_iload X 3 rfl dX0_meanOverTick_7 ?_
      refine g_aload_n X 0 rfl dX0_meanOverTick_9 ?_
      refine gg_X0_cartCount X (gP_10 (by first | assumption | decide | omega)) fX0_50 dX0_meanOverTick_10 ?_
      refine gG_top (nI (S.1 6)) (hS.1 6 (by decide)) ?_
      refine g_icmp_ge X 56 (by decide) dX0_meanOverTick_13 (fun c1 => ?_) (fun c1 => ?_)
      · refine gG_Le [(0, .ref (B.2.1 10 b 0)), (1, .long (lN (mSum S (S.1 6)))), (3, .int (nI (sCnt S 2))), (4, .int (nI i))] (by rw [show i = S.1 6 by omega]; rfl) ?_
        refine g_iload_n X 2 rfl dX0_meanOverTick_56 ?_
        by_cases h0 : sCnt S 2 = 0
        · skip
          refine g_if_ne X 64 (by decide) dX0_meanOverTick_57 (fun c2 => ?_) (fun c2 => ?_)
          · first | exact absurd (fun z => z (by rw [h0]; rfl)) c2 | exact absurd c2 (fun z => z (by rw [h0]; rfl))
          · refine g_dconst0 X dX0_meanOverTick_60 ?_
            refine g_goto X 69 (by decide) dX0_meanOverTick_61 ?_
            refine g_dret X F ?_ rfl dX0_meanOverTick_69
            exact ⟨by unfold oMean; rw [if_pos h0], rfl⟩
        · skip
          refine g_if_ne X 64 (by decide) dX0_meanOverTick_57 (fun c3 => ?_) (fun c3 => ?_)
          · refine g_lload_n X 1 rfl dX0_meanOverTick_64 ?_
            refine g_l2d X dX0_meanOverTick_65 ?_
            refine g_iload_n X 2 rfl dX0_meanOverTick_66 ?_
            refine g_i2d X dX0_meanOverTick_67 ?_
            refine g_ddiv X (mean_n (Nat.pos_of_ne_zero h0) (by omega)) dX0_meanOverTick_68 ?_
            refine g_dret X F ?_ rfl dX0_meanOverTick_69
            exact ⟨by unfold oMean; rw [if_neg h0], rfl⟩
          · first | exact absurd (nI_ne0 (Nat.pos_of_ne_zero h0) (by omega)) c3 | exact absurd c3 (nI_ne0 (Nat.pos_of_ne_zero h0) (by omega))
      · first | exact absurd (nI_le (by omega) (by omega)) c1 | exact absurd c1 (nI_le (by omega) (by omega))
    | succ f ih =>
      intro i  hf 
      have hc3 := h8 i (by omega)
      have hiN : i < S.1 6 := by omega
      refine g_iload X 3 rfl dX0_meanOverTick_7 ?_
      refine g_aload_n X 0 rfl dX0_meanOverTick_9 ?_
      refine gg_X0_cartCount X (gP_10 (by first | assumption | decide | omega)) fX0_50 dX0_meanOverTick_10 ?_
      refine gG_top (nI (S.1 6)) (hS.1 6 (by decide)) ?_
      refine g_icmp_ge X 56 (by decide) dX0_meanOverTick_13 (fun c4 => ?_) (fun c4 => ?_)
      · first | exact absurd (nI_ge (by omega) (by omega)) c4 | exact absurd c4 (nI_ge (by omega) (by omega))
      · refine g_aload_n X 0 rfl dX0_meanOverTick_16 ?_
        refine g_iload X 3 rfl dX0_meanOverTick_17 ?_
        refine g_callV X hR (rest := []) mX0_cartAt lX0_57 (k_cartAt hI V b S i (by first | assumption | decide | omega) hS (by first | assumption | decide | omega) (by omega)) rfl rfl (Nat.le_of_ble_eq_true rfl) (gP_10 (by first | assumption | decide | omega)) rfl rfl rfl ⟨Nat.le_of_ble_eq_true rfl, Nat.le_of_ble_eq_true rfl, Nat.le_of_ble_eq_true rfl, Nat.le_of_ble_eq_true rfl⟩ dX0_meanOverTick_19 (fun r5 V6 hz_7 => ?_)
        refine gG_ret hz_7.1 hz_7.2 ?_
        refine gG_st [.ref (B.2.1 15 b i)] rfl ?_
        refine g_astore X dX0_meanOverTick_22 [(5, .ref (B.2.1 15 b i)), (0, .ref (B.2.1 10 b 0)), (1, .long (lN (mSum S i))), (3, .int (nI (cntF (ovB S) i))), (4, .int (nI i))] rfl (gnl_lt hnL (by decide)) ?_
        refine g_aload X 0 rfl dX0_meanOverTick_24 ?_
        refine g_ifnull X dX0_meanOverTick_26 ?_
        refine g_aload X 0 rfl dX0_meanOverTick_29 ?_
        refine gg_X1_state X (gP_15 (by first | assumption | decide | omega) (by first | assumption | decide | omega)) fX0_74 dX0_meanOverTick_31 ?_
        refine gG_top (nI (S.2.2.2.1 i 8)) (hS.2.2.2.1 i (by first | assumption | omega) 8 (by decide) (by decide)) ?_
        refine g_iconst X 2 (by decide) dX0_meanOverTick_34 ?_
        by_cases hc : S.2.2.2.1 i 8 = 2
        · obtain ⟨t, htl, het⟩ := hov i (by omega) hc
          refine g_icmp_ne X 50 (by decide) dX0_meanOverTick_35 (fun c8 => ?_) (fun c8 => ?_)
          · first | exact absurd (fun z => z (by rw [hc]; rfl)) c8 | exact absurd c8 (fun z => z (by rw [hc]; rfl))
          · refine g_lload_n X 2 rfl dX0_meanOverTick_38 ?_
            refine g_aload X 0 rfl dX0_meanOverTick_39 ?_
            refine gg_X1_overTick X (gP_15 (by first | assumption | decide | omega) (by first | assumption | decide | omega)) fX0_90 dX0_meanOverTick_41 ?_
            refine gG_top (S.2.2.2.2 i) (hS.2.2.2.2.1 i (by first | assumption | omega)) ?_
            refine gG_top (nI t) (het) ?_
            refine g_i2l X dX0_meanOverTick_44 ?_
            refine gG_st [.long (lN t), .long (lN (mSum S i))] (by rw [show (Value.long ((nI t).toInt64)) = .long (lN t) from congrArg _ (nI_l (by omega))]) ?_
            refine g_ladd X dX0_meanOverTick_45 ?_
            refine g_lstore_n X rfl dX0_meanOverTick_46 [(1, .long ((lN (mSum S i)) + (lN t))), (5, .ref (B.2.1 15 b i)), (0, .ref (B.2.1 10 b 0)), (3, .int (nI (cntF (ovB S) i))), (4, .int (nI i))] rfl (gnl_lt hnL (by decide)) ?_
            refine g_iinc X 3 rfl (nI ((cntF (ovB S) i) + 1)) (iinc_1 _) dX0_meanOverTick_47 [(3, .int (nI ((cntF (ovB S) i) + 1))), (1, .long ((lN (mSum S i)) + (lN t))), (5, .ref (B.2.1 15 b i)), (0, .ref (B.2.1 10 b 0)), (4, .int (nI i))] rfl (gnl_lt hnL (by decide)) ?_
            refine gG_L [3, 1, 0, 4, 2] (L' := [(0, .ref (B.2.1 10 b 0)), (1, .long ((lN (mSum S i)) + (lN t))), (3, .int (nI ((cntF (ovB S) i) + 1))), (4, .int (nI i)), (5, .ref (B.2.1 15 b i))]) rfl ?_
            refine gG_Le [(0, .ref (B.2.1 10 b 0)), (1, .long (lN (mSum S (i + 1)))), (3, .int (nI (cntF (ovB S) (i + 1)))), (4, .int (nI i)), (5, .ref (B.2.1 15 b i))] (by rw [← ovB_yes hc, ← mSum_yes hc het (by omega), ← lN_add]) ?_
            refine g_iinc X 3 rfl (nI (i + 1)) (iinc_1 _) dX0_meanOverTick_50 [(4, .int (nI (i + 1))), (0, .ref (B.2.1 10 b 0)), (1, .long (lN (mSum S (i + 1)))), (3, .int (nI (cntF (ovB S) (i + 1)))), (5, .ref (B.2.1 15 b i))] rfl (gnl_lt hnL (by decide)) ?_
            refine g_goto X 7 (by decide) dX0_meanOverTick_53 ?_
            refine gG_L [1, 2, 3, 0] (L' := [(0, .ref (B.2.1 10 b 0)), (1, .long (lN (mSum S (i + 1)))), (3, .int (nI (cntF (ovB S) (i + 1)))), (4, .int (nI (i + 1)))]) rfl ?_
            refine ih (i + 1) (by omega)
        · skip
          refine g_icmp_ne X 50 (by decide) dX0_meanOverTick_35 (fun c9 => ?_) (fun c9 => ?_)
          · refine gG_L [1, 2, 3, 4, 0] (L' := [(0, .ref (B.2.1 10 b 0)), (1, .long (lN (mSum S i))), (3, .int (nI (cntF (ovB S) i))), (4, .int (nI i)), (5, .ref (B.2.1 15 b i))]) rfl ?_
            refine gG_Le [(0, .ref (B.2.1 10 b 0)), (1, .long (lN (mSum S (i + 1)))), (3, .int (nI (cntF (ovB S) (i + 1)))), (4, .int (nI i)), (5, .ref (B.2.1 15 b i))] (by rw [← ovB_no hc, ← mSum_no hc]) ?_
            refine g_iinc X 3 rfl (nI (i + 1)) (iinc_1 _) dX0_meanOverTick_50 [(4, .int (nI (i + 1))), (0, .ref (B.2.1 10 b 0)), (1, .long (lN (mSum S (i + 1)))), (3, .int (nI (cntF (ovB S) (i + 1)))), (5, .ref (B.2.1 15 b i))] rfl (gnl_lt hnL (by decide)) ?_
            refine g_goto X 7 (by decide) dX0_meanOverTick_53 ?_
            refine gG_L [1, 2, 3, 0] (L' := [(0, .ref (B.2.1 10 b 0)), (1, .long (lN (mSum S (i + 1)))), (3, .int (nI (cntF (ovB S) (i + 1)))), (4, .int (nI (i + 1)))]) rfl ?_
            refine ih (i + 1) (by omega)
          · first | exact absurd (fun z => hc ((nI_eq (b := 2) (by omega) (by decide)).mp z)) c9 | exact absurd c9 (fun z => hc ((nI_eq (b := 2) (by omega) (by decide)).mp z))
  exact loop (S.1 6) 0 (by omega)

abbrev rmX6_mean : Room := { frames := 3, cells := 0, slots := 0, locals := 67 }
set_option maxRecDepth 20000 in
theorem k_Cmean {l : Launch} {B : gB} (hI : gI B) (V : gMem) (w : gWd) (hQ : COk V w) (hw : wOk w) (ht : w.1.1 0 < 2 ^ 20) : gM l B yX6_mean cX6_mean 1 (some .double) rmX6_mean [.ref (B.2.1 0 0 0)] V (fun v V' => v = some (.double (oMean w.1)) ∧ V' = V) := by
  refine gM_of (own := RX6) (L := [(0, .ref (B.2.1 0 0 0))]) (by decide +kernel) rfl hI (Nat.le_of_ble_eq_true rfl) rfl ?_
  intro Z hnL hR X F
  refine g_aload_n X 0 rfl dX6_mean_0 ?_
  refine gg_X6_bridge X ⟨by decide, by decide⟩ fX6_23 dX6_mean_1 ?_
  refine g_callV X hR (rest := []) mX0_meanOverTick lX6_235 (k_Cmot hI V 0 w.1 (by decide) hQ.1 hw.1.1.2.2.2.2.2 (fun i hi => (hw.1.2.1 i hi).2.2.2.2.2.2.2) hw.1.2.2.2.2.2.2.2 ht) rfl rfl (Nat.le_of_ble_eq_true rfl) ⟨by decide, by decide⟩ rfl rfl rfl ⟨Nat.le_of_ble_eq_true rfl, Nat.le_of_ble_eq_true rfl, Nat.le_of_ble_eq_true rfl, Nat.le_of_ble_eq_true rfl⟩ dX6_mean_4 (fun r1 V2 hz_3 => ?_)
  refine gG_ret hz_3.1 hz_3.2 ?_
  refine gG_st [.double (oMean w.1)] rfl ?_
  refine g_dret X F ?_ rfl dX6_mean_7
  exact ⟨rfl, rfl⟩

theorem mSum_le {S : gSt} {T : Nat} : ∀ {n : Nat}, (∀ i, i < n → S.2.2.2.1 i 8 = 2 → ∃ t : Nat, t ≤ T ∧ S.2.2.2.2 i = nI t) → T < 2 ^ 31 → mSum S n ≤ n * T
  | 0, _, _ => Nat.zero_le _
  | n + 1, h, hT => by
    have h1 := mSum_le (n := n) (fun i hi => h i (by omega)) hT
    rw [Nat.succ_mul]
    by_cases hc : S.2.2.2.1 n 8 = 2
    · obtain ⟨t, h2, h3⟩ := h n (Nat.lt_succ_self n) hc
      rw [← mSum_yes hc h3 (by omega)]
      omega
    · rw [← mSum_no hc]
      omega

abbrev rmX8_mean : Room := { frames := 1, cells := 0, slots := 0, locals := 22 }
set_option maxRecDepth 20000 in
theorem k_Mmean {l : Launch} {B : gB} (hI : gI B) (V : gMem) (w : gWd) (hM : MOk V w) (hw : wOk w) (ht : w.1.1 0 < 2 ^ 20) : gM l B yX8_mean cX8_mean 4 (some .double) rmX8_mean [.ref (B.2.1 20 0 0)] V (fun v V' => v = some (.double (oMean w.1)) ∧ V' 20 0 0 0 = 0 ∧ MOk V' w ∧ mmod V V') := by
  refine gM_of (own := RX8) (L := [(0, .ref (B.2.1 20 0 0))]) (by decide +kernel) rfl hI (Nat.le_of_ble_eq_true rfl) rfl ?_
  intro Z hnL hR X F
  have hov := hw.1.2.2.2.2.2.2.2
  have hN : w.1.1 6 ≤ 16 := hw.1.1.2.2.2.2.2
  have hcn : sCnt w.1 2 ≤ w.1.1 6 := cntF_le _ _
  have hms : mSum w.1 (w.1.1 6) < 2 ^ 31 := by
    have h1 := mSum_le hov (by omega)
    have h2 := Nat.mul_le_mul hN (Nat.le_of_lt ht)
    omega
  refine g_aload_n X 0 rfl dX8_mean_0 ?_
  refine g_iconst X 0 (by decide) dX8_mean_1 ?_
  refine gp_X8_thrown X ⟨by decide, by decide⟩ fX8_41 dX8_mean_2 ?_
  refine gG_nm (fun V1 hV1 => ?_)
  have hM1 : MOk V1 w := by rw [hV1]; exact hM.thr 0
  have hm1 : mmod V V1 := by rw [hV1]; exact mmod.rf.up (by decide) (by decide)
  refine g_iconst X 0 (by decide) dX8_mean_5 ?_
  refine g_istore_n X rfl dX8_mean_6 [(1, .int 0), (0, .ref (B.2.1 20 0 0))] rfl (gnl_lt hnL (by decide)) ?_
  refine g_iconst X 0 (by decide) dX8_mean_7 ?_
  refine g_istore_n X rfl dX8_mean_8 [(2, .int 0), (1, .int 0), (0, .ref (B.2.1 20 0 0))] rfl (gnl_lt hnL (by decide)) ?_
  refine g_iconst X 0 (by decide) dX8_mean_9 ?_
  refine g_istore_n X rfl dX8_mean_10 [(3, .int 0), (2, .int 0), (1, .int 0), (0, .ref (B.2.1 20 0 0))] rfl (gnl_lt hnL (by decide)) ?_
  refine gG_L [3, 2, 1, 0] (L' := [(0, .ref (B.2.1 20 0 0)), (1, .int 0), (2, .int 0), (3, .int 0)]) rfl ?_
  have loop : ∀ (f : Nat) (i : Nat) , i + f = w.1.1 6 →  gG Z B (0, 0) V1 11 [(0, .ref (B.2.1 20 0 0)), (1, .int (nI (mSum w.1 i))), (2, .int (nI (cntF (ovB w.1) i))), (3, .int (nI i))] [] := by
    intro f
    induction f with
    | zero =>
      intro i  hf 
      refine g_iload_n X 3 rfl dX8_mean_11 ?_
      refine g_aload_n X 0 rfl dX8_mean_12 ?_
      refine gg_X8_s X ⟨by decide, by decide⟩ fX8_34 dX8_mean_13 ?_
      refine gg_X7_carts X ⟨by decide, by decide⟩ fX8_91 dX8_mean_16 ?_
      refine gG_top (nI (w.1.1 6)) (hM1.1.1.2.2) ?_
      refine g_icmp_ge X 60 (by decide) dX8_mean_19 (fun c2 => ?_) (fun c2 => ?_)
      · refine gG_Le [(0, .ref (B.2.1 20 0 0)), (1, .int (nI (mSum w.1 (w.1.1 6)))), (2, .int (nI (sCnt w.1 2))), (3, .int (nI i))] (by rw [show i = w.1.1 6 by omega]; rfl) ?_
        refine g_iload_n X 2 rfl dX8_mean_60 ?_
        by_cases h0 : sCnt w.1 2 = 0
        · skip
          refine g_if_ne X 68 (by decide) dX8_mean_61 (fun c3 => ?_) (fun c3 => ?_)
          · first | exact absurd (fun z => z (by rw [h0]; rfl)) c3 | exact absurd c3 (fun z => z (by rw [h0]; rfl))
          · refine g_dconst0 X dX8_mean_64 ?_
            refine g_goto X 73 (by decide) dX8_mean_65 ?_
            refine g_dret X F ?_ rfl dX8_mean_73
            exact ⟨by unfold oMean; rw [if_pos h0], by rw [hV1, gup_eq], hM1, hm1⟩
        · skip
          refine g_if_ne X 68 (by decide) dX8_mean_61 (fun c4 => ?_) (fun c4 => ?_)
          · refine g_iload_n X 1 rfl dX8_mean_68 ?_
            refine g_i2d X dX8_mean_69 ?_
            rw [i2d_lN (by omega)]
            refine g_iload_n X 2 rfl dX8_mean_70 ?_
            refine g_i2d X dX8_mean_71 ?_
            refine g_ddiv X (mean_n (Nat.pos_of_ne_zero h0) (by omega)) dX8_mean_72 ?_
            refine g_dret X F ?_ rfl dX8_mean_73
            exact ⟨by unfold oMean; rw [if_neg h0], by rw [hV1, gup_eq], hM1, hm1⟩
          · first | exact absurd (nI_ne0 (Nat.pos_of_ne_zero h0) (by omega)) c4 | exact absurd c4 (nI_ne0 (Nat.pos_of_ne_zero h0) (by omega))
      · first | exact absurd (nI_le (by omega) (by omega)) c2 | exact absurd c2 (nI_le (by omega) (by omega))
    | succ f ih =>
      intro i  hf 
      have hc3 := (hw.1.2.1 i (by omega)).2.2.2.2.2.2.2
      have hiN : i < w.1.1 6 := by omega
      refine g_iload_n X 3 rfl dX8_mean_11 ?_
      refine g_aload_n X 0 rfl dX8_mean_12 ?_
      refine gg_X8_s X ⟨by decide, by decide⟩ fX8_34 dX8_mean_13 ?_
      refine gg_X7_carts X ⟨by decide, by decide⟩ fX8_91 dX8_mean_16 ?_
      refine gG_top (nI (w.1.1 6)) (hM1.1.1.2.2) ?_
      refine g_icmp_ge X 60 (by decide) dX8_mean_19 (fun c5 => ?_) (fun c5 => ?_)
      · first | exact absurd (nI_ge (by omega) (by omega)) c5 | exact absurd c5 (nI_ge (by omega) (by omega))
      · refine g_aload_n X 0 rfl dX8_mean_22 ?_
        refine gg_X8_s X ⟨by decide, by decide⟩ fX8_34 dX8_mean_23 ?_
        refine g_iload_n X 3 rfl dX8_mean_26 ?_
        refine g_iconst X 5 (by decide) dX8_mean_27 ?_
        refine g_callV X hR (rest := []) mX7_own lX8_110 (k_ownM hI V1 0 w.1 i 5 (by decide) hM1.1 hw.1.1.2.2.2.2.2 hiN (by decide)) rfl rfl (Nat.le_of_ble_eq_true rfl) ⟨by decide, by decide⟩ rfl rfl rfl ⟨Nat.le_of_ble_eq_true rfl, Nat.le_of_ble_eq_true rfl, Nat.le_of_ble_eq_true rfl, Nat.le_of_ble_eq_true rfl⟩ dX8_mean_28 (fun r6 V7 hz_8 => ?_)
        refine gG_ret hz_8.1 hz_8.2 ?_
        refine gG_st [.int (nI (w.1.2.2.2.1 i 8))] rfl ?_
        refine g_iconst X 2 (by decide) dX8_mean_31 ?_
        by_cases hc : w.1.2.2.2.1 i 8 = 2
        · obtain ⟨t, htl, het⟩ := hov i (by omega) hc
          refine g_icmp_eq X 38 (by decide) dX8_mean_32 (fun c9 => ?_) (fun c9 => ?_)
          · refine g_iload_n X 1 rfl dX8_mean_38 ?_
            refine g_aload_n X 0 rfl dX8_mean_39 ?_
            refine gg_X8_s X ⟨by decide, by decide⟩ fX8_34 dX8_mean_40 ?_
            refine g_iload_n X 3 rfl dX8_mean_43 ?_
            refine g_bipush X 8 (by decide) dX8_mean_44 ?_
            refine g_callV X hR (rest := [.int (nI (mSum w.1 i))]) mX7_own lX8_110 (k_ownM hI V1 0 w.1 i 8 (by decide) hM1.1 hw.1.1.2.2.2.2.2 hiN (by decide)) rfl rfl (Nat.le_of_ble_eq_true rfl) ⟨by decide, by decide⟩ rfl rfl rfl ⟨Nat.le_of_ble_eq_true rfl, Nat.le_of_ble_eq_true rfl, Nat.le_of_ble_eq_true rfl, Nat.le_of_ble_eq_true rfl⟩ dX8_mean_46 (fun r10 V11 hz_12 => ?_)
            refine gG_ret hz_12.1 hz_12.2 ?_
            refine gG_st [.int (w.1.2.2.2.2 i), .int (nI (mSum w.1 i))] rfl ?_
            refine gG_top (nI t) (het) ?_
            refine g_iadd X dX8_mean_49 ?_
            refine gG_top (nI ((mSum w.1 i) + t)) (nI_add (mSum w.1 i) t) ?_
            refine g_istore_n X rfl dX8_mean_50 [(1, .int (nI ((mSum w.1 i) + t))), (0, .ref (B.2.1 20 0 0)), (2, .int (nI (cntF (ovB w.1) i))), (3, .int (nI i))] rfl (gnl_lt hnL (by decide)) ?_
            refine g_iinc X 2 rfl (nI ((cntF (ovB w.1) i) + 1)) (iinc_1 _) dX8_mean_51 [(2, .int (nI ((cntF (ovB w.1) i) + 1))), (1, .int (nI ((mSum w.1 i) + t))), (0, .ref (B.2.1 20 0 0)), (3, .int (nI i))] rfl (gnl_lt hnL (by decide)) ?_
            refine gG_L [2, 1, 0, 3] (L' := [(0, .ref (B.2.1 20 0 0)), (1, .int (nI ((mSum w.1 i) + t))), (2, .int (nI ((cntF (ovB w.1) i) + 1))), (3, .int (nI i))]) rfl ?_
            refine gG_Le [(0, .ref (B.2.1 20 0 0)), (1, .int (nI (mSum w.1 (i + 1)))), (2, .int (nI (cntF (ovB w.1) (i + 1)))), (3, .int (nI i))] (by rw [← ovB_yes hc, ← mSum_yes hc het (by omega)]) ?_
            refine g_iinc X 3 rfl (nI (i + 1)) (iinc_1 _) dX8_mean_54 [(3, .int (nI (i + 1))), (0, .ref (B.2.1 20 0 0)), (1, .int (nI (mSum w.1 (i + 1)))), (2, .int (nI (cntF (ovB w.1) (i + 1))))] rfl (gnl_lt hnL (by decide)) ?_
            refine g_goto X 11 (by decide) dX8_mean_57 ?_
            refine gG_L [1, 2, 3, 0] (L' := [(0, .ref (B.2.1 20 0 0)), (1, .int (nI (mSum w.1 (i + 1)))), (2, .int (nI (cntF (ovB w.1) (i + 1)))), (3, .int (nI (i + 1)))]) rfl ?_
            refine ih (i + 1) (by omega)
          · first | exact absurd (by rw [hc]; rfl) c9 | exact absurd c9 (by rw [hc]; rfl)
        · skip
          refine g_icmp_eq X 38 (by decide) dX8_mean_32 (fun c13 => ?_) (fun c13 => ?_)
          · first | exact absurd (fun z => hc ((nI_eq (b := 2) (by omega) (by decide)).mp z)) c13 | exact absurd c13 (fun z => hc ((nI_eq (b := 2) (by omega) (by decide)).mp z))
          · refine g_goto X 54 (by decide) dX8_mean_35 ?_
            refine gG_Le [(0, .ref (B.2.1 20 0 0)), (1, .int (nI (mSum w.1 (i + 1)))), (2, .int (nI (cntF (ovB w.1) (i + 1)))), (3, .int (nI i))] (by rw [← ovB_no hc, ← mSum_no hc]) ?_
            refine g_iinc X 3 rfl (nI (i + 1)) (iinc_1 _) dX8_mean_54 [(3, .int (nI (i + 1))), (0, .ref (B.2.1 20 0 0)), (1, .int (nI (mSum w.1 (i + 1)))), (2, .int (nI (cntF (ovB w.1) (i + 1))))] rfl (gnl_lt hnL (by decide)) ?_
            refine g_goto X 11 (by decide) dX8_mean_57 ?_
            refine gG_L [1, 2, 3, 0] (L' := [(0, .ref (B.2.1 20 0 0)), (1, .int (nI (mSum w.1 (i + 1)))), (2, .int (nI (cntF (ovB w.1) (i + 1)))), (3, .int (nI (i + 1)))]) rfl ?_
            refine ih (i + 1) (by omega)
  exact loop (w.1.1 6) 0 (by omega)

