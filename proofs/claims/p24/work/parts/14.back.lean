/-! going back -/
def backL : List Nat → gSt → gSt
  | [], S => S
  | i :: is, S => backL is (sC S i 9 (S.2.2.2.1 i 9 - 1))
def sLeave (S : gSt) (l : Nat) (ys : List Nat) : gSt :=
  let S1 := sC S l 8 0
  let S2 := sQ S1 (S1.2.2.2.1 l 1) (l :: S1.2.1 (S1.2.2.2.1 l 1))
  sQ S2 2 ys
def sGoBack (S : gSt) : gSt := match (S.2.1 2).reverse with
  | [] => S
  | l :: rs => if S.2.2.2.1 l 9 = 0 then backL rs (sLeave S l rs.reverse) else backL (l :: rs) S
theorem iinc_dec (x : Int32) : x + Int32.ofInt (-1) = x - 1 := by
  have h : Int32.ofInt (-1) = -1 := by decide
  rw [h, Int32.sub_eq_add_neg]
theorem maxI {w : Nat} {nr : Int32} (hw : w < 2 ^ 31) (h : nr = -1 ∨ ∃ v : Nat, nr = nI v ∧ v ≤ w) : (if nI w < nr then nr else nI w) = nI w := by
  rcases h with rfl | ⟨v, rfl, hv⟩
  · rw [if_neg]
    intro q
    exact absurd (Int32.lt_of_lt_of_le q (by decide : (-1 : Int32) ≤ 0)) (nI_pos hw)
  · rw [if_neg (nI_nlt hv hw)]

abbrev rmX0_goBack : Room := { frames := 2, cells := 0, slots := 0, locals := 43 }
set_option maxRecDepth 20000 in
theorem k_goBack {l : Launch} {B : gB} (hI : gI B) (V : gMem) (b : Nat) (S : gSt) (hb : b < 3) (hS : AbsC V b S) (hw : WF S) : gM l B yX0_goBack cX0_goBack 5 none rmX0_goBack [.ref (B.2.1 10 b 0)] V (fun v V' => v = none ∧ AbsC V' b (sGoBack S) ∧ brmod V V' b) := by
  refine gM_of (own := RX0) (L := [(0, .ref (B.2.1 10 b 0))]) (by decide +kernel) rfl hI (Nat.le_of_ble_eq_true rfl) rfl ?_
  intro Z hnL hR X F
  refine g_iconst X (-1) (by decide) dX0_goBack_0 ?_
  refine g_istore_n X rfl dX0_goBack_1 [(1, .int ((-1))), (0, .ref (B.2.1 10 b 0))] rfl (gnl_lt hnL (by decide)) ?_
  refine g_aload_n X 1 rfl dX0_goBack_2 ?_
  refine gg_X0_crossing X (gP_10 (by first | assumption | decide | omega)) fX0_43 dX0_goBack_3 ?_
  refine gg_X5_size X (gP_13 (by first | assumption | decide | omega) (by first | assumption | decide | omega)) fX0_80 dX0_goBack_6 ?_
  refine gG_top (nI (S.2.1 2).length) ((hS.2.1 2 (by first | decide | omega)).1) ?_
  refine g_iconst X 1 (by decide) dX0_goBack_9 ?_
  refine g_isub X dX0_goBack_10 ?_
  refine g_istore_n X rfl dX0_goBack_11 [(2, .int ((nI (S.2.1 2).length) - 1)), (1, .int ((-1))), (0, .ref (B.2.1 10 b 0))] rfl (gnl_lt hnL (by decide)) ?_
  refine gG_L [2, 1, 0] (L' := [(0, .ref (B.2.1 10 b 0)), (1, .int ((-1))), (2, .int ((nI (S.2.1 2).length) - 1))]) rfl ?_
  have hXl : (S.2.1 2).length ≤ 16 := hS.bnd (by decide)
  have loop : ∀ (k : Nat) (V1 : gMem) (S1 : gSt) (nr : Int32), k ≤ (S.2.1 2).length → AbsC V1 b S1 → brmod V V1 b → S1.1 = S.1 → (∀ j, j < k → (S1.2.1 2)[j]? = (S.2.1 2)[j]?) → (∀ i ∈ (S.2.1 2).take k, S1.2.2.2.1 i 9 = S.2.2.2.1 i 9 ∧ 0 < S.2.2.2.1 i 9) → (nr = -1 ∨ ∃ v : Nat, nr = nI v ∧ ∀ i ∈ (S.2.1 2).take k, v < S.2.2.2.1 i 9) → sGoBack S = backL ((S.2.1 2).take k).reverse S1 → gG Z B (0, 0) V1 12 [(0, .ref (B.2.1 10 b 0)), (1, .int nr), (2, .int (nI k - 1))] [] := by
    intro k
    induction k with
    | zero =>
      intro V1 S1 nr hk hA hm hq1 hr1 hun hnr hF
      refine g_iload_n X 2 rfl dX0_goBack_12 ?_
      refine gG_top ((-1)) (by decide) ?_
      refine g_if_lt X 103 (by decide) dX0_goBack_13 (fun c1 => ?_) (fun c1 => ?_)
      · refine g_vret X F ?_ rfl dX0_goBack_103
        rw [hF]
        exact ⟨rfl, hA, hm⟩
      ·  exact absurd c1 (by decide)
    | succ k ih =>
      intro V1 S1 nr hk hA hm hq1 hr1 hun hnr hF
      obtain ⟨i, hg⟩ := get_some (xs := S.2.1 2) (j := k) (by omega)
      have him : i ∈ S.2.1 2 := List.mem_of_getElem? hg
      have hin : i < S.1 6 := hw.mem him
      have hin1 : i < S1.1 6 := by rw [hq1]; exact hin
      have hN : S.1 6 ≤ 16 := hw.1.2.2.2.2.2
      have hN1 : S1.1 6 ≤ 16 := by rw [hq1]; exact hN
      have htk : (S.2.1 2).take (k + 1) = (S.2.1 2).take k ++ [i] := by rw [List.take_add_one, hg]; rfl
      have hit : i ∈ (S.2.1 2).take (k + 1) := by rw [htk]; simp
      obtain ⟨hu, hpos⟩ := hun i hit
      have hw30 : S.2.2.2.1 i 9 < 30 := by have := hw.2.2.2.2.2.1 i him; have := hw.1.2.1; omega
      have hpw : ∀ a ∈ (S.2.1 2).take k, S.2.2.2.1 i 9 < S.2.2.2.1 a 9 := by
        have h9 := hw.2.2.2.1.sublist (List.take_sublist (k + 1) (S.2.1 2))
        rw [htk, List.pairwise_append] at h9
        exact fun a ha => h9.2.2 a ha i (List.mem_singleton.mpr rfl)
      have hX : k < (S1.2.1 2).length := by
        have h9 := hr1 k (Nat.lt_succ_self k)
        rw [hg] at h9
        exact (List.getElem?_eq_some_iff.mp h9).1
      have hX16 : (S1.2.1 2).length ≤ 16 := hA.bnd (by decide)
      refine g_iload_n X 2 rfl dX0_goBack_12 ?_
      refine gG_top (nI k) (nI_pred k) ?_
      refine g_if_lt X 103 (by decide) dX0_goBack_13 (fun c2 => ?_) (fun c2 => ?_)
      · first | exact absurd (nI_pos (by omega)) c2 | exact absurd c2 (nI_pos (by omega))
      · refine g_aload_n X 0 rfl dX0_goBack_16 ?_
        refine g_aload_n X 0 rfl dX0_goBack_17 ?_
        refine gg_X0_crossing X (gP_10 (by first | assumption | decide | omega)) fX0_43 dX0_goBack_18 ?_
        refine g_iload_n X 2 rfl dX0_goBack_21 ?_
        refine gG_top (nI k) (nI_pred k) ?_
        refine g_callV X hR (rest := [.ref (B.2.1 10 b 0)]) mX5_at lX0_83 (k_at hI V1 b 2 (S1.2.1 2) k (by first | assumption | decide | omega) (by first | assumption | decide | omega) (hA.2.1 2 (by decide)) (by omega)) rfl rfl (Nat.le_of_ble_eq_true rfl) (gP_13 (by first | assumption | decide | omega) (by first | assumption | decide | omega)) rfl rfl rfl ⟨Nat.le_of_ble_eq_true rfl, Nat.le_of_ble_eq_true rfl, Nat.le_of_ble_eq_true rfl, Nat.le_of_ble_eq_true rfl⟩ dX0_goBack_22 (fun r3 V4 hz_5 => ?_)
        refine gG_ret hz_5.1 hz_5.2 ?_
        refine gG_st [.int (lat (S1.2.1 2) k), .ref (B.2.1 10 b 0)] rfl ?_
        refine gG_top (nI i) (lat_some (by rw [hr1 k (Nat.lt_succ_self k)]; exact hg)) ?_
        refine g_callV X hR (rest := []) mX0_cartAt lX0_57 (k_cartAt hI V1 b S1 i (by first | assumption | decide | omega) hA hN1 hin1) rfl rfl (Nat.le_of_ble_eq_true rfl) (gP_10 (by first | assumption | decide | omega)) rfl rfl rfl ⟨Nat.le_of_ble_eq_true rfl, Nat.le_of_ble_eq_true rfl, Nat.le_of_ble_eq_true rfl, Nat.le_of_ble_eq_true rfl⟩ dX0_goBack_25 (fun r6 V7 hz_8 => ?_)
        refine gG_ret hz_8.1 hz_8.2 ?_
        refine gG_st [.ref (B.2.1 15 b i)] rfl ?_
        refine g_astore_n X rfl dX0_goBack_28 [(3, .ref (B.2.1 15 b i)), (0, .ref (B.2.1 10 b 0)), (1, .int nr), (2, .int (nI (k + 1) - 1))] rfl (gnl_lt hnL (by decide)) ?_
        refine g_aload_n X 0 rfl dX0_goBack_29 ?_
        refine g_ifnonnull X 36 (by decide) dX0_goBack_30 ?_
        refine g_aload_n X 0 rfl dX0_goBack_36 ?_
        refine gg_X1_way X (gP_15 (by first | assumption | decide | omega) (by first | assumption | decide | omega)) fX0_133 dX0_goBack_37 ?_
        refine gG_top (nI (S1.2.2.2.1 i 9)) (hA.2.2.2.1 i (by first | assumption | omega) 9 (by decide) (by decide)) ?_
        refine g_iconst X 1 (by decide) dX0_goBack_40 ?_
        refine g_isub X dX0_goBack_41 ?_
        refine gG_top (nI (S.2.2.2.1 i 9 - 1)) (by rw [hu]; exact nI_dec hpos) ?_
        refine g_iload_n X 2 rfl dX0_goBack_42 ?_
        refine g_max X hR qL_X0_150 ⟨Nat.le_of_ble_eq_true rfl, Nat.le_of_ble_eq_true rfl, Nat.le_of_ble_eq_true rfl, Nat.le_of_ble_eq_true rfl⟩ (Nat.le_of_ble_eq_true rfl) dX0_goBack_43 ?_
        refine gG_top (nI (S.2.2.2.1 i 9 - 1)) (maxI (by omega) (hnr.imp id (fun h => h.elim fun v h => ⟨v, h.1, by have := h.2 i hit; omega⟩))) ?_
        refine g_istore X dX0_goBack_46 [(4, .int (nI (S.2.2.2.1 i 9 - 1))), (3, .ref (B.2.1 15 b i)), (0, .ref (B.2.1 10 b 0)), (1, .int nr), (2, .int (nI (k + 1) - 1))] rfl (gnl_lt hnL (by decide)) ?_
        refine g_iload X 0 rfl dX0_goBack_48 ?_
        refine g_if_lt X 67 (by decide) dX0_goBack_50 (fun c9 => ?_) (fun c9 => ?_)
        · first | exact absurd (nI_pos (by omega)) c9 | exact absurd c9 (nI_pos (by omega))
        · refine g_aload_n X 1 rfl dX0_goBack_53 ?_
          refine g_iload X 0 rfl dX0_goBack_54 ?_
          refine gp_X1_way X (gP_15 (by first | assumption | decide | omega) (by first | assumption | decide | omega)) fX0_133 dX0_goBack_56 ?_
          refine gG_nm (fun V10 hV10 => ?_)
          obtain ⟨S11, eS11⟩ : ∃ y, y = sC S1 i 9 (S.2.2.2.1 i 9 - 1) := ⟨_, rfl⟩
          have hS11 : AbsC V10 b S11 := by rw [eS11, hV10]; exact hA.setC i 9 (S.2.2.2.1 i 9 - 1) (by decide)
          have mS11 : brmod V V10 b := by rw [hV10]; exact hm.up (by decide) (by decide)
          have nS11 : S11.1 = S1.1 := by rw [eS11]; exact rfl
          refine g_iload X 0 rfl dX0_goBack_59 ?_
          refine g_iconst X 1 (by decide) dX0_goBack_61 ?_
          refine g_iadd X dX0_goBack_62 ?_
          refine gG_top (nI ((S.2.2.2.1 i 9 - 1) + 1)) (nI_1 _) ?_
          refine gG_top (nI (S.2.2.2.1 i 9)) (by rw [Nat.sub_add_cancel hpos]) ?_
          refine g_istore_n X rfl dX0_goBack_63 [(1, .int (nI (S.2.2.2.1 i 9))), (4, .int (nI (S.2.2.2.1 i 9 - 1))), (3, .ref (B.2.1 15 b i)), (0, .ref (B.2.1 10 b 0)), (2, .int (nI (k + 1) - 1))] rfl (gnl_lt hnL (by decide)) ?_
          refine g_goto X 97 (by decide) dX0_goBack_64 ?_
          refine g_iinc X 4 rfl (nI k - 1) (by rw [nI_pred]; exact iinc_dec _) dX0_goBack_97 [(2, .int (nI k - 1)), (1, .int (nI (S.2.2.2.1 i 9))), (4, .int (nI (S.2.2.2.1 i 9 - 1))), (3, .ref (B.2.1 15 b i)), (0, .ref (B.2.1 10 b 0))] rfl (gnl_lt hnL (by decide)) ?_
          refine g_goto X 12 (by decide) dX0_goBack_100 ?_
          refine gG_L [4, 1, 0] (L' := [(0, .ref (B.2.1 10 b 0)), (1, .int (nI (S.2.2.2.1 i 9))), (2, .int (nI k - 1))]) rfl ?_
          refine ih V10 S11 (nI (S.2.2.2.1 i 9)) (by omega) hS11 mS11 (by rw [eS11]; exact hq1) (fun j hj => by rw [eS11]; exact hr1 j (by omega)) (fun a ha => ?_) (Or.inr ⟨_, rfl, hpw⟩) ?_
          · have h9 := hun a (by rw [htk]; exact List.mem_append_left _ ha)
            have hne : a ≠ i := fun h => by subst h; exact Nat.lt_irrefl _ (hpw a ha)
            rw [eS11]
            simp only [sC]
            rw [if_neg (fun h => hne h.1)]
            exact h9
          · rw [hF, htk, List.reverse_append, List.reverse_singleton, List.singleton_append, eS11, backL, hu]
  have hN : S.1 6 ≤ 16 := hw.1.2.2.2.2.2
  rcases List.eq_nil_or_concat (S.2.1 2) with hq | ⟨ys, l, hq⟩
  · exact loop (S.2.1 2).length V S (-1) (Nat.le_refl _) hS brmod.rf rfl (fun _ _ => rfl) (fun i hi => by rw [hq] at hi; simp at hi) (Or.inl rfl) (by unfold sGoBack; rw [hq]; rfl)
  · have hq : S.2.1 2 = ys ++ [l] := hq.trans (List.concat_eq_append ..)
    have hlm : l ∈ S.2.1 2 := by rw [hq]; simp
    have hrev : (S.2.1 2).reverse = l :: ys.reverse := by rw [hq]; simp
    have hpwl : ∀ a ∈ ys, S.2.2.2.1 l 9 < S.2.2.2.1 a 9 := by
      have h9 := hw.2.2.2.1
      rw [hq, List.pairwise_append] at h9
      exact fun a ha => h9.2.2 a ha l (List.mem_singleton.mpr rfl)
    by_cases hz : S.2.2.2.1 l 9 = 0
    · have hl : l < S.1 6 := hw.mem hlm
      have hcl := hw.2.1 l hl
      have hlen : (S.2.1 2).length = ys.length + 1 := by rw [hq]; simp
      have hst : S.2.2.2.1 l 8 = 1 := ((hw.2.2.2.2.1 l).mp hlm).2
      have hq16 : (S.2.1 (S.2.2.2.1 l 1)).length < 16 := hw.qlt16 (by have := hcl.1; omega) hl (fun h => by have := (hw.qmem (by have := hcl.1; omega) h).2.1; omega)
      refine g_iload_n X 2 rfl dX0_goBack_12 ?_
      refine gG_top (nI ys.length) (by rw [hlen]; exact nI_pred _) ?_
      refine g_if_lt X 103 (by decide) dX0_goBack_13 (fun c12 => ?_) (fun c12 => ?_)
      · first | exact absurd (nI_pos (by omega)) c12 | exact absurd c12 (nI_pos (by omega))
      · refine g_aload_n X 0 rfl dX0_goBack_16 ?_
        refine g_aload_n X 0 rfl dX0_goBack_17 ?_
        refine gg_X0_crossing X (gP_10 (by first | assumption | decide | omega)) fX0_43 dX0_goBack_18 ?_
        refine g_iload_n X 2 rfl dX0_goBack_21 ?_
        refine gG_top (nI ys.length) (by rw [hlen]; exact nI_pred _) ?_
        refine g_callV X hR (rest := [.ref (B.2.1 10 b 0)]) mX5_at lX0_83 (k_at hI V b 2 (S.2.1 2) ys.length (by first | assumption | decide | omega) (by first | assumption | decide | omega) (hS.2.1 2 (by decide)) (by omega)) rfl rfl (Nat.le_of_ble_eq_true rfl) (gP_13 (by first | assumption | decide | omega) (by first | assumption | decide | omega)) rfl rfl rfl ⟨Nat.le_of_ble_eq_true rfl, Nat.le_of_ble_eq_true rfl, Nat.le_of_ble_eq_true rfl, Nat.le_of_ble_eq_true rfl⟩ dX0_goBack_22 (fun r13 V14 hz_15 => ?_)
        refine gG_ret hz_15.1 hz_15.2 ?_
        refine gG_st [.int (lat (S.2.1 2) ys.length), .ref (B.2.1 10 b 0)] rfl ?_
        refine gG_top (nI l) (lat_some (by rw [hq]; simp)) ?_
        refine g_callV X hR (rest := []) mX0_cartAt lX0_57 (k_cartAt hI V b S l (by first | assumption | decide | omega) hS hN hl) rfl rfl (Nat.le_of_ble_eq_true rfl) (gP_10 (by first | assumption | decide | omega)) rfl rfl rfl ⟨Nat.le_of_ble_eq_true rfl, Nat.le_of_ble_eq_true rfl, Nat.le_of_ble_eq_true rfl, Nat.le_of_ble_eq_true rfl⟩ dX0_goBack_25 (fun r16 V17 hz_18 => ?_)
        refine gG_ret hz_18.1 hz_18.2 ?_
        refine gG_st [.ref (B.2.1 15 b l)] rfl ?_
        refine g_astore_n X rfl dX0_goBack_28 [(3, .ref (B.2.1 15 b l)), (0, .ref (B.2.1 10 b 0)), (1, .int ((-1))), (2, .int (nI (S.2.1 2).length - 1))] rfl (gnl_lt hnL (by decide)) ?_
        refine g_aload_n X 0 rfl dX0_goBack_29 ?_
        refine g_ifnonnull X 36 (by decide) dX0_goBack_30 ?_
        refine g_aload_n X 0 rfl dX0_goBack_36 ?_
        refine gg_X1_way X (gP_15 (by first | assumption | decide | omega) (by first | assumption | decide | omega)) fX0_133 dX0_goBack_37 ?_
        refine gG_top (nI (S.2.2.2.1 l 9)) (hS.2.2.2.1 l (by first | assumption | omega) 9 (by decide) (by decide)) ?_
        refine g_iconst X 1 (by decide) dX0_goBack_40 ?_
        refine g_isub X dX0_goBack_41 ?_
        refine gG_top ((-1)) (by rw [hz]; decide) ?_
        refine g_iload_n X 2 rfl dX0_goBack_42 ?_
        refine g_max X hR qL_X0_150 ⟨Nat.le_of_ble_eq_true rfl, Nat.le_of_ble_eq_true rfl, Nat.le_of_ble_eq_true rfl, Nat.le_of_ble_eq_true rfl⟩ (Nat.le_of_ble_eq_true rfl) dX0_goBack_43 ?_
        refine gG_top ((-1)) (by decide) ?_
        refine g_istore X dX0_goBack_46 [(4, .int ((-1))), (3, .ref (B.2.1 15 b l)), (0, .ref (B.2.1 10 b 0)), (1, .int ((-1))), (2, .int (nI (S.2.1 2).length - 1))] rfl (gnl_lt hnL (by decide)) ?_
        refine g_iload X 0 rfl dX0_goBack_48 ?_
        refine g_if_lt X 67 (by decide) dX0_goBack_50 (fun c19 => ?_) (fun c19 => ?_)
        · refine g_aload_n X 1 rfl dX0_goBack_67 ?_
          refine g_iconst X 0 (by decide) dX0_goBack_68 ?_
          refine gp_X1_state X (gP_15 (by first | assumption | decide | omega) (by first | assumption | decide | omega)) fX0_74 dX0_goBack_69 ?_
          refine gG_nm (fun V20 hV20 => ?_)
          obtain ⟨S21, eS21⟩ : ∃ y, y = sC S l 8 0 := ⟨_, rfl⟩
          have hS21 : AbsC V20 b S21 := by rw [eS21, hV20]; exact hS.setC l 8 0 (by decide)
          have mS21 : brmod V V20 b := by rw [hV20]; exact brmod.rf.up (by decide) (by decide)
          have nS21 : S21.1 = S.1 := by rw [eS21]; exact rfl
          have hE : S21.2.2.2.1 l 1 = S.2.2.2.1 l 1 := by rw [eS21]; simp [sC]
          have hE2 : S21.2.2.2.1 l 1 < 2 := by rw [hE]; have := hcl.1; omega
          refine g_aload_n X 2 rfl dX0_goBack_72 ?_
          refine g_aload_n X 1 rfl dX0_goBack_73 ?_
          refine gg_X1_end X (gP_15 (by first | assumption | decide | omega) (by first | assumption | decide | omega)) fX0_100 dX0_goBack_74 ?_
          refine gG_top (nI (S21.2.2.2.1 l 1)) (hS21.2.2.2.1 l (by rw [nS21]; first | assumption | omega) 1 (by decide) (by decide)) ?_
          refine g_callV X hR (rest := []) mX0_gateAt lX0_153 (k_gateAt hI V20 b (S21.2.2.2.1 l 1) (by first | assumption | decide | omega | (rw [nS21]; first | assumption | omega)) (by first | assumption | decide | omega | (rw [nS21]; first | assumption | omega))) rfl rfl (Nat.le_of_ble_eq_true rfl) (gP_10 (by first | assumption | decide | omega)) rfl rfl rfl ⟨Nat.le_of_ble_eq_true rfl, Nat.le_of_ble_eq_true rfl, Nat.le_of_ble_eq_true rfl, Nat.le_of_ble_eq_true rfl⟩ dX0_goBack_77 (fun r22 V23 hz_24 => ?_)
          refine gG_ret hz_24.1 hz_24.2 ?_
          refine gG_st [.ref (B.2.1 12 b (S21.2.2.2.1 l 1))] rfl ?_
          refine gg_X3_waiting X (gP_12 (by first | assumption | decide | omega) (by first | assumption | decide | omega)) fX0_157 dX0_goBack_80 ?_
          refine g_aload_n X 1 rfl dX0_goBack_83 ?_
          refine gg_X1_number X (gP_15 (by first | assumption | decide | omega) (by first | assumption | decide | omega)) fX0_160 dX0_goBack_84 ?_
          refine gG_top (nI l) (hS21.2.2.2.2.2.1 l (by first | assumption | omega)) ?_
          refine g_callV X hR (rest := []) mX5_addFirst lX0_163 (k_addFirst hI V20 b (S21.2.2.2.1 l 1) (S21.2.1 (S21.2.2.2.1 l 1)) l (by first | assumption | decide | omega | (rw [nS21]; first | assumption | omega)) (by first | assumption | decide | omega | (rw [nS21]; first | assumption | omega)) (hS21.2.1 _ (by omega)) (by rw [hE, eS21]; exact hq16)) rfl rfl (Nat.le_of_ble_eq_true rfl) (gP_13 (by first | assumption | decide | omega) (by first | assumption | decide | omega)) rfl rfl rfl ⟨Nat.le_of_ble_eq_true rfl, Nat.le_of_ble_eq_true rfl, Nat.le_of_ble_eq_true rfl, Nat.le_of_ble_eq_true rfl⟩ dX0_goBack_87 (fun r25 V26 hz_27 => ?_)
          refine gG_rv hz_27.1 ?_
          obtain ⟨-, hrowV26, hmodV26⟩ := hz_27
          obtain ⟨S28, eS28⟩ : ∃ y, y = sQ S21 (S21.2.2.2.1 l 1) (l :: (S21.2.1 (S21.2.2.2.1 l 1))) := ⟨_, rfl⟩
          have hS28 : AbsC V26 b S28 := by rw [eS28]; exact hS21.setQ hrowV26 hmodV26
          have mS28 : brmod V V26 b := mS21.trans hmodV26.br
          have nS28 : S28.1 = S.1 := by rw [eS28]; exact nS21
          refine gG_st [] rfl ?_
          refine g_aload_n X 2 rfl dX0_goBack_90 ?_
          refine gg_X0_crossing X (gP_10 (by first | assumption | decide | omega)) fX0_43 dX0_goBack_91 ?_
          refine g_callV X hR (rest := []) mX5_removeLast lX0_166 (k_removeLast hI V26 b 2 ys l (by first | assumption | decide | omega | (rw [nS28]; first | assumption | omega)) (by first | assumption | decide | omega | (rw [nS28]; first | assumption | omega)) (by
                  have h9 := hS28.2.1 2 (by decide)
                  rw [show S28.2.1 2 = ys ++ [l] by rw [eS28]; simp only [sQ]; rw [if_neg (by omega), eS21]; exact hq] at h9
                  exact h9)) rfl rfl (Nat.le_of_ble_eq_true rfl) (gP_13 (by first | assumption | decide | omega) (by first | assumption | decide | omega)) rfl rfl rfl ⟨Nat.le_of_ble_eq_true rfl, Nat.le_of_ble_eq_true rfl, Nat.le_of_ble_eq_true rfl, Nat.le_of_ble_eq_true rfl⟩ dX0_goBack_94 (fun r29 V30 hz_31 => ?_)
          refine gG_rv hz_31.1 ?_
          obtain ⟨-, hrowV30, hmodV30⟩ := hz_31
          obtain ⟨S32, eS32⟩ : ∃ y, y = sQ S28 2 ys := ⟨_, rfl⟩
          have hS32 : AbsC V30 b S32 := by rw [eS32]; exact hS28.setQ hrowV30 hmodV30
          have mS32 : brmod V V30 b := mS28.trans hmodV30.br
          have nS32 : S32.1 = S.1 := by rw [eS32]; exact nS28
          refine gG_st [] rfl ?_
          refine g_iinc X 4 rfl (nI ys.length - 1) (by rw [hlen, nI_pred]; exact iinc_dec _) dX0_goBack_97 [(2, .int (nI ys.length - 1)), (4, .int ((-1))), (3, .ref (B.2.1 15 b l)), (0, .ref (B.2.1 10 b 0)), (1, .int ((-1)))] rfl (gnl_lt hnL (by decide)) ?_
          refine g_goto X 12 (by decide) dX0_goBack_100 ?_
          refine gG_L [3, 4, 0] (L' := [(0, .ref (B.2.1 10 b 0)), (1, .int ((-1))), (2, .int (nI ys.length - 1))]) rfl ?_
          have hL : S32 = sLeave S l ys := by rw [eS32, eS28, eS21]; rfl
          refine loop ys.length V30 S32 (-1) (by omega) hS32 mS32 (by rw [hL]; rfl) (fun j hj => ?_) (fun i hi => ?_) (Or.inl rfl) ?_
          · rw [hL, hq]
            show ys[j]? = (ys ++ [l])[j]?
            rw [List.getElem?_append_left hj]
          · rw [hq, List.take_left'] at hi
            · have h9 := hpwl i hi
              have hne : i ≠ l := fun h => by subst h; exact Nat.lt_irrefl _ h9
              rw [hL]
              refine ⟨?_, by omega⟩
              simp only [sLeave, sQ, sC]
              rw [if_neg (fun h => hne h.1)]
            · rfl
          · unfold sGoBack
            rw [hrev]
            simp only []
            rw [if_pos hz, hL, hq, List.take_left' rfl, List.reverse_reverse]
        ·  exact absurd c19 (by decide)
    · exact loop (S.2.1 2).length V S (-1) (Nat.le_refl _) hS brmod.rf rfl (fun _ _ => rfl) (fun i hi => ⟨rfl, by
        rw [List.take_length, hq] at hi
        rcases List.mem_append.mp hi with h | h
        · have := hpwl i h; omega
        · rw [List.mem_singleton.mp h]; omega⟩) (Or.inl rfl) (by
        unfold sGoBack
        rw [hrev]
        simp only []
        rw [if_neg hz, List.take_length, hrev])

