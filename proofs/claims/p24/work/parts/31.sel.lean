/-! rows of whole, of the class (31.sel) -/
/-- what is counted -/
def cntV (w : gWd) (k : Nat) : Int32 := match k with
  | 0 => nI (w.1.1 0)
  | 1 => nI w.2.1.1
  | 2 => nI (w.1.1 6)
  | 3 => nI (sCnt w.1 0)
  | 4 => nI (sCnt w.1 1)
  | 5 => nI (sCnt w.1 2)
  | 6 => nI (sCnt w.1 3)
  | 7 => nI (w.1.1 1)
  | 8 => nI (sW w.1)
  | 9 => nI (w.1.1 2)
  | _ => nI (w.1.1 3)
/-- nothing but the class's objects is another one -/
def cmod (V V' : gMem) : Prop := ∀ K b i, ¬ K < 20 → V' K b i = V K b i
theorem cmod.rf {V : gMem} : cmod V V := fun _ _ _ _ => rfl
theorem cmod.trans {V V1 V2 : gMem} (h : cmod V V1) (h2 : cmod V1 V2) : cmod V V2 := fun K b i hn => (h2 K b i hn).trans (h K b i hn)
theorem brmod.cm {V V' : gMem} {b : Nat} (h : brmod V V' b) : cmod V V' := fun K b i hn => h K b i (fun q => hn (by omega))
theorem COk.br {V V' : gMem} {w : gWd} {S : gSt} (h : COk V w) (hm : brmod V V' 0) (hA : AbsC V' 0 S) : COk V' (S, w.2) :=
  ⟨hA, ⟨by rw [hm 1 0 0 (by simp)]; exact h.2.1.1, fun k hk => by rw [hm 2 0 0 (by simp)]; exact h.2.1.2 k hk⟩, fun j hj => by rw [hm 4 0 0 (by simp)]; exact h.2.2 j hj⟩
theorem COk.brO {V V' : gMem} {w : gWd} {b : Nat} (h : COk V w) (hm : brmod V V' b) (hb : b ≠ 0) : COk V' w :=
  ⟨h.1.other hm (Ne.symm hb), ⟨by rw [hm 1 0 0 (by simp)]; exact h.2.1.1, fun k hk => by rw [hm 2 0 0 (by simp)]; exact h.2.1.2 k hk⟩, fun j hj => by rw [hm 4 0 0 (by simp)]; exact h.2.2 j hj⟩
abbrev rmX6_countOf : Room := { frames := 3, cells := 0, slots := 0, locals := 66 }
set_option maxRecDepth 20000 in
theorem k_countOf {l : Launch} {B : gB} (hI : gI B) (V : gMem) (w : gWd) (k : Nat) (hQ : COk V w) (hw : wOk w) (hk : k < 11) : gM l B yX6_countOf cX6_countOf 2 (some .int) rmX6_countOf [.ref (B.2.1 0 0 0), .int (nI k)] V (fun v V' => v = some (.int (cntV w k)) ∧ V' = V) := by
  refine gM_of (own := RX6) (L := [(0, .ref (B.2.1 0 0 0)), (1, .int (nI k))]) (by decide +kernel) rfl hI (Nat.le_of_ble_eq_true rfl) rfl ?_
  intro Z hnL hR X F
  have h8 : ∀ i, i < w.1.1 6 → w.1.2.2.2.1 i 8 ≤ 3 := fun i hi => (hw.1.2.1 i hi).2.2.2.2.2.2.2
  refine g_iload_n X 1 rfl dX6_countOf_0 ?_
  rcases (show k = 0 ∨ k = 1 ∨ k = 2 ∨ k = 3 ∨ k = 4 ∨ k = 5 ∨ k = 6 ∨ k = 7 ∨ k = 8 ∨ k = 9 ∨ k = 10 by omega) with rfl | rfl | rfl | rfl | rfl | rfl | rfl | rfl | rfl | rfl | rfl
  · refine gG_top 0 rfl ?_
    refine g_tableIn X (55) 56 (by decide) (by decide) (by decide) (by decide) dX6_countOf_1 ?_
    refine g_aload_n X 0 rfl dX6_countOf_56 ?_
    refine gg_X6_bridge X ⟨by decide, by decide⟩ fX6_23 dX6_countOf_57 ?_
    refine gg_X0_tick X ⟨by decide, by decide⟩ fX6_90 dX6_countOf_60 ?_
    refine gG_top (nI (w.1.1 0)) (hQ.1.1 0 (by decide)) ?_
    refine g_iret X F ?_ rfl dX6_countOf_63
    exact ⟨rfl, rfl⟩
  · refine gG_top 1 rfl ?_
    refine g_tableIn X (63) 64 (by decide) (by decide) (by decide) (by decide) dX6_countOf_1 ?_
    refine g_aload_n X 0 rfl dX6_countOf_64 ?_
    refine gg_X6_code X ⟨by decide, by decide⟩ fX6_10 dX6_countOf_65 ?_
    refine gg_X2_size X ⟨by decide, by decide⟩ fX6_81 dX6_countOf_68 ?_
    refine gG_top (nI w.2.1.1) (hQ.2.1.1) ?_
    refine g_iret X F ?_ rfl dX6_countOf_71
    exact ⟨rfl, rfl⟩
  · refine gG_top 2 rfl ?_
    refine g_tableIn X (71) 72 (by decide) (by decide) (by decide) (by decide) dX6_countOf_1 ?_
    refine g_aload_n X 0 rfl dX6_countOf_72 ?_
    refine gg_X6_bridge X ⟨by decide, by decide⟩ fX6_23 dX6_countOf_73 ?_
    refine gg_X0_cartCount X ⟨by decide, by decide⟩ fX6_258 dX6_countOf_76 ?_
    refine gG_top (nI (w.1.1 6)) (hQ.1.1 6 (by decide)) ?_
    refine g_iret X F ?_ rfl dX6_countOf_79
    exact ⟨rfl, rfl⟩
  · refine gG_top 3 rfl ?_
    refine g_tableIn X (79) 80 (by decide) (by decide) (by decide) (by decide) dX6_countOf_1 ?_
    refine g_aload_n X 0 rfl dX6_countOf_80 ?_
    refine gg_X6_bridge X ⟨by decide, by decide⟩ fX6_23 dX6_countOf_81 ?_
    refine g_iconst X 0 (by decide) dX6_countOf_84 ?_
    refine g_callV X hR (rest := []) mX0_cartsIn lX6_261 (k_cartsIn hI V 0 w.1 0 (by decide) hQ.1 hw.1.1.2.2.2.2.2 h8 (by decide)) rfl rfl (Nat.le_of_ble_eq_true rfl) ⟨by decide, by decide⟩ rfl rfl rfl ⟨Nat.le_of_ble_eq_true rfl, Nat.le_of_ble_eq_true rfl, Nat.le_of_ble_eq_true rfl, Nat.le_of_ble_eq_true rfl⟩ dX6_countOf_85 (fun r1 V2 hz_3 => ?_)
    refine gG_ret hz_3.1 hz_3.2 ?_
    refine gG_st [.int (nI (sCnt w.1 0))] rfl ?_
    refine g_iret X F ?_ rfl dX6_countOf_88
    exact ⟨rfl, rfl⟩
  · refine gG_top 4 rfl ?_
    refine g_tableIn X (88) 89 (by decide) (by decide) (by decide) (by decide) dX6_countOf_1 ?_
    refine g_aload_n X 0 rfl dX6_countOf_89 ?_
    refine gg_X6_bridge X ⟨by decide, by decide⟩ fX6_23 dX6_countOf_90 ?_
    refine g_iconst X 1 (by decide) dX6_countOf_93 ?_
    refine g_callV X hR (rest := []) mX0_cartsIn lX6_261 (k_cartsIn hI V 0 w.1 1 (by decide) hQ.1 hw.1.1.2.2.2.2.2 h8 (by decide)) rfl rfl (Nat.le_of_ble_eq_true rfl) ⟨by decide, by decide⟩ rfl rfl rfl ⟨Nat.le_of_ble_eq_true rfl, Nat.le_of_ble_eq_true rfl, Nat.le_of_ble_eq_true rfl, Nat.le_of_ble_eq_true rfl⟩ dX6_countOf_94 (fun r4 V5 hz_6 => ?_)
    refine gG_ret hz_6.1 hz_6.2 ?_
    refine gG_st [.int (nI (sCnt w.1 1))] rfl ?_
    refine g_iret X F ?_ rfl dX6_countOf_97
    exact ⟨rfl, rfl⟩
  · refine gG_top 5 rfl ?_
    refine g_tableIn X (97) 98 (by decide) (by decide) (by decide) (by decide) dX6_countOf_1 ?_
    refine g_aload_n X 0 rfl dX6_countOf_98 ?_
    refine gg_X6_bridge X ⟨by decide, by decide⟩ fX6_23 dX6_countOf_99 ?_
    refine g_iconst X 2 (by decide) dX6_countOf_102 ?_
    refine g_callV X hR (rest := []) mX0_cartsIn lX6_261 (k_cartsIn hI V 0 w.1 2 (by decide) hQ.1 hw.1.1.2.2.2.2.2 h8 (by decide)) rfl rfl (Nat.le_of_ble_eq_true rfl) ⟨by decide, by decide⟩ rfl rfl rfl ⟨Nat.le_of_ble_eq_true rfl, Nat.le_of_ble_eq_true rfl, Nat.le_of_ble_eq_true rfl, Nat.le_of_ble_eq_true rfl⟩ dX6_countOf_103 (fun r7 V8 hz_9 => ?_)
    refine gG_ret hz_9.1 hz_9.2 ?_
    refine gG_st [.int (nI (sCnt w.1 2))] rfl ?_
    refine g_iret X F ?_ rfl dX6_countOf_106
    exact ⟨rfl, rfl⟩
  · refine gG_top 6 rfl ?_
    refine g_tableIn X (106) 107 (by decide) (by decide) (by decide) (by decide) dX6_countOf_1 ?_
    refine g_aload_n X 0 rfl dX6_countOf_107 ?_
    refine gg_X6_bridge X ⟨by decide, by decide⟩ fX6_23 dX6_countOf_108 ?_
    refine g_iconst X 3 (by decide) dX6_countOf_111 ?_
    refine g_callV X hR (rest := []) mX0_cartsIn lX6_261 (k_cartsIn hI V 0 w.1 3 (by decide) hQ.1 hw.1.1.2.2.2.2.2 h8 (by decide)) rfl rfl (Nat.le_of_ble_eq_true rfl) ⟨by decide, by decide⟩ rfl rfl rfl ⟨Nat.le_of_ble_eq_true rfl, Nat.le_of_ble_eq_true rfl, Nat.le_of_ble_eq_true rfl, Nat.le_of_ble_eq_true rfl⟩ dX6_countOf_112 (fun r10 V11 hz_12 => ?_)
    refine gG_ret hz_12.1 hz_12.2 ?_
    refine gG_st [.int (nI (sCnt w.1 3))] rfl ?_
    refine g_iret X F ?_ rfl dX6_countOf_115
    exact ⟨rfl, rfl⟩
  · refine gG_top 7 rfl ?_
    refine g_tableIn X (115) 116 (by decide) (by decide) (by decide) (by decide) dX6_countOf_1 ?_
    refine g_aload_n X 0 rfl dX6_countOf_116 ?_
    refine gg_X6_bridge X ⟨by decide, by decide⟩ fX6_23 dX6_countOf_117 ?_
    refine gg_X0_direction X ⟨by decide, by decide⟩ fX6_136 dX6_countOf_120 ?_
    refine gG_top (nI (w.1.1 1)) (hQ.1.1 1 (by decide)) ?_
    refine g_iret X F ?_ rfl dX6_countOf_123
    exact ⟨rfl, rfl⟩
  · refine gG_top 8 rfl ?_
    refine g_tableIn X (123) 124 (by decide) (by decide) (by decide) (by decide) dX6_countOf_1 ?_
    refine g_aload_n X 0 rfl dX6_countOf_124 ?_
    refine gg_X6_bridge X ⟨by decide, by decide⟩ fX6_23 dX6_countOf_125 ?_
    refine g_callV X hR (rest := []) mX0_weightOnBridge lX6_264 (k_wob hI V 0 w.1 (by decide) hQ.1 hw.1.1.2.2.2.2.2 (fun i hi => hw.1.mem hi)) rfl rfl (Nat.le_of_ble_eq_true rfl) ⟨by decide, by decide⟩ rfl rfl rfl ⟨Nat.le_of_ble_eq_true rfl, Nat.le_of_ble_eq_true rfl, Nat.le_of_ble_eq_true rfl, Nat.le_of_ble_eq_true rfl⟩ dX6_countOf_128 (fun r13 V14 hz_15 => ?_)
    refine gG_ret hz_15.1 hz_15.2 ?_
    refine gG_st [.int (nI (sW w.1))] rfl ?_
    refine g_iret X F ?_ rfl dX6_countOf_131
    exact ⟨rfl, rfl⟩
  · refine gG_top 9 rfl ?_
    refine g_tableIn X (131) 132 (by decide) (by decide) (by decide) (by decide) dX6_countOf_1 ?_
    refine g_aload_n X 0 rfl dX6_countOf_132 ?_
    refine gg_X6_bridge X ⟨by decide, by decide⟩ fX6_23 dX6_countOf_133 ?_
    refine gg_X0_places X ⟨by decide, by decide⟩ fX6_122 dX6_countOf_136 ?_
    refine gG_top (nI (w.1.1 2)) (hQ.1.1 2 (by decide)) ?_
    refine g_iret X F ?_ rfl dX6_countOf_139
    exact ⟨rfl, rfl⟩
  · refine gG_top 10 rfl ?_
    refine g_tableOut X 140 (by decide) (by decide) dX6_countOf_1 ?_
    refine g_aload_n X 0 rfl dX6_countOf_140 ?_
    refine gg_X6_bridge X ⟨by decide, by decide⟩ fX6_23 dX6_countOf_141 ?_
    refine gg_X0_bears X ⟨by decide, by decide⟩ fX6_119 dX6_countOf_144 ?_
    refine gG_top (nI (w.1.1 3)) (hQ.1.1 3 (by decide)) ?_
    refine g_iret X F ?_ rfl dX6_countOf_147
    exact ⟨rfl, rfl⟩
abbrev rmX6_change : Room := { frames := 1, cells := 0, slots := 0, locals := 20 }
set_option maxRecDepth 20000 in
theorem k_Cchange {l : Launch} {B : gB} (hI : gI B) (V : gMem) (w : gWd) (hQ : COk V w) (hw : wOk w) : gM l B yX6_change cX6_change 1 (some .int) rmX6_change [.ref (B.2.1 0 0 0)] V (fun v V' => v = some (.int (nI (1 - w.1.1 1))) ∧ COk V' (sTurn w.1, w.2) ∧ cmod V V' ∧ brmod V V' 0) := by
  refine gM_of (own := RX6) (L := [(0, .ref (B.2.1 0 0 0))]) (by decide +kernel) rfl hI (Nat.le_of_ble_eq_true rfl) rfl ?_
  intro Z hnL hR X F
  refine g_aload_n X 0 rfl dX6_change_0 ?_
  refine gg_X6_bridge X ⟨by decide, by decide⟩ fX6_23 dX6_change_1 ?_
  refine g_callV X hR (rest := []) mX0_turn lX6_133 (k_turn hI V 0 w.1 (by decide) hQ.1 hw.1.1.1) rfl rfl (Nat.le_of_ble_eq_true rfl) ⟨by decide, by decide⟩ rfl rfl rfl ⟨Nat.le_of_ble_eq_true rfl, Nat.le_of_ble_eq_true rfl, Nat.le_of_ble_eq_true rfl, Nat.le_of_ble_eq_true rfl⟩ dX6_change_4 (fun r1 V2 hz_3 => ?_)
  refine gG_rv hz_3.1 ?_
  obtain ⟨-, haV2, hbV2⟩ := hz_3
  obtain ⟨S4, eS4⟩ : ∃ y, y = sN w.1 1 (1 - w.1.1 1) := ⟨_, rfl⟩
  have hS4 : AbsC V2 0 S4 := by rw [eS4]; exact haV2
  have mS4 : brmod V V2 0 := hbV2
  refine gG_st [] rfl ?_
  refine g_aload_n X 0 rfl dX6_change_7 ?_
  refine gg_X6_bridge X ⟨by decide, by decide⟩ fX6_23 dX6_change_8 ?_
  refine gg_X0_direction X ⟨by decide, by decide⟩ fX6_136 dX6_change_11 ?_
  refine gG_top (nI (S4.1 1)) (hS4.1 1 (by decide)) ?_
  refine g_iret X F ?_ rfl dX6_change_14
  have heq : S4 = sTurn w.1 := eS4
  rw [heq] at hS4
  refine ⟨by rw [heq]; exact rfl, hQ.br mS4 hS4, mS4.cm, mS4⟩
/-- nothing but the two bridges for looking ahead is another one -/
def b12 (V V' : gMem) : Prop := ∀ K b i, ¬ (10 ≤ K ∧ K ≤ 15 ∧ (b = 1 ∨ b = 2)) → V' K b i = V K b i
theorem b12.rf {V : gMem} : b12 V V := fun _ _ _ _ => rfl
theorem b12.br {V V1 V2 : gMem} {b : Nat} (h : b12 V V1) (h2 : brmod V1 V2 b) (hb : b = 1 ∨ b = 2) : b12 V V2 := fun K c i hn => (h2 K c i (fun q => hn ⟨q.1, q.2.1, by omega⟩)).trans (h K c i hn)
theorem b12.A {V V1 : gMem} {S : gSt} (h : b12 V V1) (hA : AbsC V 0 S) : AbsC V1 0 S := by
  have e : ∀ K i, V1 K 0 i = V K 0 i := fun K i => h K 0 i (by omega)
  exact ⟨fun k hk => by rw [e]; exact hA.1 k hk, fun r hr => (hA.2.1 r hr).same (e _ _) (e _ _), fun x hx k h1 h2 => by rw [e]; exact hA.2.2.1 x hx k h1 h2, fun i hi k h1 h2 => by rw [e]; exact hA.2.2.2.1 i hi k h1 h2, fun i hi => by rw [e]; exact hA.2.2.2.2.1 i hi, fun i hi => by rw [e]; exact hA.2.2.2.2.2.1 i hi, fun h0 i h1 h2 => by rw [e]; exact hA.2.2.2.2.2.2 h0 i h1 h2⟩
theorem b12.cm {V V' : gMem} (h : b12 V V') : cmod V V' := fun K b i hn => h K b i (fun q => hn (by omega))
theorem COk.b12 {V V' : gMem} {w : gWd} (h : COk V w) (hm : b12 V V') : COk V' w :=
  ⟨hm.A h.1, ⟨by rw [hm 1 0 0 (by simp)]; exact h.2.1.1, fun k hk => by rw [hm 2 0 0 (by simp)]; exact h.2.1.2 k hk⟩, fun j hj => by rw [hm 4 0 0 (by simp)]; exact h.2.2 j hj⟩
/-- the carts of the bridges for looking ahead have their numbers -/
def N15 (V : gMem) : Prop := ∀ b, b < 3 → ∀ j, j < 16 → V 15 b j 0 = nI j
theorem N15.br {V V' : gMem} {b : Nat} {S : gSt} (h : N15 V) (hm : brmod V V' b) (hA : AbsC V' b S) : N15 V' := by
  intro c hc j hj
  by_cases hb : c = b
  · rw [hb]; exact hA.2.2.2.2.2.1 j hj
  · rw [hm 15 c j (fun q => hb q.2.2)]; exact h c hc j hj
set_option maxHeartbeats 200000 in
abbrev rmX6_keep : Room := { frames := 6, cells := 0, slots := 0, locals := 133 }
set_option maxRecDepth 20000 in
theorem k_Ckeep {l : Launch} {B : gB} (hI : gI B) (V : gMem) (w : gWd) (hQ : COk V w) (hw : wOk w) (hN : N15 V) : gM l B yX6_keep cX6_keep 6 (some .int) rmX6_keep [.ref (B.2.1 0 0 0)] V (fun v V' => v = some (.int (oKeep w)) ∧ COk V' w ∧ N15 V' ∧ cmod V V') := by
  refine gM_of (own := RX6) (L := [(0, .ref (B.2.1 0 0 0))]) (by decide +kernel) rfl hI (Nat.le_of_ble_eq_true rfl) rfl ?_
  intro Z hnL hR X F
  refine g_aload_n X 0 rfl dX6_keep_0 ?_
  refine gg_X6_branch X ⟨by decide, by decide⟩ fX6_30 dX6_keep_1 ?_
  refine g_aload_n X 0 rfl dX6_keep_4 ?_
  refine gg_X6_bridge X ⟨by decide, by decide⟩ fX6_23 dX6_keep_5 ?_
  refine g_callV X hR (rest := []) mX0_copyFrom lX6_222 (k_copyFrom hI V 2 0 w.1 (by decide) (by decide) (by decide) hQ.1 hw.1.1.2.2.2.2.2 hw.1.2.1 (hN 2 (by decide)) (by decide)) rfl rfl (Nat.le_of_ble_eq_true rfl) ⟨by decide, by decide⟩ rfl rfl rfl ⟨Nat.le_of_ble_eq_true rfl, Nat.le_of_ble_eq_true rfl, Nat.le_of_ble_eq_true rfl, Nat.le_of_ble_eq_true rfl⟩ dX6_keep_8 (fun r1 V2 hz_3 => ?_)
  refine gG_rv hz_3.1 ?_
  obtain ⟨-, haV2, hbV2⟩ := hz_3
  refine gG_st [] rfl ?_
  have bV2 : b12 V V2 := b12.rf.br hbV2 (Or.inr rfl)
  have nV2 : N15 V2 := hN.br hbV2 haV2
  refine g_aload_n X 0 rfl dX6_keep_11 ?_
  refine gg_X6_branch X ⟨by decide, by decide⟩ fX6_30 dX6_keep_12 ?_
  refine g_bipush X 60 (by decide) dX6_keep_15 ?_
  refine g_callV X hR (rest := []) mX0_run lX6_212 (k_run hI V2 2 w.1 60 (by decide) haV2 hw.1 (by omega)) rfl rfl (Nat.le_of_ble_eq_true rfl) ⟨by decide, by decide⟩ rfl rfl rfl ⟨Nat.le_of_ble_eq_true rfl, Nat.le_of_ble_eq_true rfl, Nat.le_of_ble_eq_true rfl, Nat.le_of_ble_eq_true rfl⟩ dX6_keep_17 (fun r4 V5 hz_6 => ?_)
  refine gG_rv hz_6.1 ?_
  obtain ⟨-, haV5, hbV5⟩ := hz_6
  refine gG_st [.int (nI (sRun 60 w.1).2)] rfl ?_
  have bV5 : b12 V V5 := bV2.br hbV5 (Or.inr rfl)
  have nV5 : N15 V5 := nV2.br hbV5 haV5
  refine g_istore_n X rfl dX6_keep_20 [(1, .int (nI (sRun 60 w.1).2)), (0, .ref (B.2.1 0 0 0))] rfl (gnl_lt hnL (by decide)) ?_
  refine g_iconst X (-1) (by decide) dX6_keep_21 ?_
  refine g_istore_n X rfl dX6_keep_22 [(2, .int ((-1))), (1, .int (nI (sRun 60 w.1).2)), (0, .ref (B.2.1 0 0 0))] rfl (gnl_lt hnL (by decide)) ?_
  refine g_iconst X 0 (by decide) dX6_keep_23 ?_
  refine g_istore_n X rfl dX6_keep_24 [(3, .int 0), (2, .int ((-1))), (1, .int (nI (sRun 60 w.1).2)), (0, .ref (B.2.1 0 0 0))] rfl (gnl_lt hnL (by decide)) ?_
  refine g_aload_n X 3 rfl dX6_keep_25 ?_
  refine gg_X6_ahead X ⟨by decide, by decide⟩ fX6_27 dX6_keep_26 ?_
  refine g_aload_n X 3 rfl dX6_keep_29 ?_
  refine gg_X6_bridge X ⟨by decide, by decide⟩ fX6_23 dX6_keep_30 ?_
  refine g_callV X hR (rest := []) mX0_copyFrom lX6_222 (k_copyFrom hI V5 1 0 w.1 (by decide) (by decide) (by decide) (bV5.A hQ.1) hw.1.1.2.2.2.2.2 hw.1.2.1 (nV5 1 (by decide)) (by decide)) rfl rfl (Nat.le_of_ble_eq_true rfl) ⟨by decide, by decide⟩ rfl rfl rfl ⟨Nat.le_of_ble_eq_true rfl, Nat.le_of_ble_eq_true rfl, Nat.le_of_ble_eq_true rfl, Nat.le_of_ble_eq_true rfl⟩ dX6_keep_33 (fun r7 V8 hz_9 => ?_)
  refine gG_rv hz_9.1 ?_
  obtain ⟨-, haV8, hbV8⟩ := hz_9
  refine gG_st [] rfl ?_
  have bV8 : b12 V V8 := bV5.br hbV8 (Or.inl rfl)
  have nV8 : N15 V8 := nV5.br hbV8 haV8
  refine g_iconst X 0 (by decide) dX6_keep_36 ?_
  refine g_istore X dX6_keep_37 [(4, .int 0), (3, .int 0), (2, .int ((-1))), (1, .int (nI (sRun 60 w.1).2)), (0, .ref (B.2.1 0 0 0))] rfl (gnl_lt hnL (by decide)) ?_
  refine gG_L [4, 3, 2, 1, 0] (L' := [(0, .ref (B.2.1 0 0 0)), (1, .int (nI (sRun 60 w.1).2)), (2, .int ((-1))), (3, .int 0), (4, .int 0)]) rfl ?_
  refine gG_Le [(0, .ref (B.2.1 0 0 0)), (1, .int (nI (kpL w.1 0).1)), (2, .int ((kpL w.1 0).2)), (3, .int (nI (sRun 0 w.1).2)), (4, .int (nI 0))] (by rw [kpL_0]; exact rfl) ?_
  have loop : ∀ (f : Nat) (k : Nat) (Vp : gMem), k + f = 60 → AbsC Vp 1 (sRun k w.1).1 → b12 V Vp → N15 Vp → gG Z B (0, 0) Vp 39 [(0, .ref (B.2.1 0 0 0)), (1, .int (nI (kpL w.1 k).1)), (2, .int ((kpL w.1 k).2)), (3, .int (nI (sRun k w.1).2)), (4, .int (nI k))] [] := by
    intro f
    induction f with
    | zero =>
      intro k Vp hf hA1 hbp hnp
      refine g_iload X 4 rfl dX6_keep_39 ?_
      refine g_bipush X 60 (by decide) dX6_keep_41 ?_
      refine g_icmp_ge X 109 (by decide) dX6_keep_43 (fun c10 => ?_) (fun c10 => ?_)
      · refine g_iload_n X 2 rfl dX6_keep_109 ?_
        refine g_iret X F ?_ rfl dX6_keep_110
        exact ⟨by rw [show k = 60 by omega]; rfl, hQ.b12 hbp, hnp, hbp.cm⟩
      · first | exact absurd (nI_le (a := 60) (by omega) (by omega)) c10 | exact absurd c10 (nI_le (a := 60) (by omega) (by omega))
    | succ f ih =>
      intro k Vp hf hA1 hbp hnp
      refine g_iload X 4 rfl dX6_keep_39 ?_
      refine g_bipush X 60 (by decide) dX6_keep_41 ?_
      refine g_icmp_ge X 109 (by decide) dX6_keep_43 (fun c11 => ?_) (fun c11 => ?_)
      · first | exact absurd (nI_ge (b := 60) (by omega) (by decide)) c11 | exact absurd c11 (nI_ge (b := 60) (by omega) (by decide))
      · refine g_aload_n X 0 rfl dX6_keep_46 ?_
        refine gg_X6_branch X ⟨by decide, by decide⟩ fX6_30 dX6_keep_47 ?_
        refine g_aload_n X 0 rfl dX6_keep_50 ?_
        refine gg_X6_ahead X ⟨by decide, by decide⟩ fX6_27 dX6_keep_51 ?_
        refine g_callV X hR (rest := []) mX0_copyFrom lX6_222 (k_copyFrom hI Vp 2 1 (sRun k w.1).1 (by decide) (by decide) (by decide) hA1 (WF.run k hw.1).1.2.2.2.2.2 (WF.run k hw.1).2.1 (hnp 2 (by decide)) (by decide)) rfl rfl (Nat.le_of_ble_eq_true rfl) ⟨by decide, by decide⟩ rfl rfl rfl ⟨Nat.le_of_ble_eq_true rfl, Nat.le_of_ble_eq_true rfl, Nat.le_of_ble_eq_true rfl, Nat.le_of_ble_eq_true rfl⟩ dX6_keep_54 (fun r12 V13 hz_14 => ?_)
        refine gG_rv hz_14.1 ?_
        obtain ⟨-, haV13, hbV13⟩ := hz_14
        refine gG_st [] rfl ?_
        have bV13 : b12 V V13 := hbp.br hbV13 (Or.inr rfl)
        have nV13 : N15 V13 := hnp.br hbV13 haV13
        refine g_aload_n X 0 rfl dX6_keep_57 ?_
        refine gg_X6_branch X ⟨by decide, by decide⟩ fX6_30 dX6_keep_58 ?_
        refine g_callV X hR (rest := []) mX0_turn lX6_133 (k_turn hI V13 2 (sRun k w.1).1 (by decide) haV13 (WF.run k hw.1).1.1) rfl rfl (Nat.le_of_ble_eq_true rfl) ⟨by decide, by decide⟩ rfl rfl rfl ⟨Nat.le_of_ble_eq_true rfl, Nat.le_of_ble_eq_true rfl, Nat.le_of_ble_eq_true rfl, Nat.le_of_ble_eq_true rfl⟩ dX6_keep_61 (fun r15 V16 hz_17 => ?_)
        refine gG_rv hz_17.1 ?_
        obtain ⟨-, haV16, hbV16⟩ := hz_17
        refine gG_st [] rfl ?_
        have bV16 : b12 V V16 := bV13.br hbV16 (Or.inr rfl)
        have nV16 : N15 V16 := nV13.br hbV16 haV16
        refine g_iload_n X 3 rfl dX6_keep_64 ?_
        refine g_aload_n X 0 rfl dX6_keep_65 ?_
        refine gg_X6_branch X ⟨by decide, by decide⟩ fX6_30 dX6_keep_66 ?_
        refine g_bipush X 60 (by decide) dX6_keep_69 ?_
        refine g_iload X 4 rfl dX6_keep_71 ?_
        refine g_isub X dX6_keep_73 ?_
        refine gG_top (nI (60 - k)) (pk_sub (a := 60) (by omega)) ?_
        refine g_callV X hR (rest := [.int (nI (sRun k w.1).2)]) mX0_run lX6_212 (k_run hI V16 2 (sTurn (sRun k w.1).1) (60 - k) (by decide) haV16 (WF.run k hw.1).turn (by omega)) rfl rfl (Nat.le_of_ble_eq_true rfl) ⟨by decide, by decide⟩ rfl rfl rfl ⟨Nat.le_of_ble_eq_true rfl, Nat.le_of_ble_eq_true rfl, Nat.le_of_ble_eq_true rfl, Nat.le_of_ble_eq_true rfl⟩ dX6_keep_74 (fun r18 V19 hz_20 => ?_)
        refine gG_rv hz_20.1 ?_
        obtain ⟨-, haV19, hbV19⟩ := hz_20
        refine gG_st [.int (nI (sRun (60 - k) (sTurn (sRun k w.1).1)).2), .int (nI (sRun k w.1).2)] rfl ?_
        have bV19 : b12 V V19 := bV16.br hbV19 (Or.inr rfl)
        have nV19 : N15 V19 := nV16.br hbV19 haV19
        refine g_iadd X dX6_keep_77 ?_
        refine gG_top (nI ((sRun k w.1).2 + (sRun (60 - k) (sTurn (sRun k w.1).1)).2)) (nI_add (sRun k w.1).2 (sRun (60 - k) (sTurn (sRun k w.1).1)).2) ?_
        refine gG_top (nI (kpF w.1 k)) (by unfold kpF; exact rfl) ?_
        refine g_istore X dX6_keep_78 [(5, .int (nI (kpF w.1 k))), (0, .ref (B.2.1 0 0 0)), (1, .int (nI (kpL w.1 k).1)), (2, .int ((kpL w.1 k).2)), (3, .int (nI (sRun k w.1).2)), (4, .int (nI k))] rfl (gnl_lt hnL (by decide)) ?_
        refine g_iload X 0 rfl dX6_keep_80 ?_
        have hk1 := kpL_le hw.1 k
        have hk2 := kpF_le hw.1 k
        by_cases hmo : (kpL w.1 k).1 < kpF w.1 k
        · skip
          refine g_iload_n X 2 rfl dX6_keep_82 ?_
          refine g_icmp_le X 92 (by decide) dX6_keep_83 (fun c21 => ?_) (fun c21 => ?_)
          · first | exact absurd (nI_ge (by omega) (by omega)) c21 | exact absurd c21 (nI_ge (by omega) (by omega))
          · refine g_iload X 0 rfl dX6_keep_86 ?_
            refine g_istore_n X rfl dX6_keep_88 [(1, .int (nI (kpF w.1 k))), (5, .int (nI (kpF w.1 k))), (0, .ref (B.2.1 0 0 0)), (2, .int ((kpL w.1 k).2)), (3, .int (nI (sRun k w.1).2)), (4, .int (nI k))] rfl (gnl_lt hnL (by decide)) ?_
            refine g_iload X 5 rfl dX6_keep_89 ?_
            refine g_istore_n X rfl dX6_keep_91 [(2, .int (nI k)), (1, .int (nI (kpF w.1 k))), (5, .int (nI (kpF w.1 k))), (0, .ref (B.2.1 0 0 0)), (3, .int (nI (sRun k w.1).2)), (4, .int (nI k))] rfl (gnl_lt hnL (by decide)) ?_
            refine gG_L [3, 1, 0, 4, 5] (L' := [(0, .ref (B.2.1 0 0 0)), (1, .int (nI (kpF w.1 k))), (2, .int (nI k)), (3, .int (nI (sRun k w.1).2)), (4, .int (nI k))]) rfl ?_
            refine gG_Le [(0, .ref (B.2.1 0 0 0)), (1, .int (nI (kpL w.1 (k + 1)).1)), (2, .int ((kpL w.1 (k + 1)).2)), (3, .int (nI (sRun k w.1).2)), (4, .int (nI k))] (by rw [kpL_s, if_pos hmo]) ?_
            have hA1b : AbsC V19 1 (sRun k w.1).1 := ((hA1.other hbV13 (by decide)).other hbV16 (by decide)).other hbV19 (by decide)
            refine g_iload_n X 3 rfl dX6_keep_92 ?_
            refine g_aload_n X 0 rfl dX6_keep_93 ?_
            refine gg_X6_ahead X ⟨by decide, by decide⟩ fX6_27 dX6_keep_94 ?_
            refine g_iconst X 1 (by decide) dX6_keep_97 ?_
            refine g_callV X hR (rest := [.int (nI (sRun k w.1).2)]) mX0_run lX6_212 (k_run hI V19 1 (sRun k w.1).1 1 (by decide) hA1b (WF.run k hw.1) (by omega)) rfl rfl (Nat.le_of_ble_eq_true rfl) ⟨by decide, by decide⟩ rfl rfl rfl ⟨Nat.le_of_ble_eq_true rfl, Nat.le_of_ble_eq_true rfl, Nat.le_of_ble_eq_true rfl, Nat.le_of_ble_eq_true rfl⟩ dX6_keep_98 (fun r22 V23 hz_24 => ?_)
            refine gG_rv hz_24.1 ?_
            obtain ⟨-, haV23, hbV23⟩ := hz_24
            refine gG_st [.int (nI (sRun 1 (sRun k w.1).1).2), .int (nI (sRun k w.1).2)] rfl ?_
            have bV23 : b12 V V23 := bV19.br hbV23 (Or.inl rfl)
            have nV23 : N15 V23 := nV19.br hbV23 haV23
            refine g_iadd X dX6_keep_101 ?_
            refine gG_top (nI ((sRun k w.1).2 + (sRun 1 (sRun k w.1).1).2)) (nI_add (sRun k w.1).2 (sRun 1 (sRun k w.1).1).2) ?_
            refine gG_top (nI (sRun (k + 1) w.1).2) (by rw [(sRun_snoc k w.1).2]; exact rfl) ?_
            refine g_istore_n X rfl dX6_keep_102 [(3, .int (nI (sRun (k + 1) w.1).2)), (0, .ref (B.2.1 0 0 0)), (1, .int (nI (kpL w.1 (k + 1)).1)), (2, .int ((kpL w.1 (k + 1)).2)), (4, .int (nI k))] rfl (gnl_lt hnL (by decide)) ?_
            refine g_iinc X 4 rfl (nI (k + 1)) (iinc_1 _) dX6_keep_103 [(4, .int (nI (k + 1))), (3, .int (nI (sRun (k + 1) w.1).2)), (0, .ref (B.2.1 0 0 0)), (1, .int (nI (kpL w.1 (k + 1)).1)), (2, .int ((kpL w.1 (k + 1)).2))] rfl (gnl_lt hnL (by decide)) ?_
            refine g_goto X 39 (by decide) dX6_keep_106 ?_
            refine gG_L [2, 3, 4, 1, 0] (L' := [(0, .ref (B.2.1 0 0 0)), (1, .int (nI (kpL w.1 (k + 1)).1)), (2, .int ((kpL w.1 (k + 1)).2)), (3, .int (nI (sRun (k + 1) w.1).2)), (4, .int (nI (k + 1)))]) rfl ?_
            refine ih (k + 1) V23 (by omega) (by rw [(sRun_snoc k w.1).1]; exact haV23) (bV23) (nV23)
        · skip
          refine g_iload_n X 2 rfl dX6_keep_82 ?_
          refine g_icmp_le X 92 (by decide) dX6_keep_83 (fun c25 => ?_) (fun c25 => ?_)
          · refine gG_L [1, 2, 3, 4, 5] (L' := [(0, .ref (B.2.1 0 0 0)), (1, .int (nI (kpL w.1 k).1)), (2, .int ((kpL w.1 k).2)), (3, .int (nI (sRun k w.1).2)), (4, .int (nI k))]) rfl ?_
            refine gG_Le [(0, .ref (B.2.1 0 0 0)), (1, .int (nI (kpL w.1 (k + 1)).1)), (2, .int ((kpL w.1 (k + 1)).2)), (3, .int (nI (sRun k w.1).2)), (4, .int (nI k))] (by rw [kpL_s, if_neg hmo]) ?_
            have hA1b : AbsC V19 1 (sRun k w.1).1 := ((hA1.other hbV13 (by decide)).other hbV16 (by decide)).other hbV19 (by decide)
            refine g_iload_n X 3 rfl dX6_keep_92 ?_
            refine g_aload_n X 0 rfl dX6_keep_93 ?_
            refine gg_X6_ahead X ⟨by decide, by decide⟩ fX6_27 dX6_keep_94 ?_
            refine g_iconst X 1 (by decide) dX6_keep_97 ?_
            refine g_callV X hR (rest := [.int (nI (sRun k w.1).2)]) mX0_run lX6_212 (k_run hI V19 1 (sRun k w.1).1 1 (by decide) hA1b (WF.run k hw.1) (by omega)) rfl rfl (Nat.le_of_ble_eq_true rfl) ⟨by decide, by decide⟩ rfl rfl rfl ⟨Nat.le_of_ble_eq_true rfl, Nat.le_of_ble_eq_true rfl, Nat.le_of_ble_eq_true rfl, Nat.le_of_ble_eq_true rfl⟩ dX6_keep_98 (fun r26 V27 hz_28 => ?_)
            refine gG_rv hz_28.1 ?_
            obtain ⟨-, haV27, hbV27⟩ := hz_28
            refine gG_st [.int (nI (sRun 1 (sRun k w.1).1).2), .int (nI (sRun k w.1).2)] rfl ?_
            have bV27 : b12 V V27 := bV19.br hbV27 (Or.inl rfl)
            have nV27 : N15 V27 := nV19.br hbV27 haV27
            refine g_iadd X dX6_keep_101 ?_
            refine gG_top (nI ((sRun k w.1).2 + (sRun 1 (sRun k w.1).1).2)) (nI_add (sRun k w.1).2 (sRun 1 (sRun k w.1).1).2) ?_
            refine gG_top (nI (sRun (k + 1) w.1).2) (by rw [(sRun_snoc k w.1).2]; exact rfl) ?_
            refine g_istore_n X rfl dX6_keep_102 [(3, .int (nI (sRun (k + 1) w.1).2)), (0, .ref (B.2.1 0 0 0)), (1, .int (nI (kpL w.1 (k + 1)).1)), (2, .int ((kpL w.1 (k + 1)).2)), (4, .int (nI k))] rfl (gnl_lt hnL (by decide)) ?_
            refine g_iinc X 4 rfl (nI (k + 1)) (iinc_1 _) dX6_keep_103 [(4, .int (nI (k + 1))), (3, .int (nI (sRun (k + 1) w.1).2)), (0, .ref (B.2.1 0 0 0)), (1, .int (nI (kpL w.1 (k + 1)).1)), (2, .int ((kpL w.1 (k + 1)).2))] rfl (gnl_lt hnL (by decide)) ?_
            refine g_goto X 39 (by decide) dX6_keep_106 ?_
            refine gG_L [2, 3, 4, 1, 0] (L' := [(0, .ref (B.2.1 0 0 0)), (1, .int (nI (kpL w.1 (k + 1)).1)), (2, .int ((kpL w.1 (k + 1)).2)), (3, .int (nI (sRun (k + 1) w.1).2)), (4, .int (nI (k + 1)))]) rfl ?_
            refine ih (k + 1) V27 (by omega) (by rw [(sRun_snoc k w.1).1]; exact haV27) (bV27) (nV27)
          · first | exact absurd (nI_le (by omega) (by omega)) c25 | exact absurd c25 (nI_le (by omega) (by omega))
  exact loop 60 0 V8 (by omega) haV8 bV8 nV8
theorem WF.build {S : gSt} (h : WF S) (h0 : S.2.1 2 = []) {p q : Nat} (hp : 4 ≤ p ∧ p ≤ 30) (hq : q ≤ 500) : WF (sPB S p q) := by
  obtain ⟨⟨a, b, c, d, e, f⟩, h2, h3, h4, h5, h6, h7, h8⟩ := h
  refine ⟨⟨a, hp, hq, d, e, f⟩, h2, h3, h4, h5, fun i hi => ?_, h7, h8⟩
  have hi : i ∈ S.2.1 2 := hi
  rw [h0] at hi
  cases hi
theorem wOk.build {w : gWd} (h : wOk w) (p q : Int32) : wOk (oBuild w p q).2.2 := by
  unfold oBuild
  split
  · rename_i h1
    split
    · rename_i h0
      obtain ⟨j, j1, j2, rfl⟩ := (inB_iff (a := 4) (n := 30) (by decide) (by decide)).mp h1.1
      obtain ⟨z, z1, z2, rfl⟩ := (inB_iff (a := 10) (n := 500) (by decide) (by decide)).mp h1.2
      refine ⟨h.1.build h0 ?_ ?_, h.2⟩
      · rw [nI_clamp (by omega)]; exact ⟨j1, j2⟩
      · rw [nI_clamp (by omega)]; exact z2
    · exact h
  · exact h
theorem WF.toll {S : gSt} (h : WF S) {p q : Nat} (hp : p ≤ 9) (hq : q ≤ 9) : WF (sN (sN S 4 p) 5 q) := by
  obtain ⟨⟨a, b, c, d, e, f⟩, h2, h3, h4, h5, h6, h7, h8⟩ := h
  exact ⟨⟨a, b, c, hp, hq, f⟩, h2, h3, h4, h5, h6, h7, h8⟩
theorem wOk.toll {w : gWd} (h : wOk w) (p q : Int32) : wOk (oToll w p q).2.2 := by
  unfold oToll
  split
  · rename_i h1
    obtain ⟨j, j1, j2, rfl⟩ := (inB_iff (a := 0) (n := 9) (by decide) (by decide)).mp h1.1
    obtain ⟨z, z1, z2, rfl⟩ := (inB_iff (a := 0) (n := 9) (by decide) (by decide)).mp h1.2
    refine ⟨h.1.toll ?_ ?_, h.2⟩
    · rw [nI_clamp (by omega)]; exact j2
    · rw [nI_clamp (by omega)]; exact z2
  · exact h
theorem wOk.turn {w : gWd} (h : wOk w) : wOk (sTurn w.1, w.2) := ⟨h.1.turn, h.2⟩
theorem wOk.box {w : gWd} (h : wOk w) (x q : Int32) : wOk (oBox w x q).2.2 := by unfold oBox; split <;> exact h
theorem WF.box {S : gSt} (h : WF S) (e k v : Nat) : WF (sG S e k v) := h
theorem wOk.empty {w : gWd} (h : wOk w) (e : Int32) : wOk (oEmpty w e).2.2 := by
  unfold oEmpty
  split
  · exact ⟨(h.1.box _ _ _).box _ _ _, h.2⟩
  · exact h
theorem wOk.pass {w : gWd} (h : wOk w) (x : Int32) : wOk (oPass w x).2.2 := by
  unfold oPass
  split
  · exact ⟨h.1.run _, h.2⟩
  · exact h
