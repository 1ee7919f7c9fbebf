/-! a tick on the bridge -/
def goOnL (pl tk : Nat) : List Nat → Nat → gSt → gSt × Nat
  | [], _, S => (S, 0)
  | i :: is, lim, S =>
    if min (S.2.2.2.1 i 9 + S.2.2.2.1 i 4) (lim - 1) < pl then goOnL pl tk is (min (S.2.2.2.1 i 9 + S.2.2.2.1 i 4) (lim - 1)) (sC S i 9 (min (S.2.2.2.1 i 9 + S.2.2.2.1 i 4) (lim - 1)))
    else ((goOnL pl tk is lim (sO (sC S i 8 2) i (nI tk))).1, (goOnL pl tk is lim (sO (sC S i 8 2) i (nI tk))).2 + 1)
def sGoOn (S : gSt) : gSt × Nat :=
  (sQ (goOnL (S.1 2) (S.1 0) (S.2.1 2) (S.1 2 + 4) S).1 2 ((S.2.1 2).drop (goOnL (S.1 2) (S.1 0) (S.2.1 2) (S.1 2 + 4) S).2), (goOnL (S.1 2) (S.1 0) (S.2.1 2) (S.1 2 + 4) S).2)
theorem goOnL_le (pl tk : Nat) : ∀ (is : List Nat) (lim : Nat) (S : gSt), (goOnL pl tk is lim S).2 ≤ is.length := by
  intro is
  induction is with
  | nil => intro lim S; exact Nat.le_refl _
  | cons i is ih =>
    intro lim S
    unfold goOnL
    split
    · exact Nat.le_succ_of_le (ih _ _)
    · exact Nat.succ_le_succ (ih _ _)
theorem sQ_sQ (S : gSt) (r : Nat) (a c : List Nat) : sQ (sQ S r a) r c = sQ S r c := by
  unfold sQ
  congr 1
  congr 1
  funext r'
  by_cases h : r' = r <;> simp [h]
theorem drop_cons {xs is : List Nat} {j i : Nat} (h : xs.drop j = i :: is) : xs[j]? = some i ∧ xs.drop (j + 1) = is ∧ j < xs.length := by
  have h1 : xs[j]? = some i := by
    have := congrArg (fun l => l[0]?) h
    simpa using this
  refine ⟨h1, ?_, (List.getElem?_eq_some_iff.mp h1).1⟩
  rw [← List.drop_drop, h]
  rfl
theorem drop_ex {xs : List Nat} {j : Nat} (h : j < xs.length) : ∃ c ys, xs.drop j = c :: ys := by
  cases hd : xs.drop j with
  | nil => have := congrArg List.length hd; simp at this; omega
  | cons c ys => exact ⟨c, ys, rfl⟩
theorem AbsC.sameQ {V : gMem} {b : Nat} {S : gSt} (h : AbsC V b S) {r : Nat} (hr : r < 3) {xs : List Nat} (e : S.2.1 r = xs) : AbsC V b (sQ S r xs) := h.setQ (e ▸ h.2.1 r hr) rowmod.rf
theorem nI_min {a c : Nat} (h : a ≤ c) : nI a = nI (min a c) := by rw [Nat.min_eq_left h]
theorem nI_min' {a c : Nat} (h : c ≤ a) : nI c = nI (min a c) := by rw [Nat.min_eq_right h]

theorem minI {a c : Nat} (ha : a < 2 ^ 31) (hc : c < 2 ^ 31) : (if nI c < nI a then nI c else nI a) = nI (min a c) := by
  by_cases h : c < a
  · rw [if_pos (nI_lt h ha), Nat.min_eq_right (Nat.le_of_lt h)]
  · rw [if_neg (nI_nlt (Nat.le_of_not_lt h) hc), Nat.min_eq_left (Nat.le_of_not_lt h)]

abbrev rmX0_goOn : Room := { frames := 2, cells := 0, slots := 0, locals := 42 }
set_option maxRecDepth 20000 in
theorem k_goOn {l : Launch} {B : gB} (hI : gI B) (V : gMem) (b : Nat) (S : gSt) (hb : b < 3) (hS : AbsC V b S) (hw : WF S) : gM l B yX0_goOn cX0_goOn 6 (some .int) rmX0_goOn [.ref (B.2.1 10 b 0)] V (fun v V' => v = some (.int (nI (sGoOn S).2)) ∧ AbsC V' b (sGoOn S).1 ∧ brmod V V' b) := by
  refine gM_of (own := RX0) (L := [(0, .ref (B.2.1 10 b 0))]) (by decide +kernel) rfl hI (Nat.le_of_ble_eq_true rfl) rfl ?_
  intro Z hnL hR X F
  refine g_iconst X 0 (by decide) dX0_goOn_0 ?_
  refine g_istore_n X rfl dX0_goOn_1 [(1, .int 0), (0, .ref (B.2.1 10 b 0))] rfl (gnl_lt hnL (by decide)) ?_
  refine g_aload_n X 1 rfl dX0_goOn_2 ?_
  refine gg_X0_places X (gP_10 (by first | assumption | decide | omega)) fX0_9 dX0_goOn_3 ?_
  refine gG_top (nI (S.1 2)) (hS.1 2 (by decide)) ?_
  refine g_iconst X 3 (by decide) dX0_goOn_6 ?_
  refine g_iadd X dX0_goOn_7 ?_
  refine gG_top (nI ((S.1 2) + 3)) (nI_add (S.1 2) 3) ?_
  refine g_istore_n X rfl dX0_goOn_8 [(2, .int (nI ((S.1 2) + 3))), (1, .int 0), (0, .ref (B.2.1 10 b 0))] rfl (gnl_lt hnL (by decide)) ?_
  refine gG_L [2, 1, 0] (L' := [(0, .ref (B.2.1 10 b 0)), (1, .int 0), (2, .int (nI ((S.1 2) + 3)))]) rfl ?_
  refine gG_Le [(0, .ref (B.2.1 10 b 0)), (1, .int (nI 0)), (2, .int (nI (S.1 2 + 4) - 1))] (by rw [show nI (S.1 2 + 4) - 1 = nI (S.1 2 + 3) from nI_pred _]; rfl) ?_
  refine g_iconst X 0 (by decide) dX0_goOn_9 ?_
  refine g_istore_n X rfl dX0_goOn_10 [(3, .int 0), (0, .ref (B.2.1 10 b 0)), (1, .int (nI 0)), (2, .int (nI (S.1 2 + 4) - 1))] rfl (gnl_lt hnL (by decide)) ?_
  refine gG_Le [(3, .int (nI 0)), (0, .ref (B.2.1 10 b 0)), (1, .int (nI 0)), (2, .int (nI (S.1 2 + 4) - 1))] rfl ?_
  refine gG_L [1, 2, 3, 0] (L' := [(0, .ref (B.2.1 10 b 0)), (1, .int (nI 0)), (2, .int (nI (S.1 2 + 4) - 1)), (3, .int (nI 0))]) rfl ?_
  have loop : ∀ (is : List Nat) (j m lim : Nat) (V1 : gMem) (S1 : gSt), j ≤ (S.2.1 2).length → (S.2.1 2).drop j = is → AbsC V1 b S1 → brmod V V1 b → S1.1 = S.1 ∧ S1.2.1 = S.2.1 → (∀ i ∈ is, S1.2.2.2.1 i 9 = S.2.2.2.1 i 9 ∧ S1.2.2.2.1 i 4 = S.2.2.2.1 i 4) → is.Pairwise (fun i j => S.2.2.2.1 j 9 < S.2.2.2.1 i 9) → (∀ i ∈ is, S.2.2.2.1 i 9 < lim) → lim ≤ 34 → goOnL (S.1 2) (S.1 0) (S.2.1 2) (S.1 2 + 4) S = ((goOnL (S.1 2) (S.1 0) is lim S1).1, (goOnL (S.1 2) (S.1 0) is lim S1).2 + m) → gG Z B (0, 0) V1 11 [(0, .ref (B.2.1 10 b 0)), (1, .int (nI m)), (2, .int (nI lim - 1)), (3, .int (nI j))] [] := by
    intro is
    induction is with
    | nil =>
      intro j m lim V1 S1 hjb hd hA hm hq1 hun hpw hlim hl34 hF
      have hX : (S1.2.1 2).length = (S.2.1 2).length := by rw [hq1.2]
      have hXl : (S.2.1 2).length ≤ 16 := hS.bnd (by decide)
      have hjl : (S.2.1 2).length ≤ j := by
        have := congrArg List.length hd; simp at this; omega
      have hmeq : (goOnL (S.1 2) (S.1 0) (S.2.1 2) (S.1 2 + 4) S) = (S1, m) := by rw [hF]; show (S1, 0 + m) = (S1, m); rw [Nat.zero_add]
      have hml : m ≤ (S.2.1 2).length := by
        have := goOnL_le (S.1 2) (S.1 0) (S.2.1 2) (S.1 2 + 4) S; rw [hmeq] at this; exact this
      refine g_iload_n X 3 rfl dX0_goOn_11 ?_
      refine g_aload_n X 0 rfl dX0_goOn_12 ?_
      refine gg_X0_crossing X (gP_10 (by first | assumption | decide | omega)) fX0_43 dX0_goOn_13 ?_
      refine gg_X5_size X (gP_13 (by first | assumption | decide | omega) (by first | assumption | decide | omega)) fX0_80 dX0_goOn_16 ?_
      refine gG_top (nI (S1.2.1 2).length) ((hA.2.1 2 (by first | decide | omega)).1) ?_
      refine g_icmp_ge X 109 (by decide) dX0_goOn_19 (fun c1 => ?_) (fun c1 => ?_)
      · refine g_iconst X 0 (by decide) dX0_goOn_109 ?_
        refine g_istore_n X rfl dX0_goOn_110 [(3, .int 0), (0, .ref (B.2.1 10 b 0)), (1, .int (nI m)), (2, .int (nI lim - 1))] rfl (gnl_lt hnL (by decide)) ?_
        refine gG_L [1, 2, 0] (L' := [(0, .ref (B.2.1 10 b 0)), (1, .int (nI m)), (3, .int 0)]) rfl ?_
        have hS2 : sGoOn S = (sQ S1 2 ((S.2.1 2).drop m), m) := by simp only [sGoOn, hmeq]
        have loop2 : ∀ (f : Nat) (k : Nat) (V2 : gMem), k + f = m → AbsC V2 b (sQ S1 2 ((S.2.1 2).drop k)) → brmod V V2 b → gG Z B (0, 0) V2 111 [(0, .ref (B.2.1 10 b 0)), (1, .int (nI m)), (3, .int (nI k))] [] := by
          intro f
          induction f with
          | zero =>
            intro k V2 hf h2 m2
            refine g_iload_n X 2 rfl dX0_goOn_111 ?_
            refine g_iload_n X 1 rfl dX0_goOn_112 ?_
            refine g_icmp_ge X 129 (by decide) dX0_goOn_113 (fun c2 => ?_) (fun c2 => ?_)
            · refine g_iload_n X 1 rfl dX0_goOn_129 ?_
              refine g_iret X F ?_ rfl dX0_goOn_130
              have hkm : k = m := by omega
              subst hkm
              rw [hS2]
              exact ⟨rfl, h2, m2⟩
            · first | exact absurd (nI_le (by omega) (by omega)) c2 | exact absurd c2 (nI_le (by omega) (by omega))
          | succ f ih =>
            intro k V2 hf h2 m2
            obtain ⟨c, ys, hdr⟩ := drop_ex (xs := S.2.1 2) (j := k) (by omega)
            have hdc := drop_cons hdr
            have hrc : RowIs V2 b 2 (c :: ys) := by
              have h3 := h2.2.1 2 (by decide)
              simp only [sQ, if_true] at h3
              rw [hdr] at h3; exact h3
            refine g_iload_n X 2 rfl dX0_goOn_111 ?_
            refine g_iload_n X 1 rfl dX0_goOn_112 ?_
            refine g_icmp_ge X 129 (by decide) dX0_goOn_113 (fun c3 => ?_) (fun c3 => ?_)
            · first | exact absurd (nI_ge (by omega) (by omega)) c3 | exact absurd c3 (nI_ge (by omega) (by omega))
            · refine g_aload_n X 0 rfl dX0_goOn_116 ?_
              refine gg_X0_crossing X (gP_10 (by first | assumption | decide | omega)) fX0_43 dX0_goOn_117 ?_
              refine g_callV X hR (rest := []) mX5_removeFirst lX0_147 (k_removeFirst hI V2 b 2 c ys (by first | assumption | decide | omega) (by first | assumption | decide | omega) hrc) rfl rfl (Nat.le_of_ble_eq_true rfl) (gP_13 (by first | assumption | decide | omega) (by first | assumption | decide | omega)) rfl rfl rfl ⟨Nat.le_of_ble_eq_true rfl, Nat.le_of_ble_eq_true rfl, Nat.le_of_ble_eq_true rfl, Nat.le_of_ble_eq_true rfl⟩ dX0_goOn_120 (fun r4 V5 hz_6 => ?_)
              refine gG_rv hz_6.1 ?_
              obtain ⟨-, hrowV5, hmodV5⟩ := hz_6
              refine gG_st [] rfl ?_
              refine g_iinc X 2 rfl (nI (k + 1)) (iinc_1 _) dX0_goOn_123 [(3, .int (nI (k + 1))), (0, .ref (B.2.1 10 b 0)), (1, .int (nI m))] rfl (gnl_lt hnL (by decide)) ?_
              refine g_goto X 111 (by decide) dX0_goOn_126 ?_
              refine gG_L [1, 2, 0] (L' := [(0, .ref (B.2.1 10 b 0)), (1, .int (nI m)), (3, .int (nI (k + 1)))]) rfl ?_
              refine ih (k + 1) V5 (by omega) (by have := h2.setQ hrowV5 hmodV5; rw [sQ_sQ, ← hdc.2.1] at this; exact this) (m2.trans hmodV5.br)
        exact loop2 m 0 V1 (by omega) (hA.sameQ (by decide) (by rw [hq1.2]; simp)) hm
      · first | exact absurd (nI_le (by omega) (by omega)) c1 | exact absurd c1 (nI_le (by omega) (by omega))
    | cons i is ih =>
      intro j m lim V1 S1 hjb hd hA hm hq1 hun hpw hlim hl34 hF
      have hX : (S1.2.1 2).length = (S.2.1 2).length := by rw [hq1.2]
      have hXl : (S.2.1 2).length ≤ 16 := hS.bnd (by decide)
      obtain ⟨hg, hd2, hjl⟩ := drop_cons hd
      have him : i ∈ S.2.1 2 := List.mem_of_getElem? hg
      have hin : i < S.1 6 := hw.mem him
      have hin1 : i < S1.1 6 := by rw [hq1.1]; exact hin
      have hN : S.1 6 ≤ 16 := hw.1.2.2.2.2.2
      have hN1 : S1.1 6 ≤ 16 := by rw [hq1.1]; exact hN
      have hl0 := hlim i List.mem_cons_self
      have hpace := (hw.2.1 i hin).2.2.2.1
      have hpl := hw.1.2.1
      obtain ⟨hu9, hu4⟩ := hun i List.mem_cons_self
      rw [List.pairwise_cons] at hpw
      refine g_iload_n X 3 rfl dX0_goOn_11 ?_
      refine g_aload_n X 0 rfl dX0_goOn_12 ?_
      refine gg_X0_crossing X (gP_10 (by first | assumption | decide | omega)) fX0_43 dX0_goOn_13 ?_
      refine gg_X5_size X (gP_13 (by first | assumption | decide | omega) (by first | assumption | decide | omega)) fX0_80 dX0_goOn_16 ?_
      refine gG_top (nI (S1.2.1 2).length) ((hA.2.1 2 (by first | decide | omega)).1) ?_
      refine g_icmp_ge X 109 (by decide) dX0_goOn_19 (fun c7 => ?_) (fun c7 => ?_)
      · first | exact absurd (nI_ge (by omega) (by omega)) c7 | exact absurd c7 (nI_ge (by omega) (by omega))
      · refine g_aload_n X 0 rfl dX0_goOn_22 ?_
        refine g_aload_n X 0 rfl dX0_goOn_23 ?_
        refine gg_X0_crossing X (gP_10 (by first | assumption | decide | omega)) fX0_43 dX0_goOn_24 ?_
        refine g_iload_n X 3 rfl dX0_goOn_27 ?_
        refine g_callV X hR (rest := [.ref (B.2.1 10 b 0)]) mX5_at lX0_83 (k_at hI V1 b 2 (S1.2.1 2) j (by first | assumption | decide | omega) (by first | assumption | decide | omega) (hA.2.1 2 (by decide)) (by omega)) rfl rfl (Nat.le_of_ble_eq_true rfl) (gP_13 (by first | assumption | decide | omega) (by first | assumption | decide | omega)) rfl rfl rfl ⟨Nat.le_of_ble_eq_true rfl, Nat.le_of_ble_eq_true rfl, Nat.le_of_ble_eq_true rfl, Nat.le_of_ble_eq_true rfl⟩ dX0_goOn_28 (fun r8 V9 hz_10 => ?_)
        refine gG_ret hz_10.1 hz_10.2 ?_
        refine gG_st [.int (lat (S1.2.1 2) j), .ref (B.2.1 10 b 0)] rfl ?_
        refine gG_top (nI i) (lat_some (by rw [hq1.2]; exact hg)) ?_
        refine g_callV X hR (rest := []) mX0_cartAt lX0_57 (k_cartAt hI V1 b S1 i (by first | assumption | decide | omega) hA hN1 hin1) rfl rfl (Nat.le_of_ble_eq_true rfl) (gP_10 (by first | assumption | decide | omega)) rfl rfl rfl ⟨Nat.le_of_ble_eq_true rfl, Nat.le_of_ble_eq_true rfl, Nat.le_of_ble_eq_true rfl, Nat.le_of_ble_eq_true rfl⟩ dX0_goOn_31 (fun r11 V12 hz_13 => ?_)
        refine gG_ret hz_13.1 hz_13.2 ?_
        refine gG_st [.ref (B.2.1 15 b i)] rfl ?_
        refine g_astore X dX0_goOn_34 [(4, .ref (B.2.1 15 b i)), (0, .ref (B.2.1 10 b 0)), (1, .int (nI m)), (2, .int (nI lim - 1)), (3, .int (nI j))] rfl (gnl_lt hnL (by decide)) ?_
        refine g_aload X 0 rfl dX0_goOn_36 ?_
        refine g_ifnonnull X 44 (by decide) dX0_goOn_38 ?_
        refine g_aload X 0 rfl dX0_goOn_44 ?_
        refine gg_X1_way X (gP_15 (by first | assumption | decide | omega) (by first | assumption | decide | omega)) fX0_133 dX0_goOn_46 ?_
        refine gG_top (nI (S1.2.2.2.1 i 9)) (hA.2.2.2.1 i (by first | assumption | omega) 9 (by decide) (by decide)) ?_
        refine g_aload X 0 rfl dX0_goOn_49 ?_
        refine gg_X1_pace X (gP_15 (by first | assumption | decide | omega) (by first | assumption | decide | omega)) fX0_96 dX0_goOn_51 ?_
        refine gG_top (nI (S1.2.2.2.1 i 4)) (hA.2.2.2.1 i (by first | assumption | omega) 4 (by decide) (by decide)) ?_
        refine g_iadd X dX0_goOn_54 ?_
        refine gG_top (nI ((S1.2.2.2.1 i 9) + (S1.2.2.2.1 i 4))) (nI_add (S1.2.2.2.1 i 9) (S1.2.2.2.1 i 4)) ?_
        refine g_iload_n X 3 rfl dX0_goOn_55 ?_
        refine gG_top (nI (lim - 1)) (nI_dec (by omega)) ?_
        refine g_min X hR qL_X0_142 ⟨Nat.le_of_ble_eq_true rfl, Nat.le_of_ble_eq_true rfl, Nat.le_of_ble_eq_true rfl, Nat.le_of_ble_eq_true rfl⟩ (Nat.le_of_ble_eq_true rfl) dX0_goOn_56 ?_
        refine gG_top (nI (min (S1.2.2.2.1 i 9 + S1.2.2.2.1 i 4) (lim - 1))) (minI (by rw [hu9, hu4]; omega) (by omega)) ?_
        refine g_istore X dX0_goOn_59 [(5, .int (nI (min (S1.2.2.2.1 i 9 + S1.2.2.2.1 i 4) (lim - 1)))), (4, .ref (B.2.1 15 b i)), (0, .ref (B.2.1 10 b 0)), (1, .int (nI m)), (2, .int (nI lim - 1)), (3, .int (nI j))] rfl (gnl_lt hnL (by decide)) ?_
        refine g_iload X 0 rfl dX0_goOn_61 ?_
        refine g_aload_n X 2 rfl dX0_goOn_63 ?_
        refine gg_X0_places X (gP_10 (by first | assumption | decide | omega)) fX0_9 dX0_goOn_64 ?_
        refine gG_top (nI (S1.1 2)) (hA.1 2 (by decide)) ?_
        by_cases hlt : min (S1.2.2.2.1 i 9 + S1.2.2.2.1 i 4) (lim - 1) < S.1 2
        · skip
          refine g_icmp_ge X 85 (by decide) dX0_goOn_67 (fun c14 => ?_) (fun c14 => ?_)
          · first | exact absurd (nI_ge (by rw [hq1.1]; exact hlt) (by rw [hq1.1]; omega)) c14 | exact absurd c14 (nI_ge (by rw [hq1.1]; exact hlt) (by rw [hq1.1]; omega))
          · refine g_aload X 1 rfl dX0_goOn_70 ?_
            refine g_iload X 0 rfl dX0_goOn_72 ?_
            refine gp_X1_way X (gP_15 (by first | assumption | decide | omega) (by first | assumption | decide | omega)) fX0_133 dX0_goOn_74 ?_
            refine gG_nm (fun V15 hV15 => ?_)
            obtain ⟨S16, eS16⟩ : ∃ y, y = sC S1 i 9 (min (S1.2.2.2.1 i 9 + S1.2.2.2.1 i 4) (lim - 1)) := ⟨_, rfl⟩
            have hS16 : AbsC V15 b S16 := by rw [eS16, hV15]; exact hA.setC i 9 (min (S1.2.2.2.1 i 9 + S1.2.2.2.1 i 4) (lim - 1)) (by decide)
            have mS16 : brmod V V15 b := by rw [hV15]; exact hm.up (by decide) (by decide)
            have nS16 : S16.1 = S1.1 := by rw [eS16]; exact rfl
            refine g_iload X 0 rfl dX0_goOn_77 ?_
            refine g_iconst X 1 (by decide) dX0_goOn_79 ?_
            refine g_isub X dX0_goOn_80 ?_
            refine g_istore_n X rfl dX0_goOn_81 [(2, .int ((nI (min (S1.2.2.2.1 i 9 + S1.2.2.2.1 i 4) (lim - 1))) - 1)), (5, .int (nI (min (S1.2.2.2.1 i 9 + S1.2.2.2.1 i 4) (lim - 1)))), (4, .ref (B.2.1 15 b i)), (0, .ref (B.2.1 10 b 0)), (1, .int (nI m)), (3, .int (nI j))] rfl (gnl_lt hnL (by decide)) ?_
            refine g_goto X 103 (by decide) dX0_goOn_82 ?_
            refine g_iinc X 5 rfl (nI (j + 1)) (iinc_1 _) dX0_goOn_103 [(3, .int (nI (j + 1))), (2, .int ((nI (min (S1.2.2.2.1 i 9 + S1.2.2.2.1 i 4) (lim - 1))) - 1)), (5, .int (nI (min (S1.2.2.2.1 i 9 + S1.2.2.2.1 i 4) (lim - 1)))), (4, .ref (B.2.1 15 b i)), (0, .ref (B.2.1 10 b 0)), (1, .int (nI m))] rfl (gnl_lt hnL (by decide)) ?_
            refine g_goto X 11 (by decide) dX0_goOn_106 ?_
            refine gG_L [4, 5, 1, 0] (L' := [(0, .ref (B.2.1 10 b 0)), (1, .int (nI m)), (2, .int ((nI (min (S1.2.2.2.1 i 9 + S1.2.2.2.1 i 4) (lim - 1))) - 1)), (3, .int (nI (j + 1)))]) rfl ?_
            rw [goOnL] at hF
            rw [if_pos hlt] at hF
            refine ih (j + 1) m (min (S1.2.2.2.1 i 9 + S1.2.2.2.1 i 4) (lim - 1)) V15 S16 (by omega) hd2 hS16 mS16 ?_ (fun k hk => ?_) hpw.2 (fun k hk => ?_) (by omega) ?_
            · rw [eS16]; exact hq1
            · have hne : k ≠ i := fun h => by subst h; exact Nat.lt_irrefl _ (hpw.1 k hk)
              rw [eS16]
              simp only [sC]
              rw [if_neg (fun h => hne h.1), if_neg (fun h => hne h.1)]
              exact hun k (List.mem_cons_of_mem _ hk)
            · have := hpw.1 k hk; rw [hu9, hu4]; omega
            · rw [eS16]; exact hF
        · skip
          refine g_icmp_ge X 85 (by decide) dX0_goOn_67 (fun c17 => ?_) (fun c17 => ?_)
          · refine g_aload X 1 rfl dX0_goOn_85 ?_
            refine g_iconst X 2 (by decide) dX0_goOn_87 ?_
            refine gp_X1_state X (gP_15 (by first | assumption | decide | omega) (by first | assumption | decide | omega)) fX0_74 dX0_goOn_88 ?_
            refine gG_nm (fun V18 hV18 => ?_)
            obtain ⟨S19, eS19⟩ : ∃ y, y = sC S1 i 8 2 := ⟨_, rfl⟩
            have hS19 : AbsC V18 b S19 := by rw [eS19, hV18]; exact hA.setC i 8 2 (by decide)
            have mS19 : brmod V V18 b := by rw [hV18]; exact hm.up (by decide) (by decide)
            have nS19 : S19.1 = S1.1 := by rw [eS19]; exact rfl
            refine g_aload X 1 rfl dX0_goOn_91 ?_
            refine g_aload_n X 2 rfl dX0_goOn_93 ?_
            refine gg_X0_tick X (gP_10 (by first | assumption | decide | omega)) fX0_71 dX0_goOn_94 ?_
            refine gG_top (nI (S1.1 0)) ((hS19.1 0 (by decide)).trans (by rw [nS19])) ?_
            refine gp_X1_overTick X (gP_15 (by first | assumption | decide | omega) (by first | assumption | decide | omega)) fX0_90 dX0_goOn_97 ?_
            refine gG_nm (fun V20 hV20 => ?_)
            obtain ⟨S21, eS21⟩ : ∃ y, y = sO S19 i (nI (S1.1 0)) := ⟨_, rfl⟩
            have hS21 : AbsC V20 b S21 := by rw [eS21, hV20]; exact hS19.setO i (nI (S1.1 0))
            have mS21 : brmod V V20 b := by rw [hV20]; exact mS19.up (by decide) (by decide)
            have nS21 : S21.1 = S1.1 := by rw [eS21]; exact nS19
            refine g_iinc X 3 rfl (nI (m + 1)) (iinc_1 _) dX0_goOn_100 [(1, .int (nI (m + 1))), (5, .int (nI (min (S1.2.2.2.1 i 9 + S1.2.2.2.1 i 4) (lim - 1)))), (4, .ref (B.2.1 15 b i)), (0, .ref (B.2.1 10 b 0)), (2, .int (nI lim - 1)), (3, .int (nI j))] rfl (gnl_lt hnL (by decide)) ?_
            refine g_iinc X 5 rfl (nI (j + 1)) (iinc_1 _) dX0_goOn_103 [(3, .int (nI (j + 1))), (1, .int (nI (m + 1))), (5, .int (nI (min (S1.2.2.2.1 i 9 + S1.2.2.2.1 i 4) (lim - 1)))), (4, .ref (B.2.1 15 b i)), (0, .ref (B.2.1 10 b 0)), (2, .int (nI lim - 1))] rfl (gnl_lt hnL (by decide)) ?_
            refine g_goto X 11 (by decide) dX0_goOn_106 ?_
            refine gG_L [4, 1, 5, 0] (L' := [(0, .ref (B.2.1 10 b 0)), (1, .int (nI (m + 1))), (2, .int (nI lim - 1)), (3, .int (nI (j + 1)))]) rfl ?_
            rw [goOnL] at hF
            rw [if_neg hlt] at hF
            refine ih (j + 1) (m + 1) lim V20 S21 (by omega) hd2 hS21 mS21 ?_ (fun k hk => ?_) hpw.2 (fun k hk => hlim k (List.mem_cons_of_mem _ hk)) hl34 ?_
            · rw [eS21, eS19]; exact hq1
            · have hne : k ≠ i := fun h => by subst h; exact Nat.lt_irrefl _ (hpw.1 k hk)
              rw [eS21, eS19]
              simp only [sO, sC]
              rw [if_neg (fun h => hne h.1), if_neg (fun h => hne h.1)]
              exact hun k (List.mem_cons_of_mem _ hk)
            · rw [eS21, eS19, hF]; rw [hq1.1]; simp only [Nat.add_assoc, Nat.add_comm 1 m]
          · first | exact absurd (nI_le (by rw [hq1.1]; omega) (by omega)) c17 | exact absurd c17 (nI_le (by rw [hq1.1]; omega) (by omega))
  have hpl := hw.1.2.1
  exact loop (S.2.1 2) 0 0 (S.1 2 + 4) V S (Nat.zero_le _) (by simp) hS brmod.rf ⟨rfl, rfl⟩ (fun _ _ => ⟨rfl, rfl⟩) hw.2.2.2.1 (fun i hi => by have := hw.2.2.2.2.2.1 i hi; omega) (by omega) (by simp)

