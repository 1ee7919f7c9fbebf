/-! THE LAW, up to its loop -/
theorem LI.start {S : gSt} {N : Nat} (hw : WF S) (h : Bst S N) : LI (fun i => S.2.2.2.1 i 5) 0 S := by
  obtain ⟨h0, h6, h7, hg, h2, ho⟩ := h
  refine ⟨fun i hi _ => ho i (by omega), fun i hi => ⟨Nat.le_refl _, fun _ => rfl, fun _ => (h7 i (by omega)).1⟩, by rw [hg, hg]; rfl, fun e he => ?_, ?_⟩
  · rw [hg, hg, hg, cntF_none0 _ (fun i hi => by rw [(h7 i (by omega)).1]; rfl)]
    exact ⟨rfl, Nat.le_refl _, Nat.zero_le _, Nat.zero_le _⟩
  · unfold sW
    rw [h2]
    exact Nat.zero_le _

set_option maxRecDepth 20000 in
theorem law_P4 {Z : gZ} {B : gB} {b L : Nat} {xs : Nat → Int32} (X : gX Z B cL_law RL) (SC : gSC Z B b L xs) (hC : gCl Z) (hR : gRm Z = room_1) (hnL : gnL Z = 33) (hown : B.2.2.2.2 = 3) (hLb : L ≤ 260) (hge : ∀ q, gA B (gsz Z) q → gsz Z ≤ q)
    (fin : ∀ (B : gB) (V : gMem) (n : Nat × Nat) (L' : List (Nat × Value)), (∀ q, gA B (gsz Z) q → gsz Z ≤ q) → n.1 ≤ 600074 → n.2 ≤ 7301550 → gG Z B n V 1090 L' [])
    {V : gMem} {w : gWd} {a : Nat → Nat → Int32} (hL : gLS V w a) (hw : wOk w) {N P Q : Nat} (hN : w.1.1 6 = N) (hP : w.1.1 2 = P) (hQ : w.1.1 3 = Q) (h1N : 1 ≤ N) (hB : Bst w.1 N) (hA0 : ∀ i, i < N → a 0 i = nI (w.1.2.2.2.1 i 5)) (hA1 : ∀ i, i < N → a 1 i = 0) (hA2 : ∀ i, i < N → a 2 i = nI (w.1.2.2.2.1 i 5)) : gG Z B (86, 906) V 83 [(0, .ref b), (1, .ref (B.2.1 0 0 0)), (2, .int (nI N)), (3, .int (nI P)), (4, .int (nI Q)), (5, .ref (B.2.1 29 0 0)), (6, .int (nI (cSm w.1 N))), (7, .ref (B.2.1 29 1 0))] [.ref (B.2.1 29 2 0)] := by
  refine g_castI X (by rw [hown]; decide) qCL_L_44 dL_law_83 ?_
  refine g_astore X dL_law_86 [(8, .ref (B.2.1 29 2 0)), (0, .ref b), (1, .ref (B.2.1 0 0 0)), (2, .int (nI N)), (3, .int (nI P)), (4, .int (nI Q)), (5, .ref (B.2.1 29 0 0)), (6, .int (nI (cSm w.1 N))), (7, .ref (B.2.1 29 1 0))] rfl (gnl_lt hnL (by decide)) ?_
  refine g_iconst X (nI 0) (by decide) dL_law_88 ?_
  refine g_istore X dL_law_89 [(9, .int (nI 0)), (8, .ref (B.2.1 29 2 0)), (0, .ref b), (1, .ref (B.2.1 0 0 0)), (2, .int (nI N)), (3, .int (nI P)), (4, .int (nI Q)), (5, .ref (B.2.1 29 0 0)), (6, .int (nI (cSm w.1 N))), (7, .ref (B.2.1 29 1 0))] rfl (gnl_lt hnL (by decide)) ?_
  refine g_iconst X (nI 0) (by decide) dL_law_91 ?_
  refine g_istore X dL_law_92 [(10, .int (nI 0)), (9, .int (nI 0)), (8, .ref (B.2.1 29 2 0)), (0, .ref b), (1, .ref (B.2.1 0 0 0)), (2, .int (nI N)), (3, .int (nI P)), (4, .int (nI Q)), (5, .ref (B.2.1 29 0 0)), (6, .int (nI (cSm w.1 N))), (7, .ref (B.2.1 29 1 0))] rfl (gnl_lt hnL (by decide)) ?_
  refine gG_L [3, 4, 5, 6, 7, 8, 9, 10, 2, 1, 0] (L' := [(0, .ref b), (1, .ref (B.2.1 0 0 0)), (2, .int (nI N)), (3, .int (nI P)), (4, .int (nI Q)), (5, .ref (B.2.1 29 0 0)), (6, .int (nI (cSm w.1 N))), (7, .ref (B.2.1 29 1 0)), (8, .ref (B.2.1 29 2 0)), (9, .int (nI 0)), (10, .int (nI 0))]) rfl ?_
  refine gG_n (86 + 0, 906 + 4 * 0) rfl ?_
  exact law_loop X SC hR hnL hown hLb (cb := 86) (sb := 906) (by decide) (by decide) (c0 := (fun i => w.1.2.2.2.1 i 5)) (al := cSm w.1 N) h1N (fun i hi => (hw.1.2.1 i (by omega)).2.2.2.2.1) rfl (fun V n L' q1 q2 => fin B V n L' hge q1 q2) 40 0 V w a 0 rfl hL hw (LI.start hw.1 hB) hN hP hQ hB.1 hA0 (fun i hi => ⟨by rw [hA1 i hi, (hB.2.2.1 i hi).2]; exact rfl, hA2 i hi⟩)

set_option maxRecDepth 20000 in
theorem law_P3 {Z : gZ} {B : gB} {b L : Nat} {xs : Nat → Int32} (X : gX Z B cL_law RL) (SC : gSC Z B b L xs) (hC : gCl Z) (hR : gRm Z = room_1) (hnL : gnL Z = 33) (hown : B.2.2.2.2 = 2) (hLb : L ≤ 260) (hge : ∀ q, gA B (gsz Z) q → gsz Z ≤ q)
    (fin : ∀ (B : gB) (V : gMem) (n : Nat × Nat) (L' : List (Nat × Value)), (∀ q, gA B (gsz Z) q → gsz Z ≤ q) → n.1 ≤ 600074 → n.2 ≤ 7301550 → gG Z B n V 1090 L' [])
    {V : gMem} {w : gWd} {a : Nat → Nat → Int32} (hL : gLS V w a) (hw : wOk w) {N P Q : Nat} (hN : w.1.1 6 = N) (hP : w.1.1 2 = P) (hQ : w.1.1 3 = Q) (h1N : 1 ≤ N) (hB : Bst w.1 N) (hA0 : ∀ i, i < N → a 0 i = nI (w.1.2.2.2.1 i 5)) (hA1 : ∀ i, i < N → a 1 i = 0) : gG Z B (85, 890) V 76 [(0, .ref b), (1, .ref (B.2.1 0 0 0)), (2, .int (nI N)), (3, .int (nI P)), (4, .int (nI Q)), (5, .ref (B.2.1 29 0 0)), (6, .int (nI (cSm w.1 N)))] [.ref (B.2.1 29 1 0)] := by
  refine g_astore X dL_law_76 [(7, .ref (B.2.1 29 1 0)), (0, .ref b), (1, .ref (B.2.1 0 0 0)), (2, .int (nI N)), (3, .int (nI P)), (4, .int (nI Q)), (5, .ref (B.2.1 29 0 0)), (6, .int (nI (cSm w.1 N)))] rfl (gnl_lt hnL (by decide)) ?_
  refine g_aload X 6 rfl dL_law_78 ?_
  refine g_clone X hC hR (k := 0) (by rw [hown]; decide) (by rw [hown]; rfl) qCll qCls qCln qCli qClx (Nat.le_of_ble_eq_true rfl) ⟨Nat.le_of_ble_eq_true rfl, Nat.le_of_ble_eq_true rfl, Nat.le_of_ble_eq_true rfl, Nat.le_of_ble_eq_true rfl⟩ dL_law_80 (fun ad had X2 => ?_)
  refine gG_n (86, 906) rfl ?_
  rw [hown]
  have e0 : (gBs B ad).2.1 0 0 0 = B.2.1 0 0 0 := gBs_off B ad (fun q => absurd q.1 (by decide))
  have e1 : (gBs B ad).2.1 29 0 0 = B.2.1 29 0 0 := gBs_off B ad (by rw [hown]; decide)
  have e2 : (gBs B ad).2.1 29 1 0 = B.2.1 29 1 0 := gBs_off B ad (by rw [hown]; decide)
  have en : (gBs B ad).2.1 29 2 0 = ad := by have z := gBs_new B ad 0; rw [hown] at z; exact z
  have hown2 : (gBs B ad).2.2.2.2 = 3 := by show B.2.2.2.2 + 1 = 3; rw [hown]
  have hge2 : ∀ q, gA (gBs B ad) (gsz Z) q → gsz Z ≤ q := fun q hq => hge q (gA_s' had hq)
  refine gG_L [1, 2, 3, 4, 5, 6, 7, 0] (L' := [(0, .ref b), (1, .ref (B.2.1 0 0 0)), (2, .int (nI N)), (3, .int (nI P)), (4, .int (nI Q)), (5, .ref (B.2.1 29 0 0)), (6, .int (nI (cSm w.1 N))), (7, .ref (B.2.1 29 1 0))]) rfl ?_
  refine gG_Le [(0, .ref b), (1, .ref ((gBs B ad).2.1 0 0 0)), (2, .int (nI N)), (3, .int (nI P)), (4, .int (nI Q)), (5, .ref ((gBs B ad).2.1 29 0 0)), (6, .int (nI (cSm w.1 N))), (7, .ref ((gBs B ad).2.1 29 1 0))] (by rw [e0, e1, e2]) ?_
  refine gG_st [.ref ((gBs B ad).2.1 29 2 0)] (by rw [en]) ?_
  exact law_P4 X2 (SC.s had) hC hR hnL hown2 hLb hge2 fin (hL.row 2 _) hw hN hP hQ h1N hB hA0 hA1 (fun i hi => by rw [hL.2.2 0]; exact hA0 i hi)

set_option maxRecDepth 20000 in
theorem law_P2 {Z : gZ} {B : gB} {b L : Nat} {xs : Nat → Int32} (X : gX Z B cL_law RL) (SC : gSC Z B b L xs) (hC : gCl Z) (hR : gRm Z = room_1) (hnL : gnL Z = 33) (hown : B.2.2.2.2 = 1) (hLb : L ≤ 260) (hge : ∀ q, gA B (gsz Z) q → gsz Z ≤ q)
    (fin : ∀ (B : gB) (V : gMem) (n : Nat × Nat) (L' : List (Nat × Value)), (∀ q, gA B (gsz Z) q → gsz Z ≤ q) → n.1 ≤ 600074 → n.2 ≤ 7301550 → gG Z B n V 1090 L' [])
    {V : gMem} {w : gWd} {a : Nat → Nat → Int32} (hL : gLS V w a) (hw : wOk w) {N P Q : Nat} (hN : w.1.1 6 = N) (hP : w.1.1 2 = P) (hQ : w.1.1 3 = Q) (h1N : 1 ≤ N) (hB : Bst w.1 N) : gG Z B (84, 874) V 30 [(0, .ref b), (1, .ref (B.2.1 0 0 0)), (2, .int (nI N)), (3, .int (nI P)), (4, .int (nI Q))] [.ref (B.2.1 29 0 0)] := by
  have hI := gX_I X
  have h16 := hw.n16
  refine g_astore X dL_law_30 [(5, .ref (B.2.1 29 0 0)), (0, .ref b), (1, .ref (B.2.1 0 0 0)), (2, .int (nI N)), (3, .int (nI P)), (4, .int (nI Q))] rfl (gnl_lt hnL (by decide)) ?_
  refine g_iconst X (nI 0) (by decide) dL_law_32 ?_
  refine g_istore X dL_law_33 [(6, .int (nI 0)), (5, .ref (B.2.1 29 0 0)), (0, .ref b), (1, .ref (B.2.1 0 0 0)), (2, .int (nI N)), (3, .int (nI P)), (4, .int (nI Q))] rfl (gnl_lt hnL (by decide)) ?_
  refine g_iconst X (nI 0) (by decide) dL_law_35 ?_
  refine g_istore X dL_law_36 [(7, .int (nI 0)), (6, .int (nI 0)), (5, .ref (B.2.1 29 0 0)), (0, .ref b), (1, .ref (B.2.1 0 0 0)), (2, .int (nI N)), (3, .int (nI P)), (4, .int (nI Q))] rfl (gnl_lt hnL (by decide)) ?_
  refine gG_L [3, 4, 5, 6, 7, 2, 1, 0] (L' := [(0, .ref b), (1, .ref (B.2.1 0 0 0)), (2, .int (nI N)), (3, .int (nI P)), (4, .int (nI Q)), (5, .ref (B.2.1 29 0 0)), (6, .int (nI 0)), (7, .int (nI 0))]) rfl ?_
  have lp : ∀ (f c : Nat) (V : gMem) (a : Nat → Nat → Int32), c + f = N → gLS V w a → (∀ i, i < c → a 0 i = nI (w.1.2.2.2.1 i 5)) → gG Z B (84, 874) V 38 [(0, .ref b), (1, .ref (B.2.1 0 0 0)), (2, .int (nI N)), (3, .int (nI P)), (4, .int (nI Q)), (5, .ref (B.2.1 29 0 0)), (6, .int (nI (cSm w.1 c))), (7, .int (nI c))] [] := by
    intro f
    induction f with
    | zero =>
      intro c V a hcf hL hA0
      obtain rfl : c = N := by omega
      refine g_iload X 7 rfl dL_law_38 ?_
      refine g_iload_n X 2 rfl dL_law_40 ?_
      refine g_icmp_ge X 72 (by decide) dL_law_41 (fun c1 => ?_) (fun c1 => ?_)
      · refine g_bipush X (nI 16) (by decide) dL_law_72 ?_
        refine g_newS X hR 16 rfl (by rw [hown]; rfl) (by decide) ⟨Nat.le_of_ble_eq_true rfl, Nat.le_of_ble_eq_true rfl⟩ dL_law_74 (fun ad had X2 => ?_)
        refine gG_n (85, 890) rfl ?_
        rw [hown]
        have e0 : (gBs B ad).2.1 0 0 0 = B.2.1 0 0 0 := gBs_off B ad (fun q => absurd q.1 (by decide))
        have e1 : (gBs B ad).2.1 29 0 0 = B.2.1 29 0 0 := gBs_off B ad (by rw [hown]; decide)
        have en : (gBs B ad).2.1 29 1 0 = ad := by have z := gBs_new B ad 0; rw [hown] at z; exact z
        have hown2 : (gBs B ad).2.2.2.2 = 2 := by show B.2.2.2.2 + 1 = 2; rw [hown]
        have hge2 : ∀ q, gA (gBs B ad) (gsz Z) q → gsz Z ≤ q := fun q hq => hge q (gA_s' had hq)
        refine gG_L [0, 1, 2, 3, 4, 5, 6] (L' := [(0, .ref b), (1, .ref (B.2.1 0 0 0)), (2, .int (nI c)), (3, .int (nI P)), (4, .int (nI Q)), (5, .ref (B.2.1 29 0 0)), (6, .int (nI (cSm w.1 c)))]) rfl ?_
        refine gG_Le [(0, .ref b), (1, .ref ((gBs B ad).2.1 0 0 0)), (2, .int (nI c)), (3, .int (nI P)), (4, .int (nI Q)), (5, .ref ((gBs B ad).2.1 29 0 0)), (6, .int (nI (cSm w.1 c)))] (by rw [e0, e1]) ?_
        refine gG_st [.ref ((gBs B ad).2.1 29 1 0)] (by rw [en]) ?_
        exact law_P3 X2 (SC.s had) hC hR hnL hown2 hLb hge2 fin (hL.row 1 _) hw hN hP hQ h1N hB hA0 (fun i hi => rfl)
      · first | exact absurd (nI_le (by omega) (by omega)) c1 | exact absurd c1 (nI_le (by omega) (by omega))
    | succ f ih =>
      intro c V a hcf hL hA0
      have hcN : c < N := by omega
      refine g_iload X 7 rfl dL_law_38 ?_
      refine g_iload_n X 2 rfl dL_law_40 ?_
      refine g_icmp_ge X 72 (by decide) dL_law_41 (fun c2 => ?_) (fun c2 => ?_)
      · first | exact absurd (nI_ge (by omega) (by omega)) c2 | exact absurd c2 (nI_ge (by omega) (by omega))
      · refine g_aload X 5 rfl dL_law_44 ?_
        refine g_iload X 7 rfl dL_law_46 ?_
        refine g_aload_n X 1 rfl dL_law_48 ?_
        refine g_iload X 7 rfl dL_law_49 ?_
        refine g_iconst X (nI 3) (by decide) dL_law_51 ?_
        refine g_callV X hR (rest := [.int (nI c), .ref (B.2.1 29 0 0)]) mX6_cart lL_40 (c_cart hI V w a c 3 hL hw (by first | assumption | decide | omega) (by first | assumption | decide | omega)) rfl rfl (Nat.le_of_ble_eq_true rfl) ⟨by decide, by decide⟩ rfl rfl rfl ⟨Nat.le_of_ble_eq_true rfl, Nat.le_of_ble_eq_true rfl, Nat.le_of_ble_eq_true rfl, Nat.le_of_ble_eq_true rfl⟩ dL_law_52 (fun r3 V4 hz_5 => ?_)
        refine gG_rv hz_5.1 ?_
        have hL6 := hz_5.2
        refine gG_n (84, 874) rfl ?_
        refine gG_st [.int (nI (w.1.2.2.2.1 c 5)), .int (nI c), .ref (B.2.1 29 0 0)] rfl ?_
        refine g_oast X (c) (by rw [hown]; decide) rfl (by show c < 16; first | decide | omega) dL_law_55 ?_
        obtain ⟨a8, ea8⟩ : ∃ y, y = aup a 0 c (nI (w.1.2.2.2.1 c 5)) := ⟨_, rfl⟩
        have hL9 : gLS (gup V4 29 0 0 c (nI (w.1.2.2.2.1 c 5))) w a8 := by rw [ea8]; exact hL6.own 0 c (nI (w.1.2.2.2.1 c 5))
        generalize gup V4 29 0 0 c (nI (w.1.2.2.2.1 c 5)) = V7 at hL9 ⊢
        refine g_iload X 6 rfl dL_law_56 ?_
        refine g_aload X 5 rfl dL_law_58 ?_
        refine g_iload X 7 rfl dL_law_60 ?_
        refine g_oald X (c) (by rw [hown]; decide) rfl (by show c < 16; first | decide | omega) dL_law_62 ?_
        refine gG_top (a8 0 c) (congrFun (hL9.2.2 0) _) ?_
        refine gG_top (nI (w.1.2.2.2.1 c 5)) (by rw [ea8]; exact if_pos rfl) ?_
        refine g_iadd X dL_law_63 ?_
        refine gG_top (nI ((cSm w.1 c) + (w.1.2.2.2.1 c 5))) (nI_add (cSm w.1 c) (w.1.2.2.2.1 c 5)) ?_
        refine gG_top (nI (cSm w.1 (c + 1))) (by rw [cSm_s]) ?_
        refine g_istore X dL_law_64 [(6, .int (nI (cSm w.1 (c + 1)))), (0, .ref b), (1, .ref (B.2.1 0 0 0)), (2, .int (nI N)), (3, .int (nI P)), (4, .int (nI Q)), (5, .ref (B.2.1 29 0 0)), (7, .int (nI c))] rfl (gnl_lt hnL (by decide)) ?_
        refine g_iinc X 7 rfl (nI (c + 1)) (iinc_1 _) dL_law_66 [(7, .int (nI (c + 1))), (6, .int (nI (cSm w.1 (c + 1)))), (0, .ref b), (1, .ref (B.2.1 0 0 0)), (2, .int (nI N)), (3, .int (nI P)), (4, .int (nI Q)), (5, .ref (B.2.1 29 0 0))] rfl (gnl_lt hnL (by decide)) ?_
        refine g_goto X 38 (by decide) dL_law_69 ?_
        refine gG_L [2, 3, 4, 5, 6, 7, 1, 0] (L' := [(0, .ref b), (1, .ref (B.2.1 0 0 0)), (2, .int (nI N)), (3, .int (nI P)), (4, .int (nI Q)), (5, .ref (B.2.1 29 0 0)), (6, .int (nI (cSm w.1 (c + 1)))), (7, .int (nI (c + 1)))]) rfl ?_
        refine ih (c + 1) V7 a8 (by omega) hL9 (fun i hi => ?_)
        rw [ea8]
        show (if i = c then nI (w.1.2.2.2.1 c 5) else a 0 i) = _
        by_cases hic : i = c
        · rw [if_pos hic, hic]
        · rw [if_neg hic]; exact hA0 i (by omega)
  refine gG_Le [(0, .ref b), (1, .ref (B.2.1 0 0 0)), (2, .int (nI N)), (3, .int (nI P)), (4, .int (nI Q)), (5, .ref (B.2.1 29 0 0)), (6, .int (nI (cSm w.1 0))), (7, .int (nI 0))] rfl ?_
  exact lp N 0 V a (Nat.zero_add N) hL (fun i hi => absurd hi (Nat.not_lt_zero i))

set_option maxRecDepth 20000 in
theorem law_P1 {Z : gZ} {B : gB} {b L : Nat} {xs : Nat → Int32} (X : gX Z B cL_law RL) (SC : gSC Z B b L xs) (hC : gCl Z) (hR : gRm Z = room_1) (hnL : gnL Z = 33) (hown : B.2.2.2.2 = 0) (hLb : L ≤ 260) (hge : ∀ q, gA B (gsz Z) q → gsz Z ≤ q)
    (fin : ∀ (B : gB) (V : gMem) (n : Nat × Nat) (L' : List (Nat × Value)), (∀ q, gA B (gsz Z) q → gsz Z ≤ q) → n.1 ≤ 600074 → n.2 ≤ 7301550 → gG Z B n V 1090 L' [])
    {V : gMem} {w : gWd} {a : Nat → Nat → Int32} (hL : gLS V w a) (hw : wOk w) {N P Q : Nat} (hN : w.1.1 6 = N) (hP : w.1.1 2 = P) (hQ : w.1.1 3 = Q) (h1N : 1 ≤ N) (hB : Bst w.1 N) : gG Z B (83, 858) V 4 [(0, .ref b)] [.ref (B.2.1 0 0 0)] := by
  have hI := gX_I X
  refine g_astore_n X rfl dL_law_4 [(1, .ref (B.2.1 0 0 0)), (0, .ref b)] rfl (gnl_lt hnL (by decide)) ?_
  refine g_aload_n X 0 rfl dL_law_5 ?_
  refine g_iconst X (nI 2) (by decide) dL_law_6 ?_
  refine g_callV X hR (rest := []) mX6_count lL_36 (c_count hI V w a 2 hL hw (by first | assumption | decide | omega)) rfl rfl (Nat.le_of_ble_eq_true rfl) ⟨by decide, by decide⟩ rfl rfl rfl ⟨Nat.le_of_ble_eq_true rfl, Nat.le_of_ble_eq_true rfl, Nat.le_of_ble_eq_true rfl, Nat.le_of_ble_eq_true rfl⟩ dL_law_7 (fun r1 V2 hz_3 => ?_)
  refine gG_rv hz_3.1 ?_
  have hL4 := hz_3.2
  refine gG_n (83, 858) rfl ?_
  refine gG_st [.int (nI (w.1.1 6))] rfl ?_
  refine g_istore_n X rfl dL_law_10 [(2, .int (nI (w.1.1 6))), (1, .ref (B.2.1 0 0 0)), (0, .ref b)] rfl (gnl_lt hnL (by decide)) ?_
  refine g_aload_n X 1 rfl dL_law_11 ?_
  refine g_bipush X (nI 9) (by decide) dL_law_12 ?_
  refine g_callV X hR (rest := []) mX6_count lL_36 (c_count hI V2 w a 9 hL4 hw (by first | assumption | decide | omega)) rfl rfl (Nat.le_of_ble_eq_true rfl) ⟨by decide, by decide⟩ rfl rfl rfl ⟨Nat.le_of_ble_eq_true rfl, Nat.le_of_ble_eq_true rfl, Nat.le_of_ble_eq_true rfl, Nat.le_of_ble_eq_true rfl⟩ dL_law_14 (fun r5 V6 hz_7 => ?_)
  refine gG_rv hz_7.1 ?_
  have hL8 := hz_7.2
  refine gG_n (83, 858) rfl ?_
  refine gG_st [.int (nI (w.1.1 2))] rfl ?_
  refine g_istore_n X rfl dL_law_17 [(3, .int (nI (w.1.1 2))), (2, .int (nI (w.1.1 6))), (1, .ref (B.2.1 0 0 0)), (0, .ref b)] rfl (gnl_lt hnL (by decide)) ?_
  refine g_aload_n X 2 rfl dL_law_18 ?_
  refine g_bipush X (nI 10) (by decide) dL_law_19 ?_
  refine g_callV X hR (rest := []) mX6_count lL_36 (c_count hI V6 w a 10 hL8 hw (by first | assumption | decide | omega)) rfl rfl (Nat.le_of_ble_eq_true rfl) ⟨by decide, by decide⟩ rfl rfl rfl ⟨Nat.le_of_ble_eq_true rfl, Nat.le_of_ble_eq_true rfl, Nat.le_of_ble_eq_true rfl, Nat.le_of_ble_eq_true rfl⟩ dL_law_21 (fun r9 V10 hz_11 => ?_)
  refine gG_rv hz_11.1 ?_
  have hL12 := hz_11.2
  refine gG_n (83, 858) rfl ?_
  refine gG_st [.int (nI (w.1.1 3))] rfl ?_
  refine g_istore X dL_law_24 [(4, .int (nI (w.1.1 3))), (3, .int (nI (w.1.1 2))), (2, .int (nI (w.1.1 6))), (1, .ref (B.2.1 0 0 0)), (0, .ref b)] rfl (gnl_lt hnL (by decide)) ?_
  refine g_bipush X (nI 16) (by decide) dL_law_26 ?_
  refine g_newS X hR 16 rfl (by rw [hown]; rfl) (by decide) ⟨Nat.le_of_ble_eq_true rfl, Nat.le_of_ble_eq_true rfl⟩ dL_law_28 (fun ad had X2 => ?_)
  refine gG_n (84, 874) rfl ?_
  refine gG_Le [(4, .int (nI Q)), (3, .int (nI P)), (2, .int (nI N)), (1, .ref (B.2.1 0 0 0)), (0, .ref b)] (by rw [hN, hP, hQ]) ?_
  rw [hown]
  have e0 : (gBs B ad).2.1 0 0 0 = B.2.1 0 0 0 := gBs_off B ad (fun q => absurd q.1 (by decide))
  have en : (gBs B ad).2.1 29 0 0 = ad := by have z := gBs_new B ad 0; rw [hown] at z; exact z
  have hown2 : (gBs B ad).2.2.2.2 = 1 := by show B.2.2.2.2 + 1 = 1; rw [hown]
  have hge2 : ∀ q, gA (gBs B ad) (gsz Z) q → gsz Z ≤ q := fun q hq => hge q (gA_s' had hq)
  refine gG_L [4, 3, 2, 1, 0] (L' := [(0, .ref b), (1, .ref (B.2.1 0 0 0)), (2, .int (nI N)), (3, .int (nI P)), (4, .int (nI Q))]) rfl ?_
  refine gG_Le [(0, .ref b), (1, .ref ((gBs B ad).2.1 0 0 0)), (2, .int (nI N)), (3, .int (nI P)), (4, .int (nI Q))] (by rw [e0]) ?_
  refine gG_st [.ref ((gBs B ad).2.1 29 0 0)] (by rw [en]) ?_
  exact law_P2 X2 (SC.s had) hC hR hnL hown2 hLb hge2 fin (hL12.row 0 _) hw hN hP hQ h1N hB
