/-! the reference's public methods, on -/
theorem sNumOk.turn {S : gSt} (h : sNumOk S) : sNumOk (sTurn S) := by
  obtain ⟨a, b, c, d, e, f⟩ := h
  exact ⟨show 1 - S.1 1 ≤ 1 by omega, b, c, d, e, f⟩
theorem WF.turn {S : gSt} (h : WF S) : WF (sTurn S) := ⟨h.1.turn, h.2.1, h.2.2.1, h.2.2.2.1, h.2.2.2.2.1, h.2.2.2.2.2.1, h.2.2.2.2.2.2.1, h.2.2.2.2.2.2.2⟩
theorem sRun_snoc : ∀ (n : Nat) (S : gSt), (sRun (n + 1) S).1 = (sTick (sRun n S).1).1 ∧ (sRun (n + 1) S).2 = (sRun n S).2 + (sTick (sRun n S).1).2
  | 0, S => ⟨rfl, by show (sTick S).2 + 0 = 0 + (sTick S).2; omega⟩
  | n + 1, S => by
    obtain ⟨h1, h2⟩ := sRun_snoc n (sTick S).1
    refine ⟨h1, ?_⟩
    show (sTick S).2 + (sRun (n + 1) (sTick S).1).2 = (sTick S).2 + (sRun n (sTick S).1).2 + (sTick (sRun n (sTick S).1).1).2
    rw [h2]; omega
theorem run_cnt : ∀ (n : Nat) {S : gSt}, WF S → sCnt (sRun n S).1 2 = sCnt S 2 + (sRun n S).2
  | 0, S, _ => rfl
  | n + 1, S, h => by
    show sCnt (sRun n (sTick S).1).1 2 = sCnt S 2 + ((sTick S).2 + (sRun n (sTick S).1).2)
    rw [run_cnt n h.tick, tick_cnt h]
    show sCnt S 2 + (sMove S).2 + _ = sCnt S 2 + ((sMove S).2 + _)
    omega
theorem len_cnt {p : Nat → Bool} : ∀ (n : Nat) {l : List Nat}, l.Nodup → (∀ i, i ∈ l ↔ (i < n ∧ p i = true)) → l.length = cntF p n
  | 0, l, hn, h => by
    cases l with
    | nil => rfl
    | cons a l => exact absurd ((h a).mp List.mem_cons_self).1 (Nat.not_lt_zero _)
  | n + 1, l, hn, h => by
    unfold cntF
    by_cases hp : p n = true
    · have hm : n ∈ l := (h n).mpr ⟨Nat.lt_succ_self n, hp⟩
      have h1 := len_cnt n (l := l.erase n) (hn.erase n) (fun i => by
        rw [List.Nodup.mem_erase_iff hn, h i]
        constructor
        · rintro ⟨a, c, d⟩; exact ⟨by omega, d⟩
        · rintro ⟨a, c⟩; exact ⟨by omega, by omega, c⟩)
      have h2 := List.length_erase_of_mem hm
      have h3 := List.length_pos_of_mem hm
      rw [if_pos hp]
      omega
    · rw [if_neg hp, Nat.add_zero]
      refine len_cnt n hn (fun i => ?_)
      rw [h i]
      constructor
      · rintro ⟨a, c⟩
        have : i ≠ n := fun q => hp (q ▸ c)
        exact ⟨by omega, c⟩
      · rintro ⟨a, c⟩; exact ⟨by omega, c⟩
theorem WF.onlen {S : gSt} (h : WF S) : (S.2.1 2).length = sCnt S 1 := len_cnt _ h.ne (fun i => by rw [h.2.2.2.2.1 i, decide_eq_true_eq])
/-- away for ever -/
theorem tick_3 {S : gSt} (h : WF S) {i : Nat} (hi3 : S.2.2.2.1 i 8 = 3) : (sTick S).1.2.2.2.1 i 8 = 3 := by
  have hnm : i ∉ S.2.1 2 := fun q => by have := ((h.2.2.2.2.1 i).mp q).2; omega
  have hm : (sMove S).1.2.2.2.1 i 8 = 3 := by
    unfold sMove
    split
    · exact hi3
    · split
      · show (goOnL (S.1 2) (S.1 0) (S.2.1 2) (S.1 2 + 4) S).1.2.2.2.1 i 8 = 3
        rw [((goOnL_same (S.1 2) (S.1 0) (S.2.1 2) (S.1 2 + 4) S).2.2.2.2 i hnm).1 8]
        exact hi3
      · show (sGoBack S).2.2.2.1 i 8 = 3
        rcases List.eq_nil_or_concat (S.2.1 2) with hq | ⟨ys, l, hq⟩
        · unfold sGoBack
          rw [hq]
          exact hi3
        · have hq : S.2.1 2 = ys ++ [l] := hq.trans (List.concat_eq_append ..)
          have hrev : (S.2.1 2).reverse = l :: ys.reverse := by rw [hq]; simp
          have hil : i ≠ l := fun q => hnm (by rw [hq, q]; simp)
          have hn := nodup_rev h.ne
          rw [hrev] at hn
          unfold sGoBack
          rw [hrev]
          simp only []
          split
          · rw [(backL_spec ys.reverse _ (List.nodup_cons.mp hn).2).2.2.2.2.1 i 8 (by decide), sLeave_eq]
            show (if i = l ∧ 8 = 8 then 0 else S.2.2.2.1 i 8) = 3
            rw [if_neg (fun q => hil q.1)]
            exact hi3
          · rw [(backL_spec (l :: ys.reverse) S hn).2.2.2.2.1 i 8 (by decide)]
            exact hi3
  have h1 := h.move
  show (sCome (sMove S).1).2.2.2.1 i 8 = 3
  generalize (sMove S).1 = T at hm h1
  cases hq : T.2.1 (T.1 1) with
  | nil => rw [sCome_nil hq]; exact hm
  | cons c ys =>
    have hc8 : T.2.2.2.1 c 8 = 0 := (h1.qmem (e := T.1 1) (by have := h1.1.1; omega) (by rw [hq]; exact List.mem_cons_self)).2.1
    have hic : i ≠ c := fun q => by rw [q] at hm; omega
    by_cases hroom : sRoom T c = true
    · rw [sCome_eq hq hroom]
      split
      · show (if i = c ∧ 8 = 8 then 3 else T.2.2.2.1 i 8) = 3
        rw [if_neg (fun q => hic q.1)]; exact hm
      · show (if i = c ∧ 8 = 9 then 0 else if i = c ∧ 8 = 8 then 1 else (if (sQ T (T.1 1) ys).2.2.2.1 c 7 = 0 then sPay (sQ T (T.1 1) ys) (T.1 1) c else sQ T (T.1 1) ys).2.2.2.1 i 8) = 3
        rw [if_neg (by omega), if_neg (by omega)]
        split
        · rw [(sPay_c (sQ T (T.1 1) ys) (T.1 1) c).1 i 8 (by decide) (by decide)]; exact hm
        · exact hm
    · rw [sCome_no hq (by simpa using hroom)]; exact hm
def ovF (i : Nat) : Nat → Nat → gSt → Int32
  | 0, _, _ => -1
  | f + 1, k, S => if S.2.2.2.1 i 8 = 2 then nI k else ovF i f (k + 1) (sTick S).1
theorem ovF_3 {i : Nat} : ∀ (f k : Nat) {S : gSt}, WF S → S.2.2.2.1 i 8 = 3 → ovF i f k S = -1
  | 0, _, _, _, _ => rfl
  | f + 1, k, S, h, h3 => by
    rw [ovF, if_neg (by omega)]
    exact ovF_3 f (k + 1) h.tick (tick_3 h h3)
def oOver (w : gWd) (x : Int32) : gOu := if ixB x (nI (w.1.1 6)) then (0, ovF x.toNatClampNeg 201 0 w.1, w) else (1, 0, w)
/-- the direction changed behind c ticks: the states -/
def kpT (S : gSt) (c : Nat) : Nat → gSt
  | 0 => S
  | t + 1 => (sTick (if t = c then sTurn (kpT S c t) else kpT S c t)).1
def kpF (S : gSt) (k : Nat) : Nat := (sRun k S).2 + (sRun (60 - k) (sTurn (sRun k S).1)).2
def kpL (S : gSt) : Nat → Nat × Int32
  | 0 => ((sRun 60 S).2, -1)
  | k + 1 => if (kpL S k).1 < kpF S k then (kpF S k, nI k) else kpL S k
def oKeep (w : gWd) : Int32 := (kpL w.1 60).2
theorem kpT_le (S : gSt) (c : Nat) : ∀ t, t ≤ c → kpT S c t = (sRun t S).1
  | 0, _ => rfl
  | t + 1, h => by
    rw [kpT, if_neg (by omega), kpT_le S c t (by omega), (sRun_snoc t S).1]
theorem kpT_gt (S : gSt) (c : Nat) : ∀ m, kpT S c (c + 1 + m) = (sRun (m + 1) (sTurn (sRun c S).1)).1
  | 0 => by
    show (sTick (if c = c then sTurn (kpT S c c) else kpT S c c)).1 = _
    rw [if_pos rfl, kpT_le S c c (Nat.le_refl _)]
    rfl
  | m + 1 => by
    show (sTick (if c + 1 + m = c then sTurn (kpT S c (c + 1 + m)) else kpT S c (c + 1 + m))).1 = _
    rw [if_neg (by omega), kpT_gt S c m, (sRun_snoc (m + 1) _).1]
theorem WF.kp {S : gSt} (h : WF S) (c : Nat) : ∀ t, WF (kpT S c t)
  | 0 => h
  | t + 1 => by
    unfold kpT
    split
    · exact (h.kp c t).turn.tick
    · exact (h.kp c t).tick
theorem kp_cnt {S : gSt} (h : WF S) {c : Nat} (hc : c < 60) : sCnt (kpT S c 60) 2 = sCnt S 2 + kpF S c := by
  have e : (60 : Nat) = c + 1 + (59 - c) := by omega
  rw [e, kpT_gt, show 59 - c + 1 = 60 - c by omega, run_cnt _ ((h.run c).turn)]
  show sCnt (sRun c S).1 2 + _ = _
  rw [run_cnt c h]
  unfold kpF
  omega
theorem kp_60 {S : gSt} (h : WF S) : sCnt (kpT S 60 60) 2 = sCnt S 2 + (sRun 60 S).2 := by
  rw [kpT_le S 60 60 (Nat.le_refl _), run_cnt 60 h]
def fsV (S : gSt) (n what : Nat) : Int32 := match what with
  | 0 => nI (sRun n S).2
  | 1 => nI ((sRun n S).1.2.2.1 0 1 + (sRun n S).1.2.2.1 1 1) - nI (S.2.2.1 0 1 + S.2.2.1 1 1)
  | _ => nI ((sRun n S).1.2.1 2).length
def oSee (w : gWd) (p q : Int32) : gOu := if inB p 1 100 then (if inB q 0 2 then (0, fsV w.1 p.toNatClampNeg q.toNatClampNeg, w) else (2, 0, w)) else (1, 0, w)
theorem sub2 (a x y : Int32) : a - x - y = a - (x + y) := by
  rw [Int32.sub_eq_add_neg, Int32.sub_eq_add_neg, Int32.sub_eq_add_neg, Int32.neg_add, Int32.sub_eq_add_neg, Int32.add_assoc]

abbrev rmX8_box : Room := { frames := 1, cells := 0, slots := 0, locals := 22 }
set_option maxRecDepth 20000 in
theorem k_Mbox {l : Launch} {B : gB} (hI : gI B) (V : gMem) (w : gWd) (p : Int32) (q : Int32) (hM : MOk V w) (hw : wOk w) : gM l B yX8_box cX8_box 3 (some .int) rmX8_box [.ref (B.2.1 20 0 0), .int p, .int q] V (fun v V' => v = some (.int (oBox w p q).2.1) ∧ V' 20 0 0 0 = nI (oBox w p q).1 ∧ MOk V' (oBox w p q).2.2 ∧ mmod V V') := by
  refine gM_of (own := RX8) (L := [(0, .ref (B.2.1 20 0 0)), (1, .int p), (2, .int q)]) (by decide +kernel) rfl hI (Nat.le_of_ble_eq_true rfl) rfl ?_
  intro Z hnL hR X F
  refine g_aload_n X 0 rfl dX8_box_0 ?_
  refine g_iconst X 0 (by decide) dX8_box_1 ?_
  refine gp_X8_thrown X ⟨by decide, by decide⟩ fX8_41 dX8_box_2 ?_
  refine gG_nm (fun V1 hV1 => ?_)
  have hM1 : MOk V1 w := by rw [hV1]; exact hM.thr 0
  have hm1 : mmod V V1 := by rw [hV1]; exact mmod.rf.up (by decide) (by decide)
  refine g_iload_n X 1 rfl dX8_box_5 ?_
  refine g_iconst X 0 (by decide) dX8_box_6 ?_
  refine g_iconst X 1 (by decide) dX8_box_7 ?_
  refine g_callS X hR (As := [.int p, .int 0, .int 1]) (rest := []) mX8_isIn lX8_48 (k_isIn hI V1 p 0 1 ) rfl rfl (Nat.le_of_ble_eq_true rfl) ⟨Nat.le_of_ble_eq_true rfl, Nat.le_of_ble_eq_true rfl, Nat.le_of_ble_eq_true rfl, Nat.le_of_ble_eq_true rfl⟩ dX8_box_8 (fun r2 V3 hz_4 => ?_)
  refine gG_ret hz_4.1 hz_4.2 ?_
  refine gG_st [.int (if inB p 0 1 then 1 else 0)] rfl ?_
  by_cases hP : ixB p 2
  · refine gG_top 1 (if_pos ((inB_ix (n := 1) (by decide)).mpr hP)) ?_
    refine g_if_eq X 39 (by decide) dX8_box_11 (fun c5 => ?_) (fun c5 => ?_)
    ·  exact absurd c5 (by decide)
    · obtain ⟨j, hj, hxj⟩ := (ixB_iff (n := 2) (by decide)).mp hP
      subst hxj
      refine g_iload_n X 2 rfl dX8_box_14 ?_
      refine g_iconst X 0 (by decide) dX8_box_15 ?_
      refine g_iconst X 3 (by decide) dX8_box_16 ?_
      refine g_callS X hR (As := [.int q, .int 0, .int 3]) (rest := []) mX8_isIn lX8_48 (k_isIn hI V1 q 0 3 ) rfl rfl (Nat.le_of_ble_eq_true rfl) ⟨Nat.le_of_ble_eq_true rfl, Nat.le_of_ble_eq_true rfl, Nat.le_of_ble_eq_true rfl, Nat.le_of_ble_eq_true rfl⟩ dX8_box_17 (fun r6 V7 hz_8 => ?_)
      refine gG_ret hz_8.1 hz_8.2 ?_
      refine gG_st [.int (if inB q 0 3 then 1 else 0)] rfl ?_
      by_cases hQ : ixB q 4
      · refine gG_top 1 (if_pos ((inB_ix (n := 3) (by decide)).mpr hQ)) ?_
        refine g_if_eq X 39 (by decide) dX8_box_20 (fun c9 => ?_) (fun c9 => ?_)
        ·  exact absurd c9 (by decide)
        · obtain ⟨z, hz, hyz⟩ := (ixB_iff (n := 4) (by decide)).mp hQ
          subst hyz
          refine g_aload_n X 0 rfl dX8_box_23 ?_
          refine gg_X8_s X ⟨by decide, by decide⟩ fX8_34 dX8_box_24 ?_
          refine gg_X7_box X ⟨by decide, by decide⟩ fX8_103 dX8_box_27 ?_
          refine g_iconst X 5 (by decide) dX8_box_30 ?_
          refine g_iload_n X 1 rfl dX8_box_31 ?_
          refine g_imul X dX8_box_32 ?_
          refine gG_top (nI (5 * j)) (pk_mul 5 j) ?_
          refine g_iload_n X 2 rfl dX8_box_33 ?_
          refine g_iadd X dX8_box_34 ?_
          refine gG_top (nI ((5 * j) + z)) (nI_add (5 * j) z) ?_
          refine g_ialdN X (5 * j + z) rfl (by omega) (by decide) ⟨by decide, by decide⟩ rfl dX8_box_35 ?_
          refine gG_top (gTell w.1 j z) (by
            obtain ⟨x1, x2, x3, x4⟩ := hM1.1.2.2.2.2.1 j hj
            rcases (show z = 0 ∨ z = 1 ∨ z = 2 ∨ z = 3 by omega) with rfl | rfl | rfl | rfl
            · exact x1
            · exact x2
            · exact x3
            · exact (hM1.1.2.2.2.1 j hj).1) ?_
          refine g_goto X 44 (by decide) dX8_box_36 ?_
          refine g_iret X F ?_ rfl dX8_box_44
          rw [show oBox w (nI j) (nI z) = (0, gTell w.1 j z, w) from by unfold oBox; rw [if_pos ⟨hP, hQ⟩, nI_clamp (by omega), nI_clamp (by omega)]]
          exact ⟨rfl, by rw [hV1, gup_eq]; rfl, hM1, hm1⟩
      · refine gG_top 0 (if_neg (fun z => hQ ((inB_ix (n := 3) (by decide)).mp z))) ?_
        refine g_if_eq X 39 (by decide) dX8_box_20 (fun c10 => ?_) (fun c10 => ?_)
        · refine g_aload_n X 0 rfl dX8_box_39 ?_
          refine g_iconst X 1 (by decide) dX8_box_40 ?_
          refine g_callV X hR (rest := []) mX8_no lX8_59 (k_no hI V1 1 ) rfl rfl (Nat.le_of_ble_eq_true rfl) ⟨by decide, by decide⟩ rfl rfl rfl ⟨Nat.le_of_ble_eq_true rfl, Nat.le_of_ble_eq_true rfl, Nat.le_of_ble_eq_true rfl, Nat.le_of_ble_eq_true rfl⟩ dX8_box_41 (fun r11 V12 hz_13 => ?_)
          refine gG_rv hz_13.1 ?_
          have hV12 := hz_13.2
          refine gG_st [.int 0] rfl ?_
          refine g_iret X F ?_ rfl dX8_box_44
          rw [show oBox w (nI j) q = (1, 0, w) from if_neg (fun z => hQ z.2)]
          exact ⟨rfl, by rw [hV12, gup_eq]; rfl, by rw [hV12]; exact hM1.thr _, by rw [hV12]; exact hm1.up (by decide) (by decide)⟩
        ·  exact absurd c10 (by decide)
  · refine gG_top 0 (if_neg (fun z => hP ((inB_ix (n := 1) (by decide)).mp z))) ?_
    refine g_if_eq X 39 (by decide) dX8_box_11 (fun c14 => ?_) (fun c14 => ?_)
    · refine g_aload_n X 0 rfl dX8_box_39 ?_
      refine g_iconst X 1 (by decide) dX8_box_40 ?_
      refine g_callV X hR (rest := []) mX8_no lX8_59 (k_no hI V1 1 ) rfl rfl (Nat.le_of_ble_eq_true rfl) ⟨by decide, by decide⟩ rfl rfl rfl ⟨Nat.le_of_ble_eq_true rfl, Nat.le_of_ble_eq_true rfl, Nat.le_of_ble_eq_true rfl, Nat.le_of_ble_eq_true rfl⟩ dX8_box_41 (fun r15 V16 hz_17 => ?_)
      refine gG_rv hz_17.1 ?_
      have hV16 := hz_17.2
      refine gG_st [.int 0] rfl ?_
      refine g_iret X F ?_ rfl dX8_box_44
      rw [show oBox w p q = (1, 0, w) from if_neg (fun z => hP z.1)]
      exact ⟨rfl, by rw [hV16, gup_eq]; rfl, by rw [hV16]; exact hM1.thr _, by rw [hV16]; exact hm1.up (by decide) (by decide)⟩
    ·  exact absurd c14 (by decide)

abbrev rmX8_empty : Room := { frames := 1, cells := 0, slots := 0, locals := 22 }
set_option maxRecDepth 20000 in
theorem k_Mempty {l : Launch} {B : gB} (hI : gI B) (V : gMem) (w : gWd) (p : Int32) (hM : MOk V w) (hw : wOk w) : gM l B yX8_empty cX8_empty 3 (some .int) rmX8_empty [.ref (B.2.1 20 0 0), .int p] V (fun v V' => v = some (.int (oEmpty w p).2.1) ∧ V' 20 0 0 0 = nI (oEmpty w p).1 ∧ MOk V' (oEmpty w p).2.2 ∧ mmod V V') := by
  refine gM_of (own := RX8) (L := [(0, .ref (B.2.1 20 0 0)), (1, .int p)]) (by decide +kernel) rfl hI (Nat.le_of_ble_eq_true rfl) rfl ?_
  intro Z hnL hR X F
  refine g_aload_n X 0 rfl dX8_empty_0 ?_
  refine g_iconst X 0 (by decide) dX8_empty_1 ?_
  refine gp_X8_thrown X ⟨by decide, by decide⟩ fX8_41 dX8_empty_2 ?_
  refine gG_nm (fun V1 hV1 => ?_)
  have hM1 : MOk V1 w := by rw [hV1]; exact hM.thr 0
  have hm1 : mmod V V1 := by rw [hV1]; exact mmod.rf.up (by decide) (by decide)
  refine g_iload_n X 1 rfl dX8_empty_5 ?_
  refine g_iconst X 0 (by decide) dX8_empty_6 ?_
  refine g_iconst X 1 (by decide) dX8_empty_7 ?_
  refine g_callS X hR (As := [.int p, .int 0, .int 1]) (rest := []) mX8_isIn lX8_48 (k_isIn hI V1 p 0 1 ) rfl rfl (Nat.le_of_ble_eq_true rfl) ⟨Nat.le_of_ble_eq_true rfl, Nat.le_of_ble_eq_true rfl, Nat.le_of_ble_eq_true rfl, Nat.le_of_ble_eq_true rfl⟩ dX8_empty_8 (fun r2 V3 hz_4 => ?_)
  refine gG_ret hz_4.1 hz_4.2 ?_
  refine gG_st [.int (if inB p 0 1 then 1 else 0)] rfl ?_
  by_cases hP : ixB p 2
  · refine gG_top 1 (if_pos ((inB_ix (n := 1) (by decide)).mpr hP)) ?_
    refine g_if_ne X 20 (by decide) dX8_empty_11 (fun c5 => ?_) (fun c5 => ?_)
    · obtain ⟨j, hj, hxj⟩ := (ixB_iff (n := 2) (by decide)).mp hP
      subst hxj
      refine g_aload_n X 0 rfl dX8_empty_20 ?_
      refine gg_X8_s X ⟨by decide, by decide⟩ fX8_34 dX8_empty_21 ?_
      refine gg_X7_box X ⟨by decide, by decide⟩ fX8_103 dX8_empty_24 ?_
      refine g_iconst X 5 (by decide) dX8_empty_27 ?_
      refine g_iload_n X 1 rfl dX8_empty_28 ?_
      refine g_imul X dX8_empty_29 ?_
      refine gG_top (nI (5 * j)) (pk_mul 5 j) ?_
      refine g_iconst X 4 (by decide) dX8_empty_30 ?_
      refine g_iadd X dX8_empty_31 ?_
      refine gG_top (nI ((5 * j) + 4)) (nI_add (5 * j) 4) ?_
      refine g_ialdN X (5 * j + 4) rfl (by omega) (by decide) ⟨by decide, by decide⟩ rfl dX8_empty_32 ?_
      refine gG_top (nI (w.1.2.2.1 j 4)) ((hM1.1.2.2.2.2.1 j hj).2.2.2) ?_
      refine g_istore_n X rfl dX8_empty_33 [(2, .int (nI (w.1.2.2.1 j 4))), (0, .ref (B.2.1 20 0 0)), (1, .int (nI j))] rfl (gnl_lt hnL (by decide)) ?_
      refine g_aload_n X 1 rfl dX8_empty_34 ?_
      refine gg_X8_s X ⟨by decide, by decide⟩ fX8_34 dX8_empty_35 ?_
      refine gg_X7_box X ⟨by decide, by decide⟩ fX8_103 dX8_empty_38 ?_
      refine g_iconst X 5 (by decide) dX8_empty_41 ?_
      refine g_iload_n X 2 rfl dX8_empty_42 ?_
      refine g_imul X dX8_empty_43 ?_
      refine gG_top (nI (5 * j)) (pk_mul 5 j) ?_
      refine g_iconst X 0 (by decide) dX8_empty_44 ?_
      refine g_iastN X (5 * j) rfl (by omega) (by decide) ⟨by decide, by decide⟩ (fun _ => rfl) dX8_empty_45 ?_
      refine gG_nm (fun V6 hV6 => ?_)
      refine g_aload_n X 1 rfl dX8_empty_46 ?_
      refine gg_X8_s X ⟨by decide, by decide⟩ fX8_34 dX8_empty_47 ?_
      refine gg_X7_box X ⟨by decide, by decide⟩ fX8_103 dX8_empty_50 ?_
      refine g_iconst X 5 (by decide) dX8_empty_53 ?_
      refine g_iload_n X 2 rfl dX8_empty_54 ?_
      refine g_imul X dX8_empty_55 ?_
      refine gG_top (nI (5 * j)) (pk_mul 5 j) ?_
      refine g_iconst X 4 (by decide) dX8_empty_56 ?_
      refine g_iadd X dX8_empty_57 ?_
      refine gG_top (nI ((5 * j) + 4)) (nI_add (5 * j) 4) ?_
      refine g_iconst X 0 (by decide) dX8_empty_58 ?_
      refine g_iastN X (5 * j + 4) rfl (by omega) (by decide) ⟨by decide, by decide⟩ (fun _ => rfl) dX8_empty_59 ?_
      refine gG_nm (fun V7 hV7 => ?_)
      refine g_iload_n X 0 rfl dX8_empty_60 ?_
      refine g_iret X F ?_ rfl dX8_empty_61
      rw [show oEmpty w (nI j) = (0, nI (w.1.2.2.1 j 4), (sG (sG w.1 j 1 0) j 4 0, w.2)) from by unfold oEmpty; rw [if_pos hP, nI_clamp (by omega)]]
      refine ⟨rfl, by rw [hV7, gup_ne (by simp), hV6, gup_ne (by simp), hV1, gup_eq]; rfl, hM1.st (by rw [hV7, hV6]; exact (stmod.rf.up (by decide) (by decide)).up (by decide) (by decide)) (by rw [hV7, hV6]; exact (hM1.1.setB j 0 1 0 (by decide)).setB j 4 4 0 (by decide)), by rw [hV7, hV6]; exact (hm1.up (by decide) (by decide)).up (by decide) (by decide)⟩
    ·  exact absurd c5 (by decide)
  · refine gG_top 0 (if_neg (fun z => hP ((inB_ix (n := 1) (by decide)).mp z))) ?_
    refine g_if_ne X 20 (by decide) dX8_empty_11 (fun c8 => ?_) (fun c8 => ?_)
    ·  exact absurd c8 (by decide)
    · refine g_aload_n X 0 rfl dX8_empty_14 ?_
      refine g_iconst X 1 (by decide) dX8_empty_15 ?_
      refine g_callV X hR (rest := []) mX8_no lX8_59 (k_no hI V1 1 ) rfl rfl (Nat.le_of_ble_eq_true rfl) ⟨by decide, by decide⟩ rfl rfl rfl ⟨Nat.le_of_ble_eq_true rfl, Nat.le_of_ble_eq_true rfl, Nat.le_of_ble_eq_true rfl, Nat.le_of_ble_eq_true rfl⟩ dX8_empty_16 (fun r9 V10 hz_11 => ?_)
      refine gG_rv hz_11.1 ?_
      have hV10 := hz_11.2
      refine gG_st [.int 0] rfl ?_
      refine g_iret X F ?_ rfl dX8_empty_19
      rw [show oEmpty w p = (1, 0, w) from if_neg hP]
      exact ⟨rfl, by rw [hV10, gup_eq]; rfl, by rw [hV10]; exact hM1.thr _, by rw [hV10]; exact hm1.up (by decide) (by decide)⟩

abbrev rmX8_queue : Room := { frames := 1, cells := 0, slots := 0, locals := 22 }
set_option maxRecDepth 20000 in
theorem k_Mqueue {l : Launch} {B : gB} (hI : gI B) (V : gMem) (w : gWd) (p : Int32) (q : Int32) (hM : MOk V w) (hw : wOk w) : gM l B yX8_queue cX8_queue 3 (some .int) rmX8_queue [.ref (B.2.1 20 0 0), .int p, .int q] V (fun v V' => v = some (.int (oQueue w p q).2.1) ∧ V' 20 0 0 0 = nI (oQueue w p q).1 ∧ MOk V' (oQueue w p q).2.2 ∧ mmod V V') := by
  refine gM_of (own := RX8) (L := [(0, .ref (B.2.1 20 0 0)), (1, .int p), (2, .int q)]) (by decide +kernel) rfl hI (Nat.le_of_ble_eq_true rfl) rfl ?_
  intro Z hnL hR X F
  refine g_aload_n X 0 rfl dX8_queue_0 ?_
  refine g_iconst X 0 (by decide) dX8_queue_1 ?_
  refine gp_X8_thrown X ⟨by decide, by decide⟩ fX8_41 dX8_queue_2 ?_
  refine gG_nm (fun V1 hV1 => ?_)
  have hM1 : MOk V1 w := by rw [hV1]; exact hM.thr 0
  have hm1 : mmod V V1 := by rw [hV1]; exact mmod.rf.up (by decide) (by decide)
  refine g_iload_n X 1 rfl dX8_queue_5 ?_
  refine g_iconst X 0 (by decide) dX8_queue_6 ?_
  refine g_iconst X 1 (by decide) dX8_queue_7 ?_
  refine g_callS X hR (As := [.int p, .int 0, .int 1]) (rest := []) mX8_isIn lX8_48 (k_isIn hI V1 p 0 1 ) rfl rfl (Nat.le_of_ble_eq_true rfl) ⟨Nat.le_of_ble_eq_true rfl, Nat.le_of_ble_eq_true rfl, Nat.le_of_ble_eq_true rfl, Nat.le_of_ble_eq_true rfl⟩ dX8_queue_8 (fun r2 V3 hz_4 => ?_)
  refine gG_ret hz_4.1 hz_4.2 ?_
  refine gG_st [.int (if inB p 0 1 then 1 else 0)] rfl ?_
  by_cases hP : ixB p 2
  · refine gG_top 1 (if_pos ((inB_ix (n := 1) (by decide)).mpr hP)) ?_
    refine g_if_eq X 54 (by decide) dX8_queue_11 (fun c5 => ?_) (fun c5 => ?_)
    ·  exact absurd c5 (by decide)
    · obtain ⟨j, hj, hxj⟩ := (ixB_iff (n := 2) (by decide)).mp hP
      subst hxj
      have hrow := hM1.1.2.2.2.1 j hj
      have hrl := hrow.2.1
      refine g_iload_n X 2 rfl dX8_queue_14 ?_
      refine g_iconst X 0 (by decide) dX8_queue_15 ?_
      refine g_aload_n X 0 rfl dX8_queue_16 ?_
      refine gg_X8_s X ⟨by decide, by decide⟩ fX8_34 dX8_queue_17 ?_
      refine gg_X7_box X ⟨by decide, by decide⟩ fX8_103 dX8_queue_20 ?_
      refine g_iconst X 5 (by decide) dX8_queue_23 ?_
      refine g_iload_n X 1 rfl dX8_queue_24 ?_
      refine g_imul X dX8_queue_25 ?_
      refine gG_top (nI (5 * j)) (pk_mul 5 j) ?_
      refine g_iconst X 3 (by decide) dX8_queue_26 ?_
      refine g_iadd X dX8_queue_27 ?_
      refine gG_top (nI ((5 * j) + 3)) (nI_add (5 * j) 3) ?_
      refine g_ialdN X (5 * j + 3) rfl (by omega) (by decide) ⟨by decide, by decide⟩ rfl dX8_queue_28 ?_
      refine gG_top (nI (w.1.2.1 j).length) (hrow.1) ?_
      refine g_iconst X 1 (by decide) dX8_queue_29 ?_
      refine g_isub X dX8_queue_30 ?_
      refine g_callS X hR (As := [.int q, .int 0, .int ((nI (w.1.2.1 j).length) - 1)]) (rest := []) mX8_isIn lX8_48 (k_isIn hI V1 q 0 ((nI (w.1.2.1 j).length) - 1) ) rfl rfl (Nat.le_of_ble_eq_true rfl) ⟨Nat.le_of_ble_eq_true rfl, Nat.le_of_ble_eq_true rfl, Nat.le_of_ble_eq_true rfl, Nat.le_of_ble_eq_true rfl⟩ dX8_queue_31 (fun r6 V7 hz_8 => ?_)
      refine gG_ret hz_8.1 hz_8.2 ?_
      refine gG_st [.int (if inB q 0 ((nI (w.1.2.1 j).length) - 1) then 1 else 0)] rfl ?_
      refine gG_top (if ixB q (nI (w.1.2.1 j).length) then 1 else 0) (sig_if (by omega)) ?_
      by_cases hQ : ixB q (nI (w.1.2.1 j).length)
      · refine gG_top 1 (if_pos (hQ)) ?_
        refine g_if_eq X 54 (by decide) dX8_queue_34 (fun c9 => ?_) (fun c9 => ?_)
        ·  exact absurd c9 (by decide)
        · obtain ⟨z, hz, hyz⟩ := (ixB_iff (n := (w.1.2.1 j).length) (by omega)).mp hQ
          subst hyz
          refine g_aload_n X 0 rfl dX8_queue_37 ?_
          refine gg_X8_s X ⟨by decide, by decide⟩ fX8_34 dX8_queue_38 ?_
          refine gg_X7_row X ⟨by decide, by decide⟩ fX8_119 dX8_queue_41 ?_
          refine g_bipush X 16 (by decide) dX8_queue_44 ?_
          refine g_iload_n X 1 rfl dX8_queue_46 ?_
          refine g_imul X dX8_queue_47 ?_
          refine gG_top (nI (16 * j)) (pk_mul 16 j) ?_
          refine g_iload_n X 2 rfl dX8_queue_48 ?_
          refine g_iadd X dX8_queue_49 ?_
          refine gG_top (nI ((16 * j) + z)) (nI_add (16 * j) z) ?_
          refine g_ialdN X (16 * j + z) rfl (by omega) (by decide) ⟨by decide, by decide⟩ rfl dX8_queue_50 ?_
          refine gG_top (nI ((w.1.2.1 j)[z]?.getD 0)) (by rw [hrow.2.2 z hz, List.getElem?_eq_getElem hz]; rfl) ?_
          refine g_goto X 59 (by decide) dX8_queue_51 ?_
          refine g_iret X F ?_ rfl dX8_queue_59
          rw [show oQueue w (nI j) (nI z) = (0, nI ((w.1.2.1 j)[z]?.getD 0), w) from by unfold oQueue; rw [nI_clamp (by omega), nI_clamp (by omega), if_pos ⟨hP, hQ⟩]]
          exact ⟨rfl, by rw [hV1, gup_eq]; rfl, hM1, hm1⟩
      · refine gG_top 0 (if_neg (hQ)) ?_
        refine g_if_eq X 54 (by decide) dX8_queue_34 (fun c10 => ?_) (fun c10 => ?_)
        · refine g_aload_n X 0 rfl dX8_queue_54 ?_
          refine g_iconst X 1 (by decide) dX8_queue_55 ?_
          refine g_callV X hR (rest := []) mX8_no lX8_59 (k_no hI V1 1 ) rfl rfl (Nat.le_of_ble_eq_true rfl) ⟨by decide, by decide⟩ rfl rfl rfl ⟨Nat.le_of_ble_eq_true rfl, Nat.le_of_ble_eq_true rfl, Nat.le_of_ble_eq_true rfl, Nat.le_of_ble_eq_true rfl⟩ dX8_queue_56 (fun r11 V12 hz_13 => ?_)
          refine gG_rv hz_13.1 ?_
          have hV12 := hz_13.2
          refine gG_st [.int 0] rfl ?_
          refine g_iret X F ?_ rfl dX8_queue_59
          rw [show oQueue w (nI j) q = (1, 0, w) from if_neg (fun z => hQ (by have := z.2; rw [nI_clamp (by omega)] at this; exact this))]
          exact ⟨rfl, by rw [hV12, gup_eq]; rfl, by rw [hV12]; exact hM1.thr _, by rw [hV12]; exact hm1.up (by decide) (by decide)⟩
        ·  exact absurd c10 (by decide)
  · refine gG_top 0 (if_neg (fun z => hP ((inB_ix (n := 1) (by decide)).mp z))) ?_
    refine g_if_eq X 54 (by decide) dX8_queue_11 (fun c14 => ?_) (fun c14 => ?_)
    · refine g_aload_n X 0 rfl dX8_queue_54 ?_
      refine g_iconst X 1 (by decide) dX8_queue_55 ?_
      refine g_callV X hR (rest := []) mX8_no lX8_59 (k_no hI V1 1 ) rfl rfl (Nat.le_of_ble_eq_true rfl) ⟨by decide, by decide⟩ rfl rfl rfl ⟨Nat.le_of_ble_eq_true rfl, Nat.le_of_ble_eq_true rfl, Nat.le_of_ble_eq_true rfl, Nat.le_of_ble_eq_true rfl⟩ dX8_queue_56 (fun r15 V16 hz_17 => ?_)
      refine gG_rv hz_17.1 ?_
      have hV16 := hz_17.2
      refine gG_st [.int 0] rfl ?_
      refine g_iret X F ?_ rfl dX8_queue_59
      rw [show oQueue w p q = (1, 0, w) from if_neg (fun z => hP z.1)]
      exact ⟨rfl, by rw [hV16, gup_eq]; rfl, by rw [hV16]; exact hM1.thr _, by rw [hV16]; exact hm1.up (by decide) (by decide)⟩
    ·  exact absurd c14 (by decide)

abbrev rmX8_pass : Room := { frames := 5, cells := 0, slots := 0, locals := 133 }
set_option maxRecDepth 20000 in
theorem k_Mpass {l : Launch} {B : gB} (hI : gI B) (V : gMem) (w : gWd) (x : Int32) (hM : MOk V w) (hw : wOk w) : gM l B yX8_pass cX8_pass 4 (some .int) rmX8_pass [.ref (B.2.1 20 0 0), .int x] V (fun v V' => v = some (.int (oPass w x).2.1) ∧ V' 20 0 0 0 = nI (oPass w x).1 ∧ MOk V' (oPass w x).2.2 ∧ mmod V V') := by
  refine gM_of (own := RX8) (L := [(0, .ref (B.2.1 20 0 0)), (1, .int x)]) (by decide +kernel) rfl hI (Nat.le_of_ble_eq_true rfl) rfl ?_
  intro Z hnL hR X F
  refine g_aload_n X 0 rfl dX8_pass_0 ?_
  refine g_iconst X 0 (by decide) dX8_pass_1 ?_
  refine gp_X8_thrown X ⟨by decide, by decide⟩ fX8_41 dX8_pass_2 ?_
  refine gG_nm (fun V1 hV1 => ?_)
  have hM1 : MOk V1 w := by rw [hV1]; exact hM.thr 0
  have hm1 : mmod V V1 := by rw [hV1]; exact mmod.rf.up (by decide) (by decide)
  refine g_iload_n X 1 rfl dX8_pass_5 ?_
  refine g_iconst X 1 (by decide) dX8_pass_6 ?_
  refine g_sipush X 200 (by decide) dX8_pass_7 ?_
  refine g_callS X hR (As := [.int x, .int 1, .int 200]) (rest := []) mX8_isIn lX8_48 (k_isIn hI V1 x 1 200 ) rfl rfl (Nat.le_of_ble_eq_true rfl) ⟨Nat.le_of_ble_eq_true rfl, Nat.le_of_ble_eq_true rfl, Nat.le_of_ble_eq_true rfl, Nat.le_of_ble_eq_true rfl⟩ dX8_pass_10 (fun r2 V3 hz_4 => ?_)
  refine gG_ret hz_4.1 hz_4.2 ?_
  refine gG_st [.int (if inB x 1 200 then 1 else 0)] rfl ?_
  by_cases hP : inB x 1 200
  · refine gG_top 1 (if_pos (hP)) ?_
    refine g_if_ne X 22 (by decide) dX8_pass_13 (fun c5 => ?_) (fun c5 => ?_)
    · obtain ⟨n, hn1, hn2, hxn⟩ := (inB_iff (a := 1) (n := 200) (by decide) (by decide)).mp hP
      subst hxn
      refine g_iconst X 0 (by decide) dX8_pass_22 ?_
      refine g_istore_n X rfl dX8_pass_23 [(2, .int 0), (0, .ref (B.2.1 20 0 0)), (1, .int (nI n))] rfl (gnl_lt hnL (by decide)) ?_
      refine g_iconst X 0 (by decide) dX8_pass_24 ?_
      refine g_istore_n X rfl dX8_pass_25 [(3, .int 0), (2, .int 0), (0, .ref (B.2.1 20 0 0)), (1, .int (nI n))] rfl (gnl_lt hnL (by decide)) ?_
      refine gG_L [2, 3, 1, 0] (L' := [(0, .ref (B.2.1 20 0 0)), (1, .int (nI n)), (2, .int 0), (3, .int 0)]) rfl ?_
      have loop : ∀ (f : Nat) (k : Nat) (m : Nat) (Vp : gMem) (S1 : gSt), k + f = n → AbsM Vp 0 S1 → WF S1 → stmod V1 Vp 0 → sRun n w.1 = ((sRun f S1).1, m + (sRun f S1).2) → gG Z B (0, 0) Vp 26 [(0, .ref (B.2.1 20 0 0)), (1, .int (nI n)), (2, .int (nI m)), (3, .int (nI k))] [] := by
        intro f
        induction f with
        | zero =>
          intro k m Vp S1 hf hA hw1 hs1 hF
          refine g_iload_n X 3 rfl dX8_pass_26 ?_
          refine g_iload_n X 1 rfl dX8_pass_27 ?_
          refine g_icmp_ge X 47 (by decide) dX8_pass_28 (fun c6 => ?_) (fun c6 => ?_)
          · refine g_iload_n X 2 rfl dX8_pass_47 ?_
            refine g_iret X F ?_ rfl dX8_pass_48
            rw [show oPass w (nI n) = (0, nI (sRun n w.1).2, ((sRun n w.1).1, w.2)) from by unfold oPass; rw [if_pos hP, nI_clamp (by omega)]]
            rw [hF]
            exact ⟨rfl, by rw [hs1 20 0 0 (by simp), hV1, gup_eq]; rfl, hM1.st hs1 hA, hm1.trans hs1.mm⟩
          · first | exact absurd (nI_le (by omega) (by omega)) c6 | exact absurd c6 (nI_le (by omega) (by omega))
        | succ f ih =>
          intro k m Vp S1 hf hA hw1 hs1 hF
          refine g_iload_n X 3 rfl dX8_pass_26 ?_
          refine g_iload_n X 1 rfl dX8_pass_27 ?_
          refine g_icmp_ge X 47 (by decide) dX8_pass_28 (fun c7 => ?_) (fun c7 => ?_)
          · first | exact absurd (nI_ge (by omega) (by omega)) c7 | exact absurd c7 (nI_ge (by omega) (by omega))
          · refine g_iload_n X 2 rfl dX8_pass_31 ?_
            refine g_aload_n X 0 rfl dX8_pass_32 ?_
            refine gg_X8_s X ⟨by decide, by decide⟩ fX8_34 dX8_pass_33 ?_
            refine g_callV X hR (rest := [.int (nI m)]) mX7_pass lX8_122 (k_pass hI Vp 0 S1 (by first | assumption | decide | omega) (by first | assumption | decide | omega) hw1) rfl rfl (Nat.le_of_ble_eq_true rfl) ⟨by decide, by decide⟩ rfl rfl rfl ⟨Nat.le_of_ble_eq_true rfl, Nat.le_of_ble_eq_true rfl, Nat.le_of_ble_eq_true rfl, Nat.le_of_ble_eq_true rfl⟩ dX8_pass_36 (fun r8 V9 hz_10 => ?_)
            refine gG_rv hz_10.1 ?_
            obtain ⟨-, hmV9, haV9⟩ := hz_10
            refine gG_st [.int (nI (sTick S1).2), .int (nI m)] rfl ?_
            refine g_iadd X dX8_pass_39 ?_
            refine gG_top (nI (m + (sTick S1).2)) (nI_add m (sTick S1).2) ?_
            refine g_istore_n X rfl dX8_pass_40 [(2, .int (nI (m + (sTick S1).2))), (0, .ref (B.2.1 20 0 0)), (1, .int (nI n)), (3, .int (nI k))] rfl (gnl_lt hnL (by decide)) ?_
            refine g_iinc X 3 rfl (nI (k + 1)) (iinc_1 _) dX8_pass_41 [(3, .int (nI (k + 1))), (2, .int (nI (m + (sTick S1).2))), (0, .ref (B.2.1 20 0 0)), (1, .int (nI n))] rfl (gnl_lt hnL (by decide)) ?_
            refine g_goto X 26 (by decide) dX8_pass_44 ?_
            refine gG_L [2, 3, 1, 0] (L' := [(0, .ref (B.2.1 20 0 0)), (1, .int (nI n)), (2, .int (nI (m + (sTick S1).2))), (3, .int (nI (k + 1)))]) rfl ?_
            refine ih (k + 1) (m + (sTick S1).2) V9 (sTick S1).1 (by omega) haV9 hw1.tick (hs1.trans hmV9) (by rw [hF]; show _ = ((sRun f (sTick S1).1).1, m + (sTick S1).2 + (sRun f (sTick S1).1).2); rw [Nat.add_assoc]; rfl)
      exact loop n 0 0 V1 w.1 (by omega) hM1.1 hw.1 stmod.rf (by rw [Nat.zero_add])
    ·  exact absurd c5 (by decide)
  · refine gG_top 0 (if_neg (hP)) ?_
    refine g_if_ne X 22 (by decide) dX8_pass_13 (fun c11 => ?_) (fun c11 => ?_)
    ·  exact absurd c11 (by decide)
    · refine g_aload_n X 0 rfl dX8_pass_16 ?_
      refine g_iconst X 1 (by decide) dX8_pass_17 ?_
      refine g_callV X hR (rest := []) mX8_no lX8_59 (k_no hI V1 1 ) rfl rfl (Nat.le_of_ble_eq_true rfl) ⟨by decide, by decide⟩ rfl rfl rfl ⟨Nat.le_of_ble_eq_true rfl, Nat.le_of_ble_eq_true rfl, Nat.le_of_ble_eq_true rfl, Nat.le_of_ble_eq_true rfl⟩ dX8_pass_18 (fun r12 V13 hz_14 => ?_)
      refine gG_rv hz_14.1 ?_
      have hV13 := hz_14.2
      refine gG_st [.int 0] rfl ?_
      refine g_iret X F ?_ rfl dX8_pass_21
      rw [show oPass w x = (1, 0, w) from if_neg hP]
      exact ⟨rfl, by rw [hV13, gup_eq]; rfl, by rw [hV13]; exact hM1.thr _, by rw [hV13]; exact hm1.up (by decide) (by decide)⟩

