/-! an array of a method's own: the reference counts, lists rows, and a cart comes -/
theorem gX_I {Z : gZ} {B : gB} {cc : ByteArray} {own : String} (X : gX Z B cc own) : gI B := by
  obtain ⟨p, l, e, R, s, m, args, below, meth, c, nL, Q⟩ := Z
  exact X.2.2.2.2.2.1
theorem gG_n {Z : gZ} {B : gB} {n : Nat × Nat} {V : gMem} {pc : Nat} {L : List (Nat × Value)} {st : List Value} (n' : Nat × Nat) (h : n = n') (k : gG Z B n' V pc L st) : gG Z B n V pc L st := h ▸ k
def m29 (V V' : gMem) : Prop := ∀ K b i, K ≠ 29 → V' K b i = V K b i
theorem m29.rf {V : gMem} : m29 V V := fun _ _ _ _ => rfl
theorem m29.gz {V : gMem} : m29 V (gz V) := fun K b i h => by rw [gz_ne V h]
theorem m29.up {V V1 : gMem} {b i j : Nat} {x : Int32} (h : m29 V V1) : m29 V (gup V1 29 b i j x) := fun K b' i' hn => (gup_off V1 x (fun q => hn q.1)).trans (h K b' i' hn)
theorem m29.dr {V V' : gMem} (h : m29 V V') {K : Nat} (hK : K ≠ 29) : V' K = V K := by
  funext b i
  exact h K b i hK
theorem AbsM.m29 {V V' : gMem} {k : Nat} {S : gSt} (h : AbsM V k S) (hm : m29 V V') : AbsM V' k S := by
  have e : ∀ K, K ≠ 29 → V' K = V K := fun K hK => hm.dr hK
  obtain ⟨a, b, c, d, y, z⟩ := h
  refine ⟨by rw [e 23 (by decide)]; exact a, fun i hi f hf => by rw [e 24 (by decide)]; exact b i hi f hf, ⟨fun i hi h8 => by rw [e 25 (by decide)]; exact c.1 i hi h8, fun p hp hn => by rw [e 25 (by decide)]; exact c.2 p hp hn⟩, fun x hx => ?_, fun x hx => by rw [e 27 (by decide)]; exact y x hx, ?_⟩
  · have q := d x hx
    exact ⟨by rw [e 27 (by decide)]; exact q.1, q.2.1, fun j hj => by rw [e 26 (by decide)]; exact q.2.2 j hj⟩
  · unfold NumM
    rw [e 20 (by decide)]; exact z
theorem MOk.m29 {V V' : gMem} {w : gWd} (h : MOk V w) (hm : m29 V V') : MOk V' w := by
  have e : ∀ K, K ≠ 29 → V' K = V K := fun K hK => hm.dr hK
  exact ⟨h.1.m29 hm, ⟨by rw [e 20 (by decide)]; exact h.2.1.1, fun k hk => by rw [e 21 (by decide)]; exact h.2.1.2 k hk⟩, fun j hj => by rw [e 22 (by decide)]; exact h.2.2 j hj⟩
def oCount (w : gWd) (x : Int32) : gOu := if ixB x 11 then (0, cntV w x.toNatClampNeg, w) else (1, 0, w)
def oRows (w : gWd) (x : Int32) : gOu := if inB x 0 20 then (0, cRows w.2.1 x.toNatClampNeg, w) else (1, 0, w)

abbrev rmX8_counted : Room := { frames := 2, cells := 1, slots := 11, locals := 45 }
set_option maxRecDepth 20000 in
theorem k_counted {l : Launch} {B : gB} (hI : gI B) (V : gMem) (w : gWd) (k : Nat) (hM : MOk V w) (hw : wOk w) (hk : k < 11) (h0 : B.2.2.2.2 = 0) : gM l B yX8_counted cX8_counted 3 (some .int) rmX8_counted [.ref (B.2.1 20 0 0), .int (nI k)] V (fun v V' => v = some (.int (cntV w k)) ∧ V' = V) := by
  refine gM_of (own := RX8) (L := [(0, .ref (B.2.1 20 0 0)), (1, .int (nI k))]) (by decide +kernel) rfl hI (Nat.le_of_ble_eq_true rfl) rfl ?_
  intro Z hnL hR X F
  refine g_bipush X 11 (by decide) dX8_counted_0 ?_
  have X0 := X
  have hI0 := hI
  refine g_newS X hR 11 rfl (by decide) (by decide) h0 ⟨Nat.le_of_ble_eq_true rfl, Nat.le_of_ble_eq_true rfl⟩ dX8_counted_2 (fun a9 ha9 X => ?_)
  have hI := gX_I X
  refine gG_n (1, 11) rfl ?_
  refine gG_Le [(0, .ref ((gBs B a9 11).2.1 20 0 0)), (1, .int (nI k))] rfl ?_
  refine gG_st [.ref ((gBs B a9 11).2.1 29 0 0)] rfl ?_
  refine gG_nm (fun V1 hV1 => ?_)
  have mV1 : m29 V V1 := by rw [hV1]; exact m29.gz
  refine g_dup X rfl dX8_counted_4 ?_
  refine g_iconst X 0 (by decide) dX8_counted_5 ?_
  refine g_aload_n X 0 rfl dX8_counted_6 ?_
  refine gg_X8_s X ⟨by decide, by decide⟩ fX8_34 dX8_counted_7 ?_
  refine gg_X7_tick X ⟨by decide, by decide⟩ fX8_79 dX8_counted_10 ?_
  refine gG_top (nI (w.1.1 0)) ((hM.m29 mV1).1.1.1) ?_
  refine g_iastNX X (N := 11) (0) (by decide) (by decide) (by decide) (gPs (by decide)) (fun _ => rfl) dX8_counted_13 ?_
  refine gG_nm (fun V2 hV2 => ?_)
  have mV2 : m29 V V2 := by rw [hV2]; exact mV1.up
  refine g_dup X rfl dX8_counted_14 ?_
  refine g_iconst X 1 (by decide) dX8_counted_15 ?_
  refine g_aload_n X 0 rfl dX8_counted_16 ?_
  refine gg_X8_signals X ⟨by decide, by decide⟩ fX8_62 dX8_counted_17 ?_
  refine gG_top (nI w.2.1.1) ((hM.m29 mV2).2.1.1) ?_
  refine g_iastNX X (N := 11) (1) (by decide) (by decide) (by decide) (gPs (by decide)) (fun _ => rfl) dX8_counted_20 ?_
  refine gG_nm (fun V3 hV3 => ?_)
  have mV3 : m29 V V3 := by rw [hV3]; exact mV2.up
  refine g_dup X rfl dX8_counted_21 ?_
  refine g_iconst X 2 (by decide) dX8_counted_22 ?_
  refine g_aload_n X 0 rfl dX8_counted_23 ?_
  refine gg_X8_s X ⟨by decide, by decide⟩ fX8_34 dX8_counted_24 ?_
  refine gg_X7_carts X ⟨by decide, by decide⟩ fX8_91 dX8_counted_27 ?_
  refine gG_top (nI (w.1.1 6)) ((hM.m29 mV3).1.1.2.2) ?_
  refine g_iastNX X (N := 11) (2) (by decide) (by decide) (by decide) (gPs (by decide)) (fun _ => rfl) dX8_counted_30 ?_
  refine gG_nm (fun V4 hV4 => ?_)
  have mV4 : m29 V V4 := by rw [hV4]; exact mV3.up
  refine g_dup X rfl dX8_counted_31 ?_
  refine g_iconst X 3 (by decide) dX8_counted_32 ?_
  refine g_aload_n X 0 rfl dX8_counted_33 ?_
  refine gg_X8_s X ⟨by decide, by decide⟩ fX8_34 dX8_counted_34 ?_
  refine g_iconst X 0 (by decide) dX8_counted_37 ?_
  refine g_callV X hR (rest := [.int 3, .ref ((gBs B a9 11).2.1 29 0 0), .ref ((gBs B a9 11).2.1 29 0 0)]) mX7_how lX8_85 (k_how hI V4 0 w.1 0 (by decide) (hM.m29 mV4).1 hw.1.1.2.2.2.2.2 (fun i hi => (hw.1.2.1 i hi).2.2.2.2.2.2.2) (by decide)) rfl rfl (Nat.le_of_ble_eq_true rfl) ⟨by decide, by decide⟩ rfl rfl rfl ⟨Nat.le_of_ble_eq_true rfl, Nat.le_of_ble_eq_true rfl, Nat.le_of_ble_eq_true rfl, Nat.le_of_ble_eq_true rfl⟩ dX8_counted_38 (fun r5 V6 hz_7 => ?_)
  refine gG_ret hz_7.1 hz_7.2 ?_
  refine gG_st [.int (nI (sCnt w.1 0)), .int 3, .ref ((gBs B a9 11).2.1 29 0 0), .ref ((gBs B a9 11).2.1 29 0 0)] rfl ?_
  refine g_iastNX X (N := 11) (3) (by decide) (by decide) (by decide) (gPs (by decide)) (fun _ => rfl) dX8_counted_41 ?_
  refine gG_nm (fun V8 hV8 => ?_)
  have mV8 : m29 V V8 := by rw [hV8]; exact mV4.up
  refine g_dup X rfl dX8_counted_42 ?_
  refine g_iconst X 4 (by decide) dX8_counted_43 ?_
  refine g_aload_n X 0 rfl dX8_counted_44 ?_
  refine gg_X8_s X ⟨by decide, by decide⟩ fX8_34 dX8_counted_45 ?_
  refine g_iconst X 1 (by decide) dX8_counted_48 ?_
  refine g_callV X hR (rest := [.int 4, .ref ((gBs B a9 11).2.1 29 0 0), .ref ((gBs B a9 11).2.1 29 0 0)]) mX7_how lX8_85 (k_how hI V8 0 w.1 1 (by decide) (hM.m29 mV8).1 hw.1.1.2.2.2.2.2 (fun i hi => (hw.1.2.1 i hi).2.2.2.2.2.2.2) (by decide)) rfl rfl (Nat.le_of_ble_eq_true rfl) ⟨by decide, by decide⟩ rfl rfl rfl ⟨Nat.le_of_ble_eq_true rfl, Nat.le_of_ble_eq_true rfl, Nat.le_of_ble_eq_true rfl, Nat.le_of_ble_eq_true rfl⟩ dX8_counted_49 (fun r9 V10 hz_11 => ?_)
  refine gG_ret hz_11.1 hz_11.2 ?_
  refine gG_st [.int (nI (sCnt w.1 1)), .int 4, .ref ((gBs B a9 11).2.1 29 0 0), .ref ((gBs B a9 11).2.1 29 0 0)] rfl ?_
  refine g_iastNX X (N := 11) (4) (by decide) (by decide) (by decide) (gPs (by decide)) (fun _ => rfl) dX8_counted_52 ?_
  refine gG_nm (fun V12 hV12 => ?_)
  have mV12 : m29 V V12 := by rw [hV12]; exact mV8.up
  refine g_dup X rfl dX8_counted_53 ?_
  refine g_iconst X 5 (by decide) dX8_counted_54 ?_
  refine g_aload_n X 0 rfl dX8_counted_55 ?_
  refine gg_X8_s X ⟨by decide, by decide⟩ fX8_34 dX8_counted_56 ?_
  refine g_iconst X 2 (by decide) dX8_counted_59 ?_
  refine g_callV X hR (rest := [.int 5, .ref ((gBs B a9 11).2.1 29 0 0), .ref ((gBs B a9 11).2.1 29 0 0)]) mX7_how lX8_85 (k_how hI V12 0 w.1 2 (by decide) (hM.m29 mV12).1 hw.1.1.2.2.2.2.2 (fun i hi => (hw.1.2.1 i hi).2.2.2.2.2.2.2) (by decide)) rfl rfl (Nat.le_of_ble_eq_true rfl) ⟨by decide, by decide⟩ rfl rfl rfl ⟨Nat.le_of_ble_eq_true rfl, Nat.le_of_ble_eq_true rfl, Nat.le_of_ble_eq_true rfl, Nat.le_of_ble_eq_true rfl⟩ dX8_counted_60 (fun r13 V14 hz_15 => ?_)
  refine gG_ret hz_15.1 hz_15.2 ?_
  refine gG_st [.int (nI (sCnt w.1 2)), .int 5, .ref ((gBs B a9 11).2.1 29 0 0), .ref ((gBs B a9 11).2.1 29 0 0)] rfl ?_
  refine g_iastNX X (N := 11) (5) (by decide) (by decide) (by decide) (gPs (by decide)) (fun _ => rfl) dX8_counted_63 ?_
  refine gG_nm (fun V16 hV16 => ?_)
  have mV16 : m29 V V16 := by rw [hV16]; exact mV12.up
  refine g_dup X rfl dX8_counted_64 ?_
  refine g_bipush X 6 (by decide) dX8_counted_65 ?_
  refine g_aload_n X 0 rfl dX8_counted_67 ?_
  refine gg_X8_s X ⟨by decide, by decide⟩ fX8_34 dX8_counted_68 ?_
  refine g_iconst X 3 (by decide) dX8_counted_71 ?_
  refine g_callV X hR (rest := [.int 6, .ref ((gBs B a9 11).2.1 29 0 0), .ref ((gBs B a9 11).2.1 29 0 0)]) mX7_how lX8_85 (k_how hI V16 0 w.1 3 (by decide) (hM.m29 mV16).1 hw.1.1.2.2.2.2.2 (fun i hi => (hw.1.2.1 i hi).2.2.2.2.2.2.2) (by decide)) rfl rfl (Nat.le_of_ble_eq_true rfl) ⟨by decide, by decide⟩ rfl rfl rfl ⟨Nat.le_of_ble_eq_true rfl, Nat.le_of_ble_eq_true rfl, Nat.le_of_ble_eq_true rfl, Nat.le_of_ble_eq_true rfl⟩ dX8_counted_72 (fun r17 V18 hz_19 => ?_)
  refine gG_ret hz_19.1 hz_19.2 ?_
  refine gG_st [.int (nI (sCnt w.1 3)), .int 6, .ref ((gBs B a9 11).2.1 29 0 0), .ref ((gBs B a9 11).2.1 29 0 0)] rfl ?_
  refine g_iastNX X (N := 11) (6) (by decide) (by decide) (by decide) (gPs (by decide)) (fun _ => rfl) dX8_counted_75 ?_
  refine gG_nm (fun V20 hV20 => ?_)
  have mV20 : m29 V V20 := by rw [hV20]; exact mV16.up
  refine g_dup X rfl dX8_counted_76 ?_
  refine g_bipush X 7 (by decide) dX8_counted_77 ?_
  refine g_aload_n X 0 rfl dX8_counted_79 ?_
  refine gg_X8_s X ⟨by decide, by decide⟩ fX8_34 dX8_counted_80 ?_
  refine gg_X7_open X ⟨by decide, by decide⟩ fX8_88 dX8_counted_83 ?_
  refine gG_top (nI (w.1.1 1)) ((hM.m29 mV20).1.1.2.1) ?_
  refine g_iastNX X (N := 11) (7) (by decide) (by decide) (by decide) (gPs (by decide)) (fun _ => rfl) dX8_counted_86 ?_
  refine gG_nm (fun V21 hV21 => ?_)
  have mV21 : m29 V V21 := by rw [hV21]; exact mV20.up
  refine g_dup X rfl dX8_counted_87 ?_
  refine g_bipush X 8 (by decide) dX8_counted_88 ?_
  refine g_aload_n X 0 rfl dX8_counted_90 ?_
  refine gg_X8_s X ⟨by decide, by decide⟩ fX8_34 dX8_counted_91 ?_
  refine g_callV X hR (rest := [.int 8, .ref ((gBs B a9 11).2.1 29 0 0), .ref ((gBs B a9 11).2.1 29 0 0)]) mX7_weight lX8_126 (k_mweight hI V21 0 w.1 (by decide) (hM.m29 mV21).1 hw.1) rfl rfl (Nat.le_of_ble_eq_true rfl) ⟨by decide, by decide⟩ rfl rfl rfl ⟨Nat.le_of_ble_eq_true rfl, Nat.le_of_ble_eq_true rfl, Nat.le_of_ble_eq_true rfl, Nat.le_of_ble_eq_true rfl⟩ dX8_counted_94 (fun r22 V23 hz_24 => ?_)
  refine gG_ret hz_24.1 hz_24.2 ?_
  refine gG_st [.int (nI (sW w.1)), .int 8, .ref ((gBs B a9 11).2.1 29 0 0), .ref ((gBs B a9 11).2.1 29 0 0)] rfl ?_
  refine g_iastNX X (N := 11) (8) (by decide) (by decide) (by decide) (gPs (by decide)) (fun _ => rfl) dX8_counted_97 ?_
  refine gG_nm (fun V25 hV25 => ?_)
  have mV25 : m29 V V25 := by rw [hV25]; exact mV21.up
  refine g_dup X rfl dX8_counted_98 ?_
  refine g_bipush X 9 (by decide) dX8_counted_99 ?_
  refine g_aload_n X 0 rfl dX8_counted_101 ?_
  refine gg_X8_places X ⟨by decide, by decide⟩ fX8_16 dX8_counted_102 ?_
  refine gG_top (nI (w.1.1 2)) ((hM.m29 mV25).1.2.2.2.2.2.1) ?_
  refine g_iastNX X (N := 11) (9) (by decide) (by decide) (by decide) (gPs (by decide)) (fun _ => rfl) dX8_counted_105 ?_
  refine gG_nm (fun V26 hV26 => ?_)
  have mV26 : m29 V V26 := by rw [hV26]; exact mV25.up
  refine g_dup X rfl dX8_counted_106 ?_
  refine g_bipush X 10 (by decide) dX8_counted_107 ?_
  refine g_aload_n X 0 rfl dX8_counted_109 ?_
  refine gg_X8_bears X ⟨by decide, by decide⟩ fX8_20 dX8_counted_110 ?_
  refine gG_top (nI (w.1.1 3)) ((hM.m29 mV26).1.2.2.2.2.2.2.1) ?_
  refine g_iastNX X (N := 11) (10) (by decide) (by decide) (by decide) (gPs (by decide)) (fun _ => rfl) dX8_counted_113 ?_
  refine gG_nm (fun V27 hV27 => ?_)
  have mV27 : m29 V V27 := by rw [hV27]; exact mV26.up
  refine g_astore_n X rfl dX8_counted_114 [(2, .ref ((gBs B a9 11).2.1 29 0 0)), (0, .ref ((gBs B a9 11).2.1 20 0 0)), (1, .int (nI k))] rfl (gnl_lt hnL (by decide)) ?_
  refine g_aload_n X 0 rfl dX8_counted_115 ?_
  refine g_iload_n X 2 rfl dX8_counted_116 ?_
  refine g_ialdNX X (N := 11) (k) rfl hk (by decide) (gPs (by decide)) rfl dX8_counted_117 ?_
  refine gG_top (cntV w k) (by
    rcases (show k = 0 ∨ k = 1 ∨ k = 2 ∨ k = 3 ∨ k = 4 ∨ k = 5 ∨ k = 6 ∨ k = 7 ∨ k = 8 ∨ k = 9 ∨ k = 10 by omega) with rfl | rfl | rfl | rfl | rfl | rfl | rfl | rfl | rfl | rfl | rfl
    all_goals (rw [hV27, hV26, hV25, hV21, hV20, hV16, hV12, hV8, hV4, hV3, hV2, hV1]; simp [gup, cntV])) ?_
  refine gG_L [1, 2] (L' := [(0, .ref ((gBs B a9 11).2.1 20 0 0)), (1, .int (nI k))]) rfl ?_
  refine g_drop V h0 (by decide) ha9 (fun K hK => mV27.dr hK) ?_
  have X := X0
  have hI := hI0
  refine gG_Le [(0, .ref (B.2.1 20 0 0)), (1, .int (nI k))] rfl ?_
  refine gG_st [.int (cntV w k)] rfl ?_
  refine g_iret X F ?_ rfl dX8_counted_118
  exact ⟨rfl, rfl⟩

abbrev rmX8_count : Room := { frames := 3, cells := 1, slots := 11, locals := 67 }
set_option maxRecDepth 20000 in
theorem k_Mcount {l : Launch} {B : gB} (hI : gI B) (V : gMem) (w : gWd) (x : Int32) (hM : MOk V w) (hw : wOk w) (h0 : B.2.2.2.2 = 0) : gM l B yX8_count cX8_count 2 (some .int) rmX8_count [.ref (B.2.1 20 0 0), .int x] V (fun v V' => v = some (.int (oCount w x).2.1) ∧ V' 20 0 0 0 = nI (oCount w x).1 ∧ MOk V' (oCount w x).2.2 ∧ mmod V V') := by
  refine gM_of (own := RX8) (L := [(0, .ref (B.2.1 20 0 0)), (1, .int x)]) (by decide +kernel) rfl hI (Nat.le_of_ble_eq_true rfl) rfl ?_
  intro Z hnL hR X F
  refine g_aload_n X 0 rfl dX8_count_0 ?_
  refine g_iconst X 0 (by decide) dX8_count_1 ?_
  refine gp_X8_thrown X ⟨by decide, by decide⟩ fX8_41 dX8_count_2 ?_
  refine gG_nm (fun V1 hV1 => ?_)
  have hM1 : MOk V1 w := by rw [hV1]; exact hM.thr 0
  have hm1 : mmod V V1 := by rw [hV1]; exact mmod.rf.up (by decide) (by decide)
  refine g_iload_n X 1 rfl dX8_count_5 ?_
  refine g_iconst X 0 (by decide) dX8_count_6 ?_
  refine g_bipush X 10 (by decide) dX8_count_7 ?_
  refine g_callS X hR (As := [.int x, .int 0, .int 10]) (rest := []) mX8_isIn lX8_48 (k_isIn hI V1 x 0 10 ) rfl rfl (Nat.le_of_ble_eq_true rfl) ⟨Nat.le_of_ble_eq_true rfl, Nat.le_of_ble_eq_true rfl, Nat.le_of_ble_eq_true rfl, Nat.le_of_ble_eq_true rfl⟩ dX8_count_9 (fun r2 V3 hz_4 => ?_)
  refine gG_ret hz_4.1 hz_4.2 ?_
  refine gG_st [.int (if inB x 0 10 then 1 else 0)] rfl ?_
  by_cases hP : ixB x 11
  · refine gG_top 1 (if_pos ((inB_ix (n := 10) (by decide)).mpr hP)) ?_
    refine g_if_eq X 23 (by decide) dX8_count_12 (fun c5 => ?_) (fun c5 => ?_)
    ·  exact absurd c5 (by decide)
    · obtain ⟨j, hj, hxj⟩ := (ixB_iff (n := 11) (by decide)).mp hP
      subst hxj
      refine g_aload_n X 0 rfl dX8_count_15 ?_
      refine g_iload_n X 1 rfl dX8_count_16 ?_
      refine g_callV X hR (rest := []) mX8_counted lX8_129 (k_counted hI V1 w j hM1 hw hj h0) rfl rfl (Nat.le_of_ble_eq_true rfl) ⟨by decide, by decide⟩ rfl rfl rfl ⟨Nat.le_of_ble_eq_true rfl, Nat.le_of_ble_eq_true rfl, Nat.le_of_ble_eq_true rfl, Nat.le_of_ble_eq_true rfl⟩ dX8_count_17 (fun r6 V7 hz_8 => ?_)
      refine gG_ret hz_8.1 hz_8.2 ?_
      refine gG_st [.int (cntV w j)] rfl ?_
      refine gG_n (1, 11) rfl ?_
      refine g_goto X 28 (by decide) dX8_count_20 ?_
      refine g_iret X F ?_ rfl dX8_count_28
      rw [show oCount w (nI j) = (0, cntV w j, w) from by unfold oCount; rw [if_pos hP, nI_clamp (by omega)]]
      exact ⟨rfl, by rw [hV1, gup_eq]; rfl, hM1, hm1⟩
  · refine gG_top 0 (if_neg (fun z => hP ((inB_ix (n := 10) (by decide)).mp z))) ?_
    refine g_if_eq X 23 (by decide) dX8_count_12 (fun c9 => ?_) (fun c9 => ?_)
    · refine g_aload_n X 0 rfl dX8_count_23 ?_
      refine g_iconst X 1 (by decide) dX8_count_24 ?_
      refine g_callV X hR (rest := []) mX8_no lX8_59 (k_no hI V1 1 ) rfl rfl (Nat.le_of_ble_eq_true rfl) ⟨by decide, by decide⟩ rfl rfl rfl ⟨Nat.le_of_ble_eq_true rfl, Nat.le_of_ble_eq_true rfl, Nat.le_of_ble_eq_true rfl, Nat.le_of_ble_eq_true rfl⟩ dX8_count_25 (fun r10 V11 hz_12 => ?_)
      refine gG_rv hz_12.1 ?_
      have hV11 := hz_12.2
      refine gG_st [.int 0] rfl ?_
      refine g_widen (1, 11) (by first | decide | omega) (by first | decide | omega) ?_
      refine g_iret X F ?_ rfl dX8_count_28
      rw [show oCount w x = (1, 0, w) from if_neg hP]
      exact ⟨rfl, by rw [hV11, gup_eq]; rfl, by rw [hV11]; exact hM1.thr _, by rw [hV11]; exact hm1.up (by decide) (by decide)⟩
    ·  exact absurd c9 (by decide)

abbrev rmX8_rows : Room := { frames := 1, cells := 1, slots := 21, locals := 22 }
set_option maxRecDepth 20000 in
theorem k_Mrows {l : Launch} {B : gB} (hI : gI B) (V : gMem) (w : gWd) (x : Int32) (hM : MOk V w) (hw : wOk w) (h0 : B.2.2.2.2 = 0) : gM l B yX8_rows cX8_rows 5 (some .int) rmX8_rows [.ref (B.2.1 20 0 0), .int x] V (fun v V' => v = some (.int (oRows w x).2.1) ∧ V' 20 0 0 0 = nI (oRows w x).1 ∧ MOk V' (oRows w x).2.2 ∧ mmod V V') := by
  refine gM_of (own := RX8) (L := [(0, .ref (B.2.1 20 0 0)), (1, .int x)]) (by decide +kernel) rfl hI (Nat.le_of_ble_eq_true rfl) rfl ?_
  intro Z hnL hR X F
  refine g_aload_n X 0 rfl dX8_rows_0 ?_
  refine g_iconst X 0 (by decide) dX8_rows_1 ?_
  refine gp_X8_thrown X ⟨by decide, by decide⟩ fX8_41 dX8_rows_2 ?_
  refine gG_nm (fun V1 hV1 => ?_)
  have hM1 : MOk V1 w := by rw [hV1]; exact hM.thr 0
  have hm1 : mmod V V1 := by rw [hV1]; exact mmod.rf.up (by decide) (by decide)
  refine g_iload_n X 1 rfl dX8_rows_5 ?_
  refine g_iconst X 0 (by decide) dX8_rows_6 ?_
  refine g_bipush X 20 (by decide) dX8_rows_7 ?_
  refine g_callS X hR (As := [.int x, .int 0, .int 20]) (rest := []) mX8_isIn lX8_48 (k_isIn hI V1 x 0 20 ) rfl rfl (Nat.le_of_ble_eq_true rfl) ⟨Nat.le_of_ble_eq_true rfl, Nat.le_of_ble_eq_true rfl, Nat.le_of_ble_eq_true rfl, Nat.le_of_ble_eq_true rfl⟩ dX8_rows_9 (fun r2 V3 hz_4 => ?_)
  refine gG_ret hz_4.1 hz_4.2 ?_
  refine gG_st [.int (if inB x 0 20 then 1 else 0)] rfl ?_
  by_cases hP : inB x 0 20
  · refine gG_top 1 (if_pos (hP)) ?_
    refine g_if_ne X 21 (by decide) dX8_rows_12 (fun c5 => ?_) (fun c5 => ?_)
    · obtain ⟨j, -, hj, hxj⟩ := (inB_iff (a := 0) (n := 20) (by decide) (by decide)).mp hP
      subst hxj
      refine g_bipush X 21 (by decide) dX8_rows_21 ?_
      have X0 := X
      have hI0 := hI
      refine g_newS X hR 21 rfl (by decide) (by decide) h0 ⟨Nat.le_of_ble_eq_true rfl, Nat.le_of_ble_eq_true rfl⟩ dX8_rows_23 (fun a9 ha9 X => ?_)
      have hI := gX_I X
      refine gG_n (1, 21) rfl ?_
      refine gG_Le [(0, .ref ((gBs B a9 21).2.1 20 0 0)), (1, .int (nI j))] rfl ?_
      refine gG_st [.ref ((gBs B a9 21).2.1 29 0 0)] rfl ?_
      refine gG_nm (fun V6 hV6 => ?_)
      have mV6 : m29 V1 V6 := by rw [hV6]; exact m29.gz
      refine g_astore_n X rfl dX8_rows_25 [(2, .ref ((gBs B a9 21).2.1 29 0 0)), (0, .ref ((gBs B a9 21).2.1 20 0 0)), (1, .int (nI j))] rfl (gnl_lt hnL (by decide)) ?_
      refine g_aload_n X 0 rfl dX8_rows_26 ?_
      refine g_iconst X 0 (by decide) dX8_rows_27 ?_
      refine g_iconst X 1 (by decide) dX8_rows_28 ?_
      refine g_iastNX X (N := 21) (0) (by decide) (by decide) (by decide) (gPs (by decide)) (fun _ => rfl) dX8_rows_29 ?_
      refine gG_nm (fun V7 hV7 => ?_)
      have mV7 : m29 V1 V7 := by rw [hV7]; exact mV6.up
      refine g_iconst X 1 (by decide) dX8_rows_30 ?_
      refine g_istore_n X rfl dX8_rows_31 [(3, .int 1), (2, .ref ((gBs B a9 21).2.1 29 0 0)), (0, .ref ((gBs B a9 21).2.1 20 0 0)), (1, .int (nI j))] rfl (gnl_lt hnL (by decide)) ?_
      refine gG_L [2, 3, 1, 0] (L' := [(0, .ref ((gBs B a9 21).2.1 20 0 0)), (1, .int (nI j)), (2, .ref ((gBs B a9 21).2.1 29 0 0)), (3, .int 1)]) rfl ?_
      have loop : ∀ (f : Nat) (k : Nat) (Vp : gMem), k + f = j + 1 → 1 ≤ k → (∀ x, x < k → Vp 29 0 0 x = cRows w.2.1 x) → (∀ x, k ≤ x → Vp 29 0 0 x = 0) → m29 V1 Vp → gG Z (gBs B a9 21) (1, 21) Vp 32 [(0, .ref ((gBs B a9 21).2.1 20 0 0)), (1, .int (nI j)), (2, .ref ((gBs B a9 21).2.1 29 0 0)), (3, .int (nI k))] [] := by
        intro f
        induction f with
        | zero =>
          intro k Vp hf h1 hT hz hp
          have h8 := hw.2.1.1
          refine g_iload_n X 3 rfl dX8_rows_32 ?_
          refine g_iload_n X 1 rfl dX8_rows_33 ?_
          refine g_icmp_gt X 99 (by decide) dX8_rows_34 (fun c8 => ?_) (fun c8 => ?_)
          · refine g_aload_n X 2 rfl dX8_rows_99 ?_
            refine g_iload_n X 1 rfl dX8_rows_100 ?_
            refine g_ialdNX X (N := 21) (j) rfl (by omega) (by decide) (gPs (by decide)) rfl dX8_rows_101 ?_
            refine gG_top (cRows w.2.1 j) (hT j (by omega)) ?_
            refine gG_L [0, 1, 3] (L' := [(0, .ref ((gBs B a9 21).2.1 20 0 0)), (1, .int (nI j)), (3, .int (nI k))]) rfl ?_
            refine g_drop V1 h0 (by decide) ha9 (fun K hK => hp.dr hK) ?_
            have X := X0
            have hI := hI0
            refine gG_Le [(0, .ref (B.2.1 20 0 0)), (1, .int (nI j)), (3, .int (nI k))] rfl ?_
            refine gG_st [.int (cRows w.2.1 j)] rfl ?_
            refine g_iret X F ?_ rfl dX8_rows_102
            rw [show oRows w (nI j) = (0, cRows w.2.1 j, w) from by unfold oRows; rw [if_pos hP, nI_clamp (by omega)]]
            exact ⟨rfl, by rw [hV1, gup_eq]; rfl, hM1, hm1⟩
          · first | exact absurd (nI_lt (by omega) (by omega)) c8 | exact absurd c8 (nI_lt (by omega) (by omega))
        | succ f ih =>
          intro k Vp hf h1 hT hz hp
          have h8 := hw.2.1.1
          refine g_iload_n X 3 rfl dX8_rows_32 ?_
          refine g_iload_n X 1 rfl dX8_rows_33 ?_
          refine g_icmp_gt X 99 (by decide) dX8_rows_34 (fun c9 => ?_) (fun c9 => ?_)
          · first | exact absurd (nI_nlt (by omega) (by omega)) c9 | exact absurd c9 (nI_nlt (by omega) (by omega))
          · refine g_iconst X 0 (by decide) dX8_rows_37 ?_
            refine g_istore X dX8_rows_38 [(4, .int 0), (0, .ref ((gBs B a9 21).2.1 20 0 0)), (1, .int (nI j)), (2, .ref ((gBs B a9 21).2.1 29 0 0)), (3, .int (nI k))] rfl (gnl_lt hnL (by decide)) ?_
            refine gG_L [1, 2, 3, 4, 0] (L' := [(0, .ref ((gBs B a9 21).2.1 20 0 0)), (1, .int (nI j)), (2, .ref ((gBs B a9 21).2.1 29 0 0)), (3, .int (nI k)), (4, .int 0)]) rfl ?_
            have loop2 : ∀ (f : Nat) (i : Nat) (Vq : gMem), i + f = w.2.1.1 → (∀ x, x < k → Vq 29 0 0 x = cRows w.2.1 x) → Vq 29 0 0 k = sumI (cRowF w.2.1 k) i → (∀ x, k < x → Vq 29 0 0 x = 0) → m29 V1 Vq → gG Z (gBs B a9 21) (1, 21) Vq 40 [(0, .ref ((gBs B a9 21).2.1 20 0 0)), (1, .int (nI j)), (2, .ref ((gBs B a9 21).2.1 29 0 0)), (3, .int (nI k)), (4, .int (nI i))] [] := by
              intro f
              induction f with
              | zero =>
                intro i Vq hf hq1 hq2 hq3 hq4
                refine g_iload X 4 rfl dX8_rows_40 ?_
                refine g_aload_n X 0 rfl dX8_rows_42 ?_
                refine gg_X8_signals X ⟨by decide, by decide⟩ fX8_62 dX8_rows_43 ?_
                refine gG_top (nI w.2.1.1) ((hM1.m29 hq4).2.1.1) ?_
                refine g_icmp_ge X 93 (by decide) dX8_rows_46 (fun c10 => ?_) (fun c10 => ?_)
                · refine g_iinc X 3 rfl (nI (k + 1)) (iinc_1 _) dX8_rows_93 [(3, .int (nI (k + 1))), (0, .ref ((gBs B a9 21).2.1 20 0 0)), (1, .int (nI j)), (2, .ref ((gBs B a9 21).2.1 29 0 0)), (4, .int (nI i))] rfl (gnl_lt hnL (by decide)) ?_
                  refine g_goto X 32 (by decide) dX8_rows_96 ?_
                  refine gG_L [1, 2, 3, 0] (L' := [(0, .ref ((gBs B a9 21).2.1 20 0 0)), (1, .int (nI j)), (2, .ref ((gBs B a9 21).2.1 29 0 0)), (3, .int (nI (k + 1)))]) rfl ?_
                  refine ih (k + 1) Vq (by omega) (by omega) (fun x hx => ?_) (fun x hx => hq3 x (by omega)) hq4
                  by_cases hxk : x = k
                  · subst hxk
                    rw [hq2, show x = x - 1 + 1 by omega, cRows_s hw.2.1, show i = w.2.1.1 by omega]
                  · exact hq1 x (by omega)
                · first | exact absurd (nI_le (by omega) (by omega)) c10 | exact absurd c10 (nI_le (by omega) (by omega))
              | succ f ih =>
                intro i Vq hf hq1 hq2 hq3 hq4
                have hsl := hw.2.1.len (k := i) (by omega)
                have hs31 := hw.2.1.lt (k := i) (by omega)
                refine g_iload X 4 rfl dX8_rows_40 ?_
                refine g_aload_n X 0 rfl dX8_rows_42 ?_
                refine gg_X8_signals X ⟨by decide, by decide⟩ fX8_62 dX8_rows_43 ?_
                refine gG_top (nI w.2.1.1) ((hM1.m29 hq4).2.1.1) ?_
                refine g_icmp_ge X 93 (by decide) dX8_rows_46 (fun c11 => ?_) (fun c11 => ?_)
                · first | exact absurd (nI_ge (by omega) (by omega)) c11 | exact absurd c11 (nI_ge (by omega) (by omega))
                · refine g_aload_n X 2 rfl dX8_rows_49 ?_
                  refine g_iload_n X 3 rfl dX8_rows_50 ?_
                  refine g_dup2 X rfl rfl dX8_rows_51 ?_
                  refine g_ialdNX X (N := 21) (k) rfl (by omega) (by decide) (gPs (by decide)) rfl dX8_rows_52 ?_
                  refine gG_top (sumI (cRowF w.2.1 k) i) (hq2) ?_
                  refine g_aload_n X 0 rfl dX8_rows_53 ?_
                  refine gg_X8_signal X ⟨by decide, by decide⟩ fX8_9 dX8_rows_54 ?_
                  refine g_iload X 4 rfl dX8_rows_57 ?_
                  refine g_ialdN X (i) rfl (by omega) (by decide) ⟨by decide, by decide⟩ rfl dX8_rows_59 ?_
                  refine gG_top (nI (w.2.1.2 i)) ((hM1.m29 hq4).2.1.2 i (by omega)) ?_
                  refine g_callS X hR (As := [.int (nI (w.2.1.2 i))]) (rest := [.int (sumI (cRowF w.2.1 k) i), .int (nI k), .ref ((gBs B a9 21).2.1 29 0 0)]) mX8_length lX8_44 (k_mlen hI Vq (w.2.1.2 i) hs31) rfl rfl (Nat.le_of_ble_eq_true rfl) ⟨Nat.le_of_ble_eq_true rfl, Nat.le_of_ble_eq_true rfl, Nat.le_of_ble_eq_true rfl, Nat.le_of_ble_eq_true rfl⟩ dX8_rows_60 (fun r12 V13 hz_14 => ?_)
                  refine gG_ret hz_14.1 hz_14.2 ?_
                  refine gG_st [.int (nI (nLen (w.2.1.2 i))), .int (sumI (cRowF w.2.1 k) i), .int (nI k), .ref ((gBs B a9 21).2.1 29 0 0)] rfl ?_
                  refine g_iload_n X 3 rfl dX8_rows_63 ?_
                  by_cases hle : nLen (w.2.1.2 i) ≤ k
                  · skip
                    refine g_icmp_le X 71 (by decide) dX8_rows_64 (fun c15 => ?_) (fun c15 => ?_)
                    · refine g_aload_n X 2 rfl dX8_rows_71 ?_
                      refine g_iload_n X 3 rfl dX8_rows_72 ?_
                      refine g_aload_n X 0 rfl dX8_rows_73 ?_
                      refine gg_X8_signal X ⟨by decide, by decide⟩ fX8_9 dX8_rows_74 ?_
                      refine g_iload X 4 rfl dX8_rows_77 ?_
                      refine g_ialdN X (i) rfl (by omega) (by decide) ⟨by decide, by decide⟩ rfl dX8_rows_79 ?_
                      refine gG_top (nI (w.2.1.2 i)) ((hM1.m29 hq4).2.1.2 i (by omega)) ?_
                      refine g_callS X hR (As := [.int (nI (w.2.1.2 i))]) (rest := [.int (nI k), .ref ((gBs B a9 21).2.1 29 0 0), .int (sumI (cRowF w.2.1 k) i), .int (nI k), .ref ((gBs B a9 21).2.1 29 0 0)]) mX8_length lX8_44 (k_mlen hI Vq (w.2.1.2 i) hs31) rfl rfl (Nat.le_of_ble_eq_true rfl) ⟨Nat.le_of_ble_eq_true rfl, Nat.le_of_ble_eq_true rfl, Nat.le_of_ble_eq_true rfl, Nat.le_of_ble_eq_true rfl⟩ dX8_rows_80 (fun r16 V17 hz_18 => ?_)
                      refine gG_ret hz_18.1 hz_18.2 ?_
                      refine gG_st [.int (nI (nLen (w.2.1.2 i))), .int (nI k), .ref ((gBs B a9 21).2.1 29 0 0), .int (sumI (cRowF w.2.1 k) i), .int (nI k), .ref ((gBs B a9 21).2.1 29 0 0)] rfl ?_
                      refine g_isub X dX8_rows_83 ?_
                      refine gG_top (nI (k - nLen (w.2.1.2 i))) (pk_sub hle) ?_
                      refine g_ialdNX X (N := 21) ((k - nLen (w.2.1.2 i))) rfl (by omega) (by decide) (gPs (by decide)) rfl dX8_rows_84 ?_
                      refine gG_top (cRows w.2.1 (k - nLen (w.2.1.2 i))) (hq1 _ (by omega)) ?_
                      refine g_iadd X dX8_rows_85 ?_
                      refine gG_top (sumI (cRowF w.2.1 k) (i + 1)) (congrArg (sumI (cRowF w.2.1 k) i + ·) (show cRows w.2.1 (k - nLen (w.2.1.2 i)) = cRowF w.2.1 k i from (if_pos hle).symm)) ?_
                      refine g_iastNX X (N := 21) (k) rfl (by omega) (by decide) (gPs (by decide)) (fun _ => rfl) dX8_rows_86 ?_
                      refine gG_nm (fun V19 hV19 => ?_)
                      have mV19 : m29 V1 V19 := by rw [hV19]; exact hq4.up
                      refine g_iinc X 4 rfl (nI (i + 1)) (iinc_1 _) dX8_rows_87 [(4, .int (nI (i + 1))), (0, .ref ((gBs B a9 21).2.1 20 0 0)), (1, .int (nI j)), (2, .ref ((gBs B a9 21).2.1 29 0 0)), (3, .int (nI k))] rfl (gnl_lt hnL (by decide)) ?_
                      refine g_goto X 40 (by decide) dX8_rows_90 ?_
                      refine gG_L [1, 2, 3, 4, 0] (L' := [(0, .ref ((gBs B a9 21).2.1 20 0 0)), (1, .int (nI j)), (2, .ref ((gBs B a9 21).2.1 29 0 0)), (3, .int (nI k)), (4, .int (nI (i + 1)))]) rfl ?_
                      refine ih (i + 1) V19 (by omega) (fun x hx => by rw [hV19, gup_ne (by omega)]; exact hq1 x hx) (by rw [hV19, gup_eq]) (fun x hx => by rw [hV19, gup_ne (by omega)]; exact hq3 x hx) mV19
                    · first | exact absurd (nI_le (by omega) (by omega)) c15 | exact absurd c15 (nI_le (by omega) (by omega))
                  · skip
                    refine g_icmp_le X 71 (by decide) dX8_rows_64 (fun c20 => ?_) (fun c20 => ?_)
                    · first | exact absurd (nI_ge (by omega) (by omega)) c20 | exact absurd c20 (nI_ge (by omega) (by omega))
                    · refine g_iconst X 0 (by decide) dX8_rows_67 ?_
                      refine g_goto X 85 (by decide) dX8_rows_68 ?_
                      refine g_iadd X dX8_rows_85 ?_
                      refine gG_top (sumI (cRowF w.2.1 k) (i + 1)) (congrArg (sumI (cRowF w.2.1 k) i + ·) (show (0 : Int32) = cRowF w.2.1 k i from (if_neg hle).symm)) ?_
                      refine g_iastNX X (N := 21) (k) rfl (by omega) (by decide) (gPs (by decide)) (fun _ => rfl) dX8_rows_86 ?_
                      refine gG_nm (fun V21 hV21 => ?_)
                      have mV21 : m29 V1 V21 := by rw [hV21]; exact hq4.up
                      refine g_iinc X 4 rfl (nI (i + 1)) (iinc_1 _) dX8_rows_87 [(4, .int (nI (i + 1))), (0, .ref ((gBs B a9 21).2.1 20 0 0)), (1, .int (nI j)), (2, .ref ((gBs B a9 21).2.1 29 0 0)), (3, .int (nI k))] rfl (gnl_lt hnL (by decide)) ?_
                      refine g_goto X 40 (by decide) dX8_rows_90 ?_
                      refine gG_L [1, 2, 3, 4, 0] (L' := [(0, .ref ((gBs B a9 21).2.1 20 0 0)), (1, .int (nI j)), (2, .ref ((gBs B a9 21).2.1 29 0 0)), (3, .int (nI k)), (4, .int (nI (i + 1)))]) rfl ?_
                      refine ih (i + 1) V21 (by omega) (fun x hx => by rw [hV21, gup_ne (by omega)]; exact hq1 x hx) (by rw [hV21, gup_eq]) (fun x hx => by rw [hV21, gup_ne (by omega)]; exact hq3 x hx) mV21
            exact loop2 w.2.1.1 0 Vp (by omega) hT (by rw [hz k (Nat.le_refl _)]; rfl) (fun x hx => hz x (by omega)) hp
      exact loop j 1 V7 (by omega) (Nat.le_refl _) (fun x hx => by rw [show x = 0 by omega, hV7, gup_eq]; rfl) (fun x hx => by rw [hV7, gup_ne (by omega), hV6]; exact gz_29 _ _ _ _) mV7
    ·  exact absurd c5 (by decide)
  · refine gG_top 0 (if_neg (hP)) ?_
    refine g_if_ne X 21 (by decide) dX8_rows_12 (fun c22 => ?_) (fun c22 => ?_)
    ·  exact absurd c22 (by decide)
    · refine g_aload_n X 0 rfl dX8_rows_15 ?_
      refine g_iconst X 1 (by decide) dX8_rows_16 ?_
      refine g_callV X hR (rest := []) mX8_no lX8_59 (k_no hI V1 1 ) rfl rfl (Nat.le_of_ble_eq_true rfl) ⟨by decide, by decide⟩ rfl rfl rfl ⟨Nat.le_of_ble_eq_true rfl, Nat.le_of_ble_eq_true rfl, Nat.le_of_ble_eq_true rfl, Nat.le_of_ble_eq_true rfl⟩ dX8_rows_17 (fun r23 V24 hz_25 => ?_)
      refine gG_rv hz_25.1 ?_
      have hV24 := hz_25.2
      refine gG_st [.int 0] rfl ?_
      refine g_widen (1, 21) (by first | decide | omega) (by first | decide | omega) ?_
      refine g_iret X F ?_ rfl dX8_rows_20
      rw [show oRows w x = (1, 0, w) from if_neg hP]
      exact ⟨rfl, by rw [hV24, gup_eq]; rfl, by rw [hV24]; exact hM1.thr _, by rw [hV24]; exact hm1.up (by decide) (by decide)⟩

