/-! the reference: a state becomes another one -/
theorem AbsM.copyTo {V V' : gMem} {k k2 : Nat} {S : gSt} (h : AbsM V k S) (hw : WF S) (h23 : ∀ j, j < 3 → V' 23 k2 0 j = V 23 k 0 j) (h24 : ∀ j, j < 160 → V' 24 k2 0 j = V 24 k 0 j) (h25 : ∀ j, j < 30 → V' 25 k2 0 j = V 25 k 0 j) (h26 : ∀ j, j < 32 → V' 26 k2 0 j = V 26 k 0 j) (h27 : ∀ j, j < 10 → V' 27 k2 0 j = V 27 k 0 j) (h20 : V' 20 0 0 = V 20 0 0) : AbsM V' k2 S := by
  obtain ⟨a, b, c, d, x, y⟩ := h
  have hN := hw.1.2.2.2.2.2
  have hpl := hw.1.2.1
  refine ⟨?_, fun i hi f hf => ?_, ⟨fun i hi h8 => ?_, fun p hp hn => ?_⟩, fun e he => ?_, fun e he => ?_, ?_⟩
  · rw [h23 0 (by decide), h23 1 (by decide), h23 2 (by decide)]; exact a
  · rw [h24 _ (by omega)]; exact b i hi f hf
  · have := hw.pos (hw.on hi h8)
    rw [h25 _ (by omega)]; exact c.1 i hi h8
  · rw [h25 _ hp]; exact c.2 p hp hn
  · have q := d e he
    have q2 := q.2.1
    exact ⟨by rw [h27 _ (by omega)]; exact q.1, q.2.1, fun j hj => by rw [h26 _ (by omega)]; exact q.2.2 j hj⟩
  · rw [h27 _ (by omega), h27 _ (by omega), h27 _ (by omega), h27 _ (by omega)]; exact x e he
  · unfold NumM
    rw [h20]; exact y
theorem AbsM.other {V V' : gMem} {k k2 : Nat} {S : gSt} (h : AbsM V k S) (hm : stmod V V' k2) (hne : k ≠ k2) : AbsM V' k S := by
  have e : ∀ K, V' K k 0 = V K k 0 := fun K => hm K k 0 (fun q => hne q.2.2)
  obtain ⟨a, b, c, d, x, y⟩ := h
  refine ⟨by rw [e]; exact a, fun i hi f hf => by rw [e]; exact b i hi f hf, ⟨fun i hi h8 => by rw [e]; exact c.1 i hi h8, fun p hp hn => by rw [e]; exact c.2 p hp hn⟩, fun r hr => ?_, fun r hr => by rw [e]; exact x r hr, ?_⟩
  · have q := d r hr
    exact ⟨by rw [e]; exact q.1, q.2.1, fun j hj => by rw [e]; exact q.2.2 j hj⟩
  · unfold NumM
    rw [hm 20 0 0 (by simp)]; exact y
theorem stmod.set {V V1 : gMem} {K k : Nat} {f : Nat → Int32} (h : stmod V V1 k) (hK : 23 ≤ K) (hK2 : K ≤ 27) : stmod V (gset V1 K k 0 f) k := fun K' b' i' hn => (gset_ne (fun q => hn ⟨by omega, by omega, q.2.1⟩)).trans (h K' b' i' hn)

abbrev rmX7_become : Room := { frames := 2, cells := 0, slots := 0, locals := 62 }
set_option maxRecDepth 20000 in
theorem k_become {l : Launch} {B : gB} (hI : gI B) (V : gMem) (k : Nat) (k2 : Nat) (S : gSt) (hk : k < 2) (hk2 : k2 < 2) (hne : k ≠ k2) (hA : AbsM V k S) (hw : WF S) : gM l B yX7_become cX7_become 2 none rmX7_become [.ref (B.2.1 23 k2 0), .ref (B.2.1 23 k 0)] V (fun v V' => v = none ∧ AbsM V' k2 S ∧ stmod V V' k2) := by
  refine gM_of (own := RX7) (L := [(0, .ref (B.2.1 23 k2 0)), (1, .ref (B.2.1 23 k 0))]) (by decide +kernel) rfl hI (Nat.le_of_ble_eq_true rfl) rfl ?_
  intro Z hnL hR X F
  refine g_aload_n X 0 rfl dX7_become_0 ?_
  refine g_aload_n X 1 rfl dX7_become_1 ?_
  refine gg_X7_tick X (gP_23 (by first | assumption | decide | omega)) fX7_34 dX7_become_2 ?_
  refine gp_X7_tick X (gP_23 (by first | assumption | decide | omega)) fX7_34 dX7_become_5 ?_
  refine gG_nm (fun V1 hV1 => ?_)
  have stV1 : stmod V V1 k2 := by rw [hV1]; exact stmod.rf.up (by decide) (by decide)
  refine g_aload_n X 0 rfl dX7_become_8 ?_
  refine g_aload_n X 1 rfl dX7_become_9 ?_
  refine gg_X7_open X (gP_23 (by first | assumption | decide | omega)) fX7_38 dX7_become_10 ?_
  refine gp_X7_open X (gP_23 (by first | assumption | decide | omega)) fX7_38 dX7_become_13 ?_
  refine gG_nm (fun V2 hV2 => ?_)
  have stV2 : stmod V V2 k2 := by rw [hV2]; exact stV1.up (by decide) (by decide)
  refine g_aload_n X 0 rfl dX7_become_16 ?_
  refine g_aload_n X 1 rfl dX7_become_17 ?_
  refine gg_X7_carts X (gP_23 (by first | assumption | decide | omega)) fX7_41 dX7_become_18 ?_
  refine gp_X7_carts X (gP_23 (by first | assumption | decide | omega)) fX7_41 dX7_become_21 ?_
  refine gG_nm (fun V3 hV3 => ?_)
  have stV3 : stmod V V3 k2 := by rw [hV3]; exact stV2.up (by decide) (by decide)
  refine g_aload_n X 0 rfl dX7_become_24 ?_
  refine g_aload_n X 1 rfl dX7_become_25 ?_
  refine gg_X7_of X (gP_23 (by first | assumption | decide | omega)) fX7_15 dX7_become_26 ?_
  refine g_aload_n X 0 rfl dX7_become_29 ?_
  refine gg_X7_of X (gP_23 (by first | assumption | decide | omega)) fX7_15 dX7_become_30 ?_
  refine g_callV X hR (rest := []) mX7_copy lX7_44 (k_mcopy hI V3 24 k k2 k2 160 (by first | assumption | decide | omega) (by first | assumption | decide | omega) (by first | assumption | decide | omega) (by decide) (gP_24 hk) (gP_24 hk2) (fun _ _ => rfl)) rfl rfl (Nat.le_of_ble_eq_true rfl) (gP_23 (by first | assumption | decide | omega)) rfl rfl rfl ⟨Nat.le_of_ble_eq_true rfl, Nat.le_of_ble_eq_true rfl, Nat.le_of_ble_eq_true rfl, Nat.le_of_ble_eq_true rfl⟩ dX7_become_33 (fun r4 V5 hz_6 => ?_)
  refine gG_rv hz_6.1 ?_
  obtain ⟨-, FV5, hFV5, hV5⟩ := hz_6
  refine gG_st [] rfl ?_
  have stV5 : stmod V V5 k2 := by rw [hV5]; exact stV3.set (by decide) (by decide)
  refine g_aload_n X 0 rfl dX7_become_36 ?_
  refine g_aload_n X 1 rfl dX7_become_37 ?_
  refine gg_X7_at X (gP_23 (by first | assumption | decide | omega)) fX7_19 dX7_become_38 ?_
  refine g_aload_n X 0 rfl dX7_become_41 ?_
  refine gg_X7_at X (gP_23 (by first | assumption | decide | omega)) fX7_19 dX7_become_42 ?_
  refine g_callV X hR (rest := []) mX7_copy lX7_44 (k_mcopy hI V5 25 k k2 k2 30 (by first | assumption | decide | omega) (by first | assumption | decide | omega) (by first | assumption | decide | omega) (by decide) (gP_25 hk) (gP_25 hk2) (fun _ _ => rfl)) rfl rfl (Nat.le_of_ble_eq_true rfl) (gP_23 (by first | assumption | decide | omega)) rfl rfl rfl ⟨Nat.le_of_ble_eq_true rfl, Nat.le_of_ble_eq_true rfl, Nat.le_of_ble_eq_true rfl, Nat.le_of_ble_eq_true rfl⟩ dX7_become_45 (fun r7 V8 hz_9 => ?_)
  refine gG_rv hz_9.1 ?_
  obtain ⟨-, FV8, hFV8, hV8⟩ := hz_9
  refine gG_st [] rfl ?_
  have stV8 : stmod V V8 k2 := by rw [hV8]; exact stV5.set (by decide) (by decide)
  refine g_aload_n X 0 rfl dX7_become_48 ?_
  refine g_aload_n X 1 rfl dX7_become_49 ?_
  refine gg_X7_row X (gP_23 (by first | assumption | decide | omega)) fX7_22 dX7_become_50 ?_
  refine g_aload_n X 0 rfl dX7_become_53 ?_
  refine gg_X7_row X (gP_23 (by first | assumption | decide | omega)) fX7_22 dX7_become_54 ?_
  refine g_callV X hR (rest := []) mX7_copy lX7_44 (k_mcopy hI V8 26 k k2 k2 32 (by first | assumption | decide | omega) (by first | assumption | decide | omega) (by first | assumption | decide | omega) (by decide) (gP_26 hk) (gP_26 hk2) (fun _ _ => rfl)) rfl rfl (Nat.le_of_ble_eq_true rfl) (gP_23 (by first | assumption | decide | omega)) rfl rfl rfl ⟨Nat.le_of_ble_eq_true rfl, Nat.le_of_ble_eq_true rfl, Nat.le_of_ble_eq_true rfl, Nat.le_of_ble_eq_true rfl⟩ dX7_become_57 (fun r10 V11 hz_12 => ?_)
  refine gG_rv hz_12.1 ?_
  obtain ⟨-, FV11, hFV11, hV11⟩ := hz_12
  refine gG_st [] rfl ?_
  have stV11 : stmod V V11 k2 := by rw [hV11]; exact stV8.set (by decide) (by decide)
  refine g_aload_n X 0 rfl dX7_become_60 ?_
  refine g_aload_n X 1 rfl dX7_become_61 ?_
  refine gg_X7_box X (gP_23 (by first | assumption | decide | omega)) fX7_25 dX7_become_62 ?_
  refine g_aload_n X 0 rfl dX7_become_65 ?_
  refine gg_X7_box X (gP_23 (by first | assumption | decide | omega)) fX7_25 dX7_become_66 ?_
  refine g_callV X hR (rest := []) mX7_copy lX7_44 (k_mcopy hI V11 27 k k2 k2 10 (by first | assumption | decide | omega) (by first | assumption | decide | omega) (by first | assumption | decide | omega) (by decide) (gP_27 hk) (gP_27 hk2) (fun _ _ => rfl)) rfl rfl (Nat.le_of_ble_eq_true rfl) (gP_23 (by first | assumption | decide | omega)) rfl rfl rfl ⟨Nat.le_of_ble_eq_true rfl, Nat.le_of_ble_eq_true rfl, Nat.le_of_ble_eq_true rfl, Nat.le_of_ble_eq_true rfl⟩ dX7_become_69 (fun r13 V14 hz_15 => ?_)
  refine gG_rv hz_15.1 ?_
  obtain ⟨-, FV14, hFV14, hV14⟩ := hz_15
  refine gG_st [] rfl ?_
  have stV14 : stmod V V14 k2 := by rw [hV14]; exact stV11.set (by decide) (by decide)
  refine g_vret X F ?_ rfl dX7_become_72
  refine ⟨rfl, hA.copyTo hw (fun j hj => ?_) (fun j hj => ?_) (fun j hj => ?_) (fun j hj => ?_) (fun j hj => ?_) (stV14 20 0 0 (by simp)), stV14⟩
  · rw [hV14, gset_ne (by simp), hV11, gset_ne (by simp), hV8, gset_ne (by simp), hV5, gset_ne (by simp), hV3]
    rcases (show j = 0 ∨ j = 1 ∨ j = 2 by omega) with rfl | rfl | rfl
    · rw [gup_ne (by omega), hV2, gup_ne (by omega), hV1, gup_eq]
    · rw [gup_ne (by omega), hV2, gup_eq, stV1 23 k 0 (fun q => hne q.2.2)]
    · rw [gup_eq, stV2 23 k 0 (fun q => hne q.2.2)]
  · rw [hV14, gset_ne (by simp), hV11, gset_ne (by simp), hV8, gset_ne (by simp), hV5, gset_eq, hFV5 j hj, stV3 24 k 0 (fun q => hne q.2.2)]
  · rw [hV14, gset_ne (by simp), hV11, gset_ne (by simp), hV8, gset_eq, hFV8 j hj, stV5 25 k 0 (fun q => hne q.2.2)]
  · rw [hV14, gset_ne (by simp), hV11, gset_eq, hFV11 j hj, stV8 26 k 0 (fun q => hne q.2.2)]
  · rw [hV14, gset_eq, hFV14 j hj, stV11 27 k 0 (fun q => hne q.2.2)]

