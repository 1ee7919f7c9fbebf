/-! THE LAW'S LOOP, B: what is foreseen, and the tick -/
theorem rg_lo {x : Int32} {n : Nat} (h : x = -1 ∨ ∃ m, m ≤ n ∧ x = nI m) (hn : n < 2 ^ 31) : ¬ x < -1 := by
  rcases h with q | ⟨m, hm, q⟩
  · rw [q]; decide
  · rw [q]; exact fun z => nI_pos (n := m) (by omega) (Int32.lt_trans z (by decide))
theorem rg_hi {x : Int32} {n : Nat} (h : x = -1 ∨ ∃ m, m ≤ n ∧ x = nI m) (hn : n < 2 ^ 31) : ¬ nI n < x := by
  rcases h with q | ⟨m, hm, q⟩
  · rw [q]; exact fun z => nI_pos hn (Int32.lt_trans z (by decide))
  · rw [q]; exact nI_nlt hm hn
theorem kp60 (S : gSt) : (kpL S 60).2 = -1 ∨ ∃ m, m ≤ 59 ∧ (kpL S 60).2 = nI m := (kp_rng S 60).elim Or.inl (fun ⟨j, h1, h2⟩ => Or.inr ⟨j, by omega, h2⟩)
set_option maxRecDepth 20000 in
set_option maxHeartbeats 2000000 in
theorem law_B {Z : gZ} {B : gB} {b L : Nat} {xs : Nat → Int32} (X : gX Z B cL_law RL) (SC : gSC Z B b L xs) (hR : gRm Z = room_1) (hnL : gnL Z = 33) (hown : B.2.2.2.2 = 3) (hLb : L ≤ 260) {nc ns : Nat} (hnc : nc ≤ 600074) (hns : ns ≤ 7301550) {V : gMem} {w : gWd} {a : Nat → Nat → Int32} {c0 : Nat → Nat} {tk al t N P Q : Nat} (hL : gLS V w a) (hw : wOk w) (hN : w.1.1 6 = N) (hP : w.1.1 2 = P) (hQ : w.1.1 3 = Q) (ht : t < 40) (h1N : 1 ≤ N) {x : Int32}
    (cont : ∀ (V' : gMem) (w2 : gWd), gLS V' w2 a → wOk w2 → w2.1 = (sTick w.1).1 → gG Z B (nc, ns) V' 497 [(0, .ref b), (1, .ref (B.2.1 0 0 0)), (2, .int (nI N)), (3, .int (nI P)), (4, .int (nI Q)), (5, .ref (B.2.1 29 0 0)), (6, .int (nI al)), (7, .ref (B.2.1 29 1 0)), (8, .ref (B.2.1 29 2 0)), (9, .int (nI tk)), (10, .int (nI t))] []) : gG Z B (nc, ns) V 286 [(0, .ref b), (1, .ref (B.2.1 0 0 0)), (2, .int (nI N)), (3, .int (nI P)), (4, .int (nI Q)), (5, .ref (B.2.1 29 0 0)), (6, .int (nI al)), (7, .ref (B.2.1 29 1 0)), (8, .ref (B.2.1 29 2 0)), (9, .int (nI tk)), (10, .int (nI t)), (11, .int x)] [] := by
  have hI := gX_I X
  have h16 := hw.n16
  refine g_aload_n X 1 rfl dL_law_286 ?_
  refine g_callV X hR (rest := []) mX6_digest lL_59 (c_digest hI V w a hL hw) rfl rfl (Nat.le_of_ble_eq_true rfl) ⟨by decide, by decide⟩ rfl rfl rfl ⟨Nat.le_of_ble_eq_true rfl, Nat.le_of_ble_eq_true rfl, hnc, hns⟩ dL_law_287 (fun r1 V2 hz_3 => ?_)
  refine gG_rv hz_3.1 ?_
  have hL4 := hz_3.2
  refine gG_n (nc, ns) rfl ?_
  refine gG_st [.long (oDig w)] rfl ?_
  refine g_lstore X dL_law_290 [(13, .long (oDig w)), (0, .ref b), (1, .ref (B.2.1 0 0 0)), (2, .int (nI N)), (3, .int (nI P)), (4, .int (nI Q)), (5, .ref (B.2.1 29 0 0)), (6, .int (nI al)), (7, .ref (B.2.1 29 1 0)), (8, .ref (B.2.1 29 2 0)), (9, .int (nI tk)), (10, .int (nI t)), (11, .int x)] rfl (gnl_lt hnL (by decide)) ?_
  refine g_aload_n X 2 rfl dL_law_292 ?_
  refine g_iconst X (nI 1) (by decide) dL_law_293 ?_
  refine g_iconst X (nI 0) (by decide) dL_law_294 ?_
  refine g_callV X hR (rest := []) mX6_foresee lL_63 (c_foresee hI V2 w a 1 0 hL4 hw (by first | assumption | decide | omega) (by first | assumption | decide | omega) (by first | assumption | decide | omega)) rfl rfl (Nat.le_of_ble_eq_true rfl) ⟨by decide, by decide⟩ rfl rfl rfl ⟨Nat.le_of_ble_eq_true rfl, Nat.le_of_ble_eq_true rfl, hnc, hns⟩ dL_law_295 (fun r5 V6 hz_7 => ?_)
  refine gG_rv hz_7.1 ?_
  have hL8 := hz_7.2
  refine gG_n (nc, ns) rfl ?_
  refine gG_st [.int (nI (sTick w.1).2)] rfl ?_
  refine g_istore X dL_law_298 [(15, .int (nI (sTick w.1).2)), (13, .long (oDig w)), (0, .ref b), (1, .ref (B.2.1 0 0 0)), (2, .int (nI N)), (3, .int (nI P)), (4, .int (nI Q)), (5, .ref (B.2.1 29 0 0)), (6, .int (nI al)), (7, .ref (B.2.1 29 1 0)), (8, .ref (B.2.1 29 2 0)), (9, .int (nI tk)), (10, .int (nI t)), (11, .int x)] rfl (gnl_lt hnL (by decide)) ?_
  refine g_aload_n X 3 rfl dL_law_300 ?_
  refine g_iconst X (nI 1) (by decide) dL_law_301 ?_
  refine g_iconst X (nI 1) (by decide) dL_law_302 ?_
  refine g_callV X hR (rest := []) mX6_foresee lL_63 (c_foresee hI V6 w a 1 1 hL8 hw (by first | assumption | decide | omega) (by first | assumption | decide | omega) (by first | assumption | decide | omega)) rfl rfl (Nat.le_of_ble_eq_true rfl) ⟨by decide, by decide⟩ rfl rfl rfl ⟨Nat.le_of_ble_eq_true rfl, Nat.le_of_ble_eq_true rfl, hnc, hns⟩ dL_law_303 (fun r9 V10 hz_11 => ?_)
  refine gG_rv hz_11.1 ?_
  have hL12 := hz_11.2
  refine gG_n (nc, ns) rfl ?_
  refine gG_st [.int (nI ((sTick w.1).1.2.2.1 0 1 + (sTick w.1).1.2.2.1 1 1) - nI (w.1.2.2.1 0 1 + w.1.2.2.1 1 1))] rfl ?_
  refine g_istore X dL_law_306 [(16, .int (nI ((sTick w.1).1.2.2.1 0 1 + (sTick w.1).1.2.2.1 1 1) - nI (w.1.2.2.1 0 1 + w.1.2.2.1 1 1))), (15, .int (nI (sTick w.1).2)), (13, .long (oDig w)), (0, .ref b), (1, .ref (B.2.1 0 0 0)), (2, .int (nI N)), (3, .int (nI P)), (4, .int (nI Q)), (5, .ref (B.2.1 29 0 0)), (6, .int (nI al)), (7, .ref (B.2.1 29 1 0)), (8, .ref (B.2.1 29 2 0)), (9, .int (nI tk)), (10, .int (nI t)), (11, .int x)] rfl (gnl_lt hnL (by decide)) ?_
  refine g_iload X 13 rfl dL_law_308 ?_
  refine g_bipush X (nI 8) (by decide) dL_law_310 ?_
  refine g_irem X (by decide) dL_law_312 ?_
  refine gG_top (nI (t % 8)) (pk_rem (d := 8) (by omega) (by decide) (by decide)) ?_
  have j324 : ∀ (Vk : gMem) (kv : Int32), (kv = -1 ∨ ∃ m, m ≤ 59 ∧ kv = nI m) → gLS Vk w a → gG Z B (nc, ns) Vk 324 [(16, .int (nI ((sTick w.1).1.2.2.1 0 1 + (sTick w.1).1.2.2.1 1 1) - nI (w.1.2.2.1 0 1 + w.1.2.2.1 1 1))), (15, .int (nI (sTick w.1).2)), (13, .long (oDig w)), (0, .ref b), (1, .ref (B.2.1 0 0 0)), (2, .int (nI N)), (3, .int (nI P)), (4, .int (nI Q)), (5, .ref (B.2.1 29 0 0)), (6, .int (nI al)), (7, .ref (B.2.1 29 1 0)), (8, .ref (B.2.1 29 2 0)), (9, .int (nI tk)), (10, .int (nI t)), (11, .int x)] [.int kv] := by
    intro Vk kv hkv hLk
    refine g_istore X dL_law_324 [(17, .int kv), (16, .int (nI ((sTick w.1).1.2.2.1 0 1 + (sTick w.1).1.2.2.1 1 1) - nI (w.1.2.2.1 0 1 + w.1.2.2.1 1 1))), (15, .int (nI (sTick w.1).2)), (13, .long (oDig w)), (0, .ref b), (1, .ref (B.2.1 0 0 0)), (2, .int (nI N)), (3, .int (nI P)), (4, .int (nI Q)), (5, .ref (B.2.1 29 0 0)), (6, .int (nI al)), (7, .ref (B.2.1 29 1 0)), (8, .ref (B.2.1 29 2 0)), (9, .int (nI tk)), (10, .int (nI t)), (11, .int x)] rfl (gnl_lt hnL (by decide)) ?_
    refine g_iload X 15 rfl dL_law_326 ?_
    refine g_iconst X (nI 5) (by decide) dL_law_328 ?_
    refine g_ishr X dL_law_329 ?_
    refine g_iload_n X 6 rfl dL_law_330 ?_
    refine g_callS X hR (As := [.int (x >>> ((nI 5) &&& 31)), .int (nI N)]) (rest := []) mL_below lL_18 (k_below hI Vk (x >>> ((nI 5) &&& 31)) N (by first | assumption | decide | omega) (by first | assumption | decide | omega)) rfl rfl (Nat.le_of_ble_eq_true rfl) ⟨Nat.le_of_ble_eq_true rfl, Nat.le_of_ble_eq_true rfl, hnc, hns⟩ dL_law_331 (fun r13 V14 hz_15 => ?_)
    obtain ⟨⟨j16, hj16, qj16⟩, zj16⟩ := hz_15
    refine gG_ret qj16 zj16 ?_
    refine gG_n (nc, ns) rfl ?_
    refine gG_st [.int (nI j16)] rfl ?_
    refine g_istore X dL_law_334 [(18, .int (nI j16)), (17, .int kv), (16, .int (nI ((sTick w.1).1.2.2.1 0 1 + (sTick w.1).1.2.2.1 1 1) - nI (w.1.2.2.1 0 1 + w.1.2.2.1 1 1))), (15, .int (nI (sTick w.1).2)), (13, .long (oDig w)), (0, .ref b), (1, .ref (B.2.1 0 0 0)), (2, .int (nI N)), (3, .int (nI P)), (4, .int (nI Q)), (5, .ref (B.2.1 29 0 0)), (6, .int (nI al)), (7, .ref (B.2.1 29 1 0)), (8, .ref (B.2.1 29 2 0)), (9, .int (nI tk)), (10, .int (nI t)), (11, .int x)] rfl (gnl_lt hnL (by decide)) ?_
    refine g_aload_n X 6 rfl dL_law_336 ?_
    refine g_iload X 0 rfl dL_law_337 ?_
    refine g_callV X hR (rest := []) mX6_over lL_69 (c_over hI Vk w a j16 hLk hw (by first | assumption | decide | omega)) rfl rfl (Nat.le_of_ble_eq_true rfl) ⟨by decide, by decide⟩ rfl rfl rfl ⟨Nat.le_of_ble_eq_true rfl, Nat.le_of_ble_eq_true rfl, hnc, hns⟩ dL_law_339 (fun r17 V18 hz_19 => ?_)
    refine gG_rv hz_19.1 ?_
    have hL20 := hz_19.2
    refine gG_n (nc, ns) rfl ?_
    refine gG_st [.int (ovF j16 201 0 w.1)] rfl ?_
    have hov := ov_step hw.1 (i := j16) (by omega)
    have hor : ovF j16 201 0 w.1 = -1 ∨ ∃ m, m ≤ 200 ∧ ovF j16 201 0 w.1 = nI m := hov.elim Or.inl (fun ⟨m, q1, q2, _⟩ => Or.inr ⟨m, q1, q2⟩)
    refine g_istore X dL_law_342 [(19, .int (ovF j16 201 0 w.1)), (18, .int (nI j16)), (17, .int kv), (16, .int (nI ((sTick w.1).1.2.2.1 0 1 + (sTick w.1).1.2.2.1 1 1) - nI (w.1.2.2.1 0 1 + w.1.2.2.1 1 1))), (15, .int (nI (sTick w.1).2)), (13, .long (oDig w)), (0, .ref b), (1, .ref (B.2.1 0 0 0)), (2, .int (nI N)), (3, .int (nI P)), (4, .int (nI Q)), (5, .ref (B.2.1 29 0 0)), (6, .int (nI al)), (7, .ref (B.2.1 29 1 0)), (8, .ref (B.2.1 29 2 0)), (9, .int (nI tk)), (10, .int (nI t)), (11, .int x)] rfl (gnl_lt hnL (by decide)) ?_
    refine g_iload X 2 rfl dL_law_344 ?_
    refine g_iconst X ((-1)) (by decide) dL_law_346 ?_
    refine g_icmp_lt X 381 (by decide) dL_law_347 (fun c21 => ?_) (fun c21 => ?_)
    · first | exact absurd (rg_lo hkv (by decide)) c21 | exact absurd c21 (rg_lo hkv (by decide))
    · refine g_iload X 2 rfl dL_law_350 ?_
      refine g_bipush X (nI 59) (by decide) dL_law_352 ?_
      refine g_icmp_gt X 381 (by decide) dL_law_354 (fun c22 => ?_) (fun c22 => ?_)
      · first | exact absurd (rg_hi hkv (by decide)) c22 | exact absurd c22 (rg_hi hkv (by decide))
      · refine g_iload X 0 rfl dL_law_357 ?_
        refine g_iconst X ((-1)) (by decide) dL_law_359 ?_
        refine g_icmp_lt X 381 (by decide) dL_law_360 (fun c23 => ?_) (fun c23 => ?_)
        · first | exact absurd (rg_lo hor (by decide)) c23 | exact absurd c23 (rg_lo hor (by decide))
        · refine g_iload X 0 rfl dL_law_363 ?_
          refine g_sipush X (nI 200) (by decide) dL_law_365 ?_
          refine g_icmp_gt X 381 (by decide) dL_law_368 (fun c24 => ?_) (fun c24 => ?_)
          · first | exact absurd (rg_hi hor (by decide)) c24 | exact absurd c24 (rg_hi hor (by decide))
          · refine g_aload_n X 7 rfl dL_law_371 ?_
            refine g_callV X hR (rest := []) mX6_digest lL_59 (c_digest hI V18 w a hL20 hw) rfl rfl (Nat.le_of_ble_eq_true rfl) ⟨by decide, by decide⟩ rfl rfl rfl ⟨Nat.le_of_ble_eq_true rfl, Nat.le_of_ble_eq_true rfl, hnc, hns⟩ dL_law_372 (fun r25 V26 hz_27 => ?_)
            refine gG_rv hz_27.1 ?_
            have hL28 := hz_27.2
            refine gG_n (nc, ns) rfl ?_
            refine gG_st [.long (oDig w)] rfl ?_
            refine g_lload X 5 rfl dL_law_375 ?_
            refine g_lcmp X dL_law_377 ?_
            refine g_if_eq X 383 (by decide) dL_law_378 (fun c29 => ?_) (fun c29 => ?_)
            · refine g_aload_n X 7 rfl dL_law_383 ?_
              refine g_iconst X (nI 0) (by decide) dL_law_384 ?_
              refine g_iconst X (nI 0) (by decide) dL_law_385 ?_
              refine g_callV X hR (rest := []) mX6_box lL_53 (c_box hI V26 w a 0 0 hL28 hw (by first | assumption | decide | omega) (by first | assumption | decide | omega)) rfl rfl (Nat.le_of_ble_eq_true rfl) ⟨by decide, by decide⟩ rfl rfl rfl ⟨Nat.le_of_ble_eq_true rfl, Nat.le_of_ble_eq_true rfl, hnc, hns⟩ dL_law_386 (fun r30 V31 hz_32 => ?_)
              refine gG_rv hz_32.1 ?_
              have hL33 := hz_32.2
              refine gG_n (nc, ns) rfl ?_
              refine gG_st [.int (nI (w.1.2.2.1 0 1))] rfl ?_
              refine g_aload_n X 7 rfl dL_law_389 ?_
              refine g_iconst X (nI 1) (by decide) dL_law_390 ?_
              refine g_iconst X (nI 0) (by decide) dL_law_391 ?_
              refine g_callV X hR (rest := [.int (nI (w.1.2.2.1 0 1))]) mX6_box lL_53 (c_box hI V31 w a 1 0 hL33 hw (by first | assumption | decide | omega) (by first | assumption | decide | omega)) rfl rfl (Nat.le_of_ble_eq_true rfl) ⟨by decide, by decide⟩ rfl rfl rfl ⟨Nat.le_of_ble_eq_true rfl, Nat.le_of_ble_eq_true rfl, hnc, hns⟩ dL_law_392 (fun r34 V35 hz_36 => ?_)
              refine gG_rv hz_36.1 ?_
              have hL37 := hz_36.2
              refine gG_n (nc, ns) rfl ?_
              refine gG_st [.int (nI (w.1.2.2.1 1 1)), .int (nI (w.1.2.2.1 0 1))] rfl ?_
              refine g_iadd X dL_law_395 ?_
              refine gG_top (nI ((w.1.2.2.1 0 1) + (w.1.2.2.1 1 1))) (nI_add (w.1.2.2.1 0 1) (w.1.2.2.1 1 1)) ?_
              refine g_istore X dL_law_396 [(20, .int (nI ((w.1.2.2.1 0 1) + (w.1.2.2.1 1 1)))), (19, .int (ovF j16 201 0 w.1)), (18, .int (nI j16)), (17, .int kv), (16, .int (nI ((sTick w.1).1.2.2.1 0 1 + (sTick w.1).1.2.2.1 1 1) - nI (w.1.2.2.1 0 1 + w.1.2.2.1 1 1))), (15, .int (nI (sTick w.1).2)), (13, .long (oDig w)), (0, .ref b), (1, .ref (B.2.1 0 0 0)), (2, .int (nI N)), (3, .int (nI P)), (4, .int (nI Q)), (5, .ref (B.2.1 29 0 0)), (6, .int (nI al)), (7, .ref (B.2.1 29 1 0)), (8, .ref (B.2.1 29 2 0)), (9, .int (nI tk)), (10, .int (nI t)), (11, .int x)] rfl (gnl_lt hnL (by decide)) ?_
              refine g_aload_n X 8 rfl dL_law_398 ?_
              refine g_iconst X (nI 5) (by decide) dL_law_399 ?_
              refine g_callV X hR (rest := []) mX6_count lL_36 (c_count hI V35 w a 5 hL37 hw (by first | assumption | decide | omega)) rfl rfl (Nat.le_of_ble_eq_true rfl) ⟨by decide, by decide⟩ rfl rfl rfl ⟨Nat.le_of_ble_eq_true rfl, Nat.le_of_ble_eq_true rfl, hnc, hns⟩ dL_law_400 (fun r38 V39 hz_40 => ?_)
              refine gG_rv hz_40.1 ?_
              have hL41 := hz_40.2
              refine gG_n (nc, ns) rfl ?_
              refine gG_st [.int (nI (sCnt w.1 2))] rfl ?_
              refine g_istore X dL_law_403 [(21, .int (nI (sCnt w.1 2))), (20, .int (nI ((w.1.2.2.1 0 1) + (w.1.2.2.1 1 1)))), (19, .int (ovF j16 201 0 w.1)), (18, .int (nI j16)), (17, .int kv), (16, .int (nI ((sTick w.1).1.2.2.1 0 1 + (sTick w.1).1.2.2.1 1 1) - nI (w.1.2.2.1 0 1 + w.1.2.2.1 1 1))), (15, .int (nI (sTick w.1).2)), (13, .long (oDig w)), (0, .ref b), (1, .ref (B.2.1 0 0 0)), (2, .int (nI N)), (3, .int (nI P)), (4, .int (nI Q)), (5, .ref (B.2.1 29 0 0)), (6, .int (nI al)), (7, .ref (B.2.1 29 1 0)), (8, .ref (B.2.1 29 2 0)), (9, .int (nI tk)), (10, .int (nI t)), (11, .int x)] rfl (gnl_lt hnL (by decide)) ?_
              refine g_aload_n X 9 rfl dL_law_405 ?_
              refine g_iconst X (nI 1) (by decide) dL_law_406 ?_
              refine g_callV X hR (rest := []) mX6_pass lL_72 (c_pass1 hI V39 w a hL41 hw) rfl rfl (Nat.le_of_ble_eq_true rfl) ⟨by decide, by decide⟩ rfl rfl rfl ⟨Nat.le_of_ble_eq_true rfl, Nat.le_of_ble_eq_true rfl, hnc, hns⟩ dL_law_407 (fun r42 V43 hz_44 => ?_)
              refine gG_rv hz_44.1 ?_
              have hL45 := hz_44.2
              refine gG_n (nc, ns) rfl ?_
              obtain ⟨w46, ew46⟩ : ∃ y : gWd, y = ((sTick w.1).1, w.2) := ⟨_, rfl⟩
              rw [← ew46] at hL45
              have hw46 : wOk w46 := by rw [ew46]; exact ⟨hw.1.tick, hw.2⟩
              refine gG_st [.int (nI (sTick w.1).2)] rfl ?_
              have hN2 : w46.1.1 6 = N := by rw [ew46]; exact (sTick_6 hw.1).trans hN
              refine g_iload X 6 rfl dL_law_410 ?_
              refine g_icmp_ne X 461 (by decide) dL_law_412 (fun c47 => ?_) (fun c47 => ?_)
              · first | exact absurd (rfl) c47 | exact absurd c47 (rfl)
              · refine g_aload_n X 9 rfl dL_law_415 ?_
                refine g_iconst X (nI 5) (by decide) dL_law_416 ?_
                refine g_callV X hR (rest := []) mX6_count lL_36 (c_count hI V43 w46 a 5 hL45 hw46 (by first | assumption | decide | omega)) rfl rfl (Nat.le_of_ble_eq_true rfl) ⟨by decide, by decide⟩ rfl rfl rfl ⟨Nat.le_of_ble_eq_true rfl, Nat.le_of_ble_eq_true rfl, hnc, hns⟩ dL_law_417 (fun r48 V49 hz_50 => ?_)
                refine gG_rv hz_50.1 ?_
                have hL51 := hz_50.2
                refine gG_n (nc, ns) rfl ?_
                refine gG_st [.int (nI (sCnt w46.1 2))] rfl ?_
                refine g_iload X 0 rfl dL_law_420 ?_
                refine g_iload X 6 rfl dL_law_422 ?_
                refine g_iadd X dL_law_424 ?_
                refine gG_top (nI ((sCnt w.1 2) + (sTick w.1).2)) (nI_add (sCnt w.1 2) (sTick w.1).2) ?_
                refine g_icmp_ne X 461 (by decide) dL_law_425 (fun c52 => ?_) (fun c52 => ?_)
                · first | exact absurd (by rw [ew46]; exact congrArg nI (cnt_tick hw.1)) c52 | exact absurd c52 (by rw [ew46]; exact congrArg nI (cnt_tick hw.1))
                · refine g_iload X 6 rfl dL_law_428 ?_
                  refine g_if_lt X 461 (by decide) dL_law_430 (fun c53 => ?_) (fun c53 => ?_)
                  · first | exact absurd (nI_pos (by have := soon_le hw.1; omega)) c53 | exact absurd c53 (nI_pos (by have := soon_le hw.1; omega))
                  · refine g_iload X 6 rfl dL_law_433 ?_
                    refine g_bipush X (nI 16) (by decide) dL_law_435 ?_
                    refine g_icmp_gt X 461 (by decide) dL_law_437 (fun c54 => ?_) (fun c54 => ?_)
                    · first | exact absurd (nI_nlt (soon_le hw.1) (by decide)) c54 | exact absurd c54 (nI_nlt (soon_le hw.1) (by decide))
                    · refine g_aload_n X 9 rfl dL_law_440 ?_
                      refine g_iconst X (nI 0) (by decide) dL_law_441 ?_
                      refine g_iconst X (nI 0) (by decide) dL_law_442 ?_
                      refine g_callV X hR (rest := []) mX6_box lL_53 (c_box hI V49 w46 a 0 0 hL51 hw46 (by first | assumption | decide | omega) (by first | assumption | decide | omega)) rfl rfl (Nat.le_of_ble_eq_true rfl) ⟨by decide, by decide⟩ rfl rfl rfl ⟨Nat.le_of_ble_eq_true rfl, Nat.le_of_ble_eq_true rfl, hnc, hns⟩ dL_law_443 (fun r55 V56 hz_57 => ?_)
                      refine gG_rv hz_57.1 ?_
                      have hL58 := hz_57.2
                      refine gG_n (nc, ns) rfl ?_
                      refine gG_st [.int (nI (w46.1.2.2.1 0 1))] rfl ?_
                      refine g_aload_n X 9 rfl dL_law_446 ?_
                      refine g_iconst X (nI 1) (by decide) dL_law_447 ?_
                      refine g_iconst X (nI 0) (by decide) dL_law_448 ?_
                      refine g_callV X hR (rest := [.int (nI (w46.1.2.2.1 0 1))]) mX6_box lL_53 (c_box hI V56 w46 a 1 0 hL58 hw46 (by first | assumption | decide | omega) (by first | assumption | decide | omega)) rfl rfl (Nat.le_of_ble_eq_true rfl) ⟨by decide, by decide⟩ rfl rfl rfl ⟨Nat.le_of_ble_eq_true rfl, Nat.le_of_ble_eq_true rfl, hnc, hns⟩ dL_law_449 (fun r59 V60 hz_61 => ?_)
                      refine gG_rv hz_61.1 ?_
                      have hL62 := hz_61.2
                      refine gG_n (nc, ns) rfl ?_
                      refine gG_st [.int (nI (w46.1.2.2.1 1 1)), .int (nI (w46.1.2.2.1 0 1))] rfl ?_
                      refine g_iadd X dL_law_452 ?_
                      refine gG_top (nI ((w46.1.2.2.1 0 1) + (w46.1.2.2.1 1 1))) (nI_add (w46.1.2.2.1 0 1) (w46.1.2.2.1 1 1)) ?_
                      refine g_iload X 1 rfl dL_law_453 ?_
                      refine g_iload X 5 rfl dL_law_455 ?_
                      refine g_iadd X dL_law_457 ?_
                      refine g_icmp_eq X 463 (by decide) dL_law_458 (fun c63 => ?_) (fun c63 => ?_)
                      · rcases hov with hov | ⟨m, hm, hov, hov2⟩
                        · refine gG_Le [(21, .int (nI (sCnt w.1 2))), (20, .int (nI ((w.1.2.2.1 0 1) + (w.1.2.2.1 1 1)))), (19, .int ((-1))), (18, .int (nI j16)), (17, .int kv), (16, .int (nI ((sTick w.1).1.2.2.1 0 1 + (sTick w.1).1.2.2.1 1 1) - nI (w.1.2.2.1 0 1 + w.1.2.2.1 1 1))), (15, .int (nI (sTick w.1).2)), (13, .long (oDig w)), (0, .ref b), (1, .ref (B.2.1 0 0 0)), (2, .int (nI N)), (3, .int (nI P)), (4, .int (nI Q)), (5, .ref (B.2.1 29 0 0)), (6, .int (nI al)), (7, .ref (B.2.1 29 1 0)), (8, .ref (B.2.1 29 2 0)), (9, .int (nI tk)), (10, .int (nI t)), (11, .int x)] (by rw [hov]) ?_
                          refine g_iload X 2 rfl dL_law_463 ?_
                          refine g_if_le X 481 (by decide) dL_law_465 (fun c64 => ?_) (fun c64 => ?_)
                          · refine g_iload X 2 rfl dL_law_481 ?_
                            refine g_if_ne X 497 (by decide) dL_law_483 (fun c65 => ?_) (fun c65 => ?_)
                            · refine gG_L [8, 9, 10, 11, 12, 13, 14, 15, 16, 17, 18] (L' := [(0, .ref b), (1, .ref (B.2.1 0 0 0)), (2, .int (nI N)), (3, .int (nI P)), (4, .int (nI Q)), (5, .ref (B.2.1 29 0 0)), (6, .int (nI al)), (7, .ref (B.2.1 29 1 0)), (8, .ref (B.2.1 29 2 0)), (9, .int (nI tk)), (10, .int (nI t))]) rfl ?_
                              exact cont V60 w46 hL62 hw46 (by rw [ew46])
                            · first | exact absurd (by decide) c65 | exact absurd c65 (by decide)
                          · first | exact absurd (by decide) c64 | exact absurd c64 (by decide)
                        · rcases Nat.eq_zero_or_pos m with rfl | hm0
                          · refine gG_Le [(21, .int (nI (sCnt w.1 2))), (20, .int (nI ((w.1.2.2.1 0 1) + (w.1.2.2.1 1 1)))), (19, .int (nI 0)), (18, .int (nI j16)), (17, .int kv), (16, .int (nI ((sTick w.1).1.2.2.1 0 1 + (sTick w.1).1.2.2.1 1 1) - nI (w.1.2.2.1 0 1 + w.1.2.2.1 1 1))), (15, .int (nI (sTick w.1).2)), (13, .long (oDig w)), (0, .ref b), (1, .ref (B.2.1 0 0 0)), (2, .int (nI N)), (3, .int (nI P)), (4, .int (nI Q)), (5, .ref (B.2.1 29 0 0)), (6, .int (nI al)), (7, .ref (B.2.1 29 1 0)), (8, .ref (B.2.1 29 2 0)), (9, .int (nI tk)), (10, .int (nI t)), (11, .int x)] (by rw [hov]) ?_
                            refine g_iload X 2 rfl dL_law_463 ?_
                            refine g_if_le X 481 (by decide) dL_law_465 (fun c66 => ?_) (fun c66 => ?_)
                            · refine g_iload X 2 rfl dL_law_481 ?_
                              refine g_if_ne X 497 (by decide) dL_law_483 (fun c67 => ?_) (fun c67 => ?_)
                              · first | exact absurd (rfl) c67 | exact absurd c67 (rfl)
                              · refine g_aload_n X 9 rfl dL_law_486 ?_
                                refine g_iload X 3 rfl dL_law_487 ?_
                                refine g_callV X hR (rest := []) mX6_over lL_69 (c_over hI V60 w46 a j16 hL62 hw46 (by first | assumption | decide | omega)) rfl rfl (Nat.le_of_ble_eq_true rfl) ⟨by decide, by decide⟩ rfl rfl rfl ⟨Nat.le_of_ble_eq_true rfl, Nat.le_of_ble_eq_true rfl, hnc, hns⟩ dL_law_489 (fun r68 V69 hz_70 => ?_)
                                refine gG_rv hz_70.1 ?_
                                have hL71 := hz_70.2
                                refine gG_n (nc, ns) rfl ?_
                                refine gG_st [.int (ovF j16 201 0 w46.1)] rfl ?_
                                refine g_if_eq X 497 (by decide) dL_law_492 (fun c72 => ?_) (fun c72 => ?_)
                                · refine gG_L [8, 9, 10, 11, 12, 13, 14, 15, 16, 17, 18] (L' := [(0, .ref b), (1, .ref (B.2.1 0 0 0)), (2, .int (nI N)), (3, .int (nI P)), (4, .int (nI Q)), (5, .ref (B.2.1 29 0 0)), (6, .int (nI al)), (7, .ref (B.2.1 29 1 0)), (8, .ref (B.2.1 29 2 0)), (9, .int (nI tk)), (10, .int (nI t))]) rfl ?_
                                  exact cont V69 w46 hL71 hw46 (by rw [ew46])
                                · first | exact absurd (by rw [ew46]; exact hov2) c72 | exact absurd c72 (by rw [ew46]; exact hov2)
                            · first | exact absurd (by decide) c66 | exact absurd c66 (by decide)
                          · refine gG_Le [(21, .int (nI (sCnt w.1 2))), (20, .int (nI ((w.1.2.2.1 0 1) + (w.1.2.2.1 1 1)))), (19, .int (nI m)), (18, .int (nI j16)), (17, .int kv), (16, .int (nI ((sTick w.1).1.2.2.1 0 1 + (sTick w.1).1.2.2.1 1 1) - nI (w.1.2.2.1 0 1 + w.1.2.2.1 1 1))), (15, .int (nI (sTick w.1).2)), (13, .long (oDig w)), (0, .ref b), (1, .ref (B.2.1 0 0 0)), (2, .int (nI N)), (3, .int (nI P)), (4, .int (nI Q)), (5, .ref (B.2.1 29 0 0)), (6, .int (nI al)), (7, .ref (B.2.1 29 1 0)), (8, .ref (B.2.1 29 2 0)), (9, .int (nI tk)), (10, .int (nI t)), (11, .int x)] (by rw [hov]) ?_
                            refine g_iload X 2 rfl dL_law_463 ?_
                            refine g_if_le X 481 (by decide) dL_law_465 (fun c73 => ?_) (fun c73 => ?_)
                            · first | exact absurd (nI_nle hm0 (by omega)) c73 | exact absurd c73 (nI_nle hm0 (by omega))
                            · refine g_aload_n X 9 rfl dL_law_468 ?_
                              refine g_iload X 3 rfl dL_law_469 ?_
                              refine g_callV X hR (rest := []) mX6_over lL_69 (c_over hI V60 w46 a j16 hL62 hw46 (by first | assumption | decide | omega)) rfl rfl (Nat.le_of_ble_eq_true rfl) ⟨by decide, by decide⟩ rfl rfl rfl ⟨Nat.le_of_ble_eq_true rfl, Nat.le_of_ble_eq_true rfl, hnc, hns⟩ dL_law_471 (fun r74 V75 hz_76 => ?_)
                              refine gG_rv hz_76.1 ?_
                              have hL77 := hz_76.2
                              refine gG_n (nc, ns) rfl ?_
                              refine gG_st [.int (ovF j16 201 0 w46.1)] rfl ?_
                              refine g_iload X 2 rfl dL_law_474 ?_
                              refine g_iconst X (nI 1) (by decide) dL_law_476 ?_
                              refine g_isub X dL_law_477 ?_
                              refine gG_top (nI (m - 1)) (pk_sub (by omega)) ?_
                              refine g_icmp_ne X 495 (by decide) dL_law_478 (fun c78 => ?_) (fun c78 => ?_)
                              · first | exact absurd (by rw [ew46]; exact hov2) c78 | exact absurd c78 (by rw [ew46]; exact hov2)
                              · refine g_iload X 2 rfl dL_law_481 ?_
                                refine g_if_ne X 497 (by decide) dL_law_483 (fun c79 => ?_) (fun c79 => ?_)
                                · refine gG_L [8, 9, 10, 11, 12, 13, 14, 15, 16, 17, 18] (L' := [(0, .ref b), (1, .ref (B.2.1 0 0 0)), (2, .int (nI N)), (3, .int (nI P)), (4, .int (nI Q)), (5, .ref (B.2.1 29 0 0)), (6, .int (nI al)), (7, .ref (B.2.1 29 1 0)), (8, .ref (B.2.1 29 2 0)), (9, .int (nI tk)), (10, .int (nI t))]) rfl ?_
                                  exact cont V75 w46 hL77 hw46 (by rw [ew46])
                                · first | exact absurd (nI_ne0 hm0 (by omega)) c79 | exact absurd c79 (nI_ne0 hm0 (by omega))
                      · first | exact absurd (by rw [ew46]; exact (sub_add _ _).symm) c63 | exact absurd c63 (by rw [ew46]; exact (sub_add _ _).symm)
            · first | exact absurd ((lg_cmp_eq _ _).mpr rfl) c29 | exact absurd c29 ((lg_cmp_eq _ _).mpr rfl)
  by_cases h8 : t % 8 = 0
  · refine gG_top (nI 0) (by rw [h8]) ?_
    refine g_if_ne X 323 (by decide) dL_law_313 (fun c80 => ?_) (fun c80 => ?_)
    · first | exact absurd (rfl) c80 | exact absurd c80 (rfl)
    · refine g_aload_n X 4 rfl dL_law_316 ?_
      refine g_callV X hR (rest := []) mX6_keep lL_66 (c_keep hI V10 w a hL12 hw) rfl rfl (Nat.le_of_ble_eq_true rfl) ⟨by decide, by decide⟩ rfl rfl rfl ⟨Nat.le_of_ble_eq_true rfl, Nat.le_of_ble_eq_true rfl, hnc, hns⟩ dL_law_317 (fun r81 V82 hz_83 => ?_)
      refine gG_rv hz_83.1 ?_
      have hL84 := hz_83.2
      refine gG_n (nc, ns) rfl ?_
      refine gG_st [.int (oKeep w)] rfl ?_
      refine g_goto X 324 (by decide) dL_law_320 ?_
      exact j324 _ _ (kp60 w.1) hL84
  · skip
    refine g_if_ne X 323 (by decide) dL_law_313 (fun c85 => ?_) (fun c85 => ?_)
    · refine g_iconst X (nI 0) (by decide) dL_law_323 ?_
      exact j324 _ _ (Or.inr ⟨0, by decide, rfl⟩) hL12
    · first | exact absurd (nI_ne0 (by omega) (by omega)) c85 | exact absurd c85 (nI_ne0 (by omega) (by omega))
