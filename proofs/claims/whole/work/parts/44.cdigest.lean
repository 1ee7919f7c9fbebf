/-! the checksum -/
def dgD0 (w : gWd) : Int64 := mixL ((List.range 11).map (cntV w)) 683
def dgD1 (w : gWd) : Int64 := mixL ((List.range w.2.1.1).map (fun j => nI (w.2.1.2 j))) (dgD0 w)
def dgD2 (w : gWd) : Int64 := mixL ((List.range 20).map (fun j => nI (w.2.2 j))) (dgD1 w)
def oDig (w : gWd) : Int64 := mixL (cartsL w.1 (w.1.1 6)) (mixL (gateL w.1 1) (mixL (gateL w.1 0) (dgD2 w)))

set_option maxHeartbeats 200000 in
abbrev rmX6_digest : Room := { frames := 4, cells := 0, slots := 0, locals := 94 }
set_option maxRecDepth 20000 in
theorem k_Cdigest {l : Launch} {B : gB} (hI : gI B) (V : gMem) (w : gWd) (hQ : COk V w) (hw : wOk w) : gM l B yX6_digest cX6_digest 4 (some .long) rmX6_digest [.ref (B.2.1 0 0 0)] V (fun v V' => v = some (.long (oDig w)) ∧ V' = V) := by
  refine gM_of (own := RX6) (L := [(0, .ref (B.2.1 0 0 0))]) (by decide +kernel) rfl hI (Nat.le_of_ble_eq_true rfl) rfl ?_
  intro Z hnL hR X F
  refine g_ldc2 X 683 qK_X6_239 dX6_digest_0 ?_
  refine g_lstore_n X rfl dX6_digest_3 [(1, .long 683), (0, .ref (B.2.1 0 0 0))] rfl (gnl_lt hnL (by decide)) ?_
  refine g_iconst X 0 (by decide) dX6_digest_4 ?_
  refine g_istore_n X rfl dX6_digest_5 [(3, .int 0), (1, .long 683), (0, .ref (B.2.1 0 0 0))] rfl (gnl_lt hnL (by decide)) ?_
  refine gG_L [2, 1, 0] (L' := [(0, .ref (B.2.1 0 0 0)), (1, .long 683), (3, .int 0)]) rfl ?_
  refine gG_Le [(0, .ref (B.2.1 0 0 0)), (1, .long (mixL ((List.range 0).map (cntV w)) 683)), (3, .int (nI 0))] (by rw [mixL_0]; rfl) ?_
  have loop : ∀ (f : Nat) (k : Nat) , k + f = 11 →  gG Z B (0, 0) V 6 [(0, .ref (B.2.1 0 0 0)), (1, .long (mixL ((List.range k).map (cntV w)) 683)), (3, .int (nI k))] [] := by
    intro f
    induction f with
    | zero =>
      intro k  hf 
      refine g_iload_n X 2 rfl dX6_digest_6 ?_
      refine g_bipush X 11 (by decide) dX6_digest_7 ?_
      refine g_icmp_ge X 28 (by decide) dX6_digest_9 (fun c1 => ?_) (fun c1 => ?_)
      · refine gG_Le [(0, .ref (B.2.1 0 0 0)), (1, .long (dgD0 w)), (3, .int (nI k))] (by rw [show k = 11 by omega]; rfl) ?_
        refine g_aload_n X 0 rfl dX6_digest_28 ?_
        refine gg_X6_code X ⟨by decide, by decide⟩ fX6_10 dX6_digest_29 ?_
        refine g_lload_n X 1 rfl dX6_digest_32 ?_
        refine g_callV X hR (rest := []) mX2_mixedInto lX6_245 (k_cmix hI V w.2.1 (dgD0 w) hQ.2.1 hw.2.1) rfl rfl (Nat.le_of_ble_eq_true rfl) ⟨by decide, by decide⟩ rfl rfl rfl ⟨Nat.le_of_ble_eq_true rfl, Nat.le_of_ble_eq_true rfl, Nat.le_of_ble_eq_true rfl, Nat.le_of_ble_eq_true rfl⟩ dX6_digest_33 (fun r2 V3 hz_4 => ?_)
        refine gG_ret hz_4.1 hz_4.2 ?_
        refine gG_st [.long (mixL ((List.range w.2.1.1).map (fun j => nI (w.2.1.2 j))) (dgD0 w))] rfl ?_
        refine gG_st [.long (dgD1 w)] (by rw [show (Value.long (mixL ((List.range w.2.1.1).map (fun j => nI (w.2.1.2 j))) (dgD0 w))) = .long (dgD1 w) from congrArg _ (rfl)]) ?_
        refine g_lstore_n X rfl dX6_digest_36 [(1, .long (dgD1 w)), (0, .ref (B.2.1 0 0 0)), (3, .int (nI k))] rfl (gnl_lt hnL (by decide)) ?_
        refine g_iconst X 0 (by decide) dX6_digest_37 ?_
        refine g_istore_n X rfl dX6_digest_38 [(3, .int 0), (1, .long (dgD1 w)), (0, .ref (B.2.1 0 0 0))] rfl (gnl_lt hnL (by decide)) ?_
        refine gG_L [2, 1, 0] (L' := [(0, .ref (B.2.1 0 0 0)), (1, .long (dgD1 w)), (3, .int 0)]) rfl ?_
        refine gG_Le [(0, .ref (B.2.1 0 0 0)), (1, .long (mixL ((List.range 0).map (fun j => nI (w.2.2 j))) (dgD1 w))), (3, .int (nI 0))] (by rw [mixL_0]; rfl) ?_
        have loop2 : ∀ (f : Nat) (t : Nat) , t + f = 20 →  gG Z B (0, 0) V 39 [(0, .ref (B.2.1 0 0 0)), (1, .long (mixL ((List.range t).map (fun j => nI (w.2.2 j))) (dgD1 w))), (3, .int (nI t))] [] := by
          intro f
          induction f with
          | zero =>
            intro t  hf 
            refine g_iload_n X 2 rfl dX6_digest_39 ?_
            refine g_aload_n X 0 rfl dX6_digest_40 ?_
            refine gg_X6_fog X ⟨by decide, by decide⟩ fX6_16 dX6_digest_41 ?_
            refine g_alen X (v := 20) ⟨by decide, by decide⟩ rfl (by decide) dX6_digest_44 ?_
            refine g_icmp_ge X 65 (by decide) dX6_digest_45 (fun c5 => ?_) (fun c5 => ?_)
            · refine gG_Le [(0, .ref (B.2.1 0 0 0)), (1, .long (dgD2 w)), (3, .int (nI t))] (by rw [show t = 20 by omega]; rfl) ?_
              refine g_aload_n X 0 rfl dX6_digest_65 ?_
              refine gg_X6_bridge X ⟨by decide, by decide⟩ fX6_23 dX6_digest_66 ?_
              refine g_lload_n X 1 rfl dX6_digest_69 ?_
              refine g_callV X hR (rest := []) mX0_mixedInto lX6_249 (k_bmix hI V 0 w.1 (dgD2 w) (by decide) hQ.1 hw.1.1.2.2.2.2.2 hw.1.2.1 (fun i hi h8 => hw.1.2.2.2.2.2.1 i (hw.1.on hi h8))) rfl rfl (Nat.le_of_ble_eq_true rfl) ⟨by decide, by decide⟩ rfl rfl rfl ⟨Nat.le_of_ble_eq_true rfl, Nat.le_of_ble_eq_true rfl, Nat.le_of_ble_eq_true rfl, Nat.le_of_ble_eq_true rfl⟩ dX6_digest_70 (fun r6 V7 hz_8 => ?_)
              refine gG_ret hz_8.1 hz_8.2 ?_
              refine gG_st [.long (mixL (cartsL w.1 (w.1.1 6)) (mixL (gateL w.1 1) (mixL (gateL w.1 0) (dgD2 w))))] rfl ?_
              refine g_lret X F ?_ rfl dX6_digest_73
              exact ⟨rfl, rfl⟩
            · first | exact absurd (nI_le (a := 20) (by omega) (by omega)) c5 | exact absurd c5 (nI_le (a := 20) (by omega) (by omega))
          | succ f ih =>
            intro t  hf 
            refine g_iload_n X 2 rfl dX6_digest_39 ?_
            refine g_aload_n X 0 rfl dX6_digest_40 ?_
            refine gg_X6_fog X ⟨by decide, by decide⟩ fX6_16 dX6_digest_41 ?_
            refine g_alen X (v := 20) ⟨by decide, by decide⟩ rfl (by decide) dX6_digest_44 ?_
            refine g_icmp_ge X 65 (by decide) dX6_digest_45 (fun c9 => ?_) (fun c9 => ?_)
            · first | exact absurd (nI_ge (b := 20) (by omega) (by decide)) c9 | exact absurd c9 (nI_ge (b := 20) (by omega) (by decide))
            · refine g_lload_n X 1 rfl dX6_digest_48 ?_
              refine g_aload_n X 0 rfl dX6_digest_49 ?_
              refine gg_X6_fog X ⟨by decide, by decide⟩ fX6_16 dX6_digest_50 ?_
              refine g_iload_n X 2 rfl dX6_digest_53 ?_
              refine g_ialdN X (t) rfl (by omega) (by decide) ⟨by decide, by decide⟩ rfl dX6_digest_54 ?_
              refine gG_top (nI (w.2.2 t)) (hQ.2.2 t (by omega)) ?_
              refine g_callS X hR (As := [.long (mixL ((List.range t).map (fun j => nI (w.2.2 j))) (dgD1 w)), .int (nI (w.2.2 t))]) (rest := []) mX6_mixed lX6_241 (k_mixed hI V (mixL ((List.range t).map (fun j => nI (w.2.2 j))) (dgD1 w)) (nI (w.2.2 t)) ) rfl rfl (Nat.le_of_ble_eq_true rfl) ⟨Nat.le_of_ble_eq_true rfl, Nat.le_of_ble_eq_true rfl, Nat.le_of_ble_eq_true rfl, Nat.le_of_ble_eq_true rfl⟩ dX6_digest_55 (fun r10 V11 hz_12 => ?_)
              refine gG_ret hz_12.1 hz_12.2 ?_
              refine gG_st [.long (mix1 (mixL ((List.range t).map (fun j => nI (w.2.2 j))) (dgD1 w)) (nI (w.2.2 t)))] rfl ?_
              refine gG_st [.long (mixL ((List.range (t + 1)).map (fun j => nI (w.2.2 j))) (dgD1 w))] (by rw [show (Value.long (mix1 (mixL ((List.range t).map (fun j => nI (w.2.2 j))) (dgD1 w)) (nI (w.2.2 t)))) = .long (mixL ((List.range (t + 1)).map (fun j => nI (w.2.2 j))) (dgD1 w)) from congrArg _ ((mixL_range _ _ _).symm)]) ?_
              refine g_lstore_n X rfl dX6_digest_58 [(1, .long (mixL ((List.range (t + 1)).map (fun j => nI (w.2.2 j))) (dgD1 w))), (0, .ref (B.2.1 0 0 0)), (3, .int (nI t))] rfl (gnl_lt hnL (by decide)) ?_
              refine g_iinc X 2 rfl (nI (t + 1)) (iinc_1 _) dX6_digest_59 [(3, .int (nI (t + 1))), (1, .long (mixL ((List.range (t + 1)).map (fun j => nI (w.2.2 j))) (dgD1 w))), (0, .ref (B.2.1 0 0 0))] rfl (gnl_lt hnL (by decide)) ?_
              refine g_goto X 39 (by decide) dX6_digest_62 ?_
              refine gG_L [2, 1, 0] (L' := [(0, .ref (B.2.1 0 0 0)), (1, .long (mixL ((List.range (t + 1)).map (fun j => nI (w.2.2 j))) (dgD1 w))), (3, .int (nI (t + 1)))]) rfl ?_
              refine ih (t + 1) (by omega)
        exact loop2 20 0 (by omega)
      · first | exact absurd (nI_le (a := 11) (by omega) (by omega)) c1 | exact absurd c1 (nI_le (a := 11) (by omega) (by omega))
    | succ f ih =>
      intro k  hf 
      refine g_iload_n X 2 rfl dX6_digest_6 ?_
      refine g_bipush X 11 (by decide) dX6_digest_7 ?_
      refine g_icmp_ge X 28 (by decide) dX6_digest_9 (fun c13 => ?_) (fun c13 => ?_)
      · first | exact absurd (nI_ge (b := 11) (by omega) (by decide)) c13 | exact absurd c13 (nI_ge (b := 11) (by omega) (by decide))
      · refine g_lload_n X 1 rfl dX6_digest_12 ?_
        refine g_aload_n X 0 rfl dX6_digest_13 ?_
        refine g_iload_n X 2 rfl dX6_digest_14 ?_
        refine g_callV X hR (rest := [.long (mixL ((List.range k).map (cntV w)) 683)]) mX6_countOf lX6_217 (k_countOf hI V w k hQ hw (by omega)) rfl rfl (Nat.le_of_ble_eq_true rfl) ⟨by decide, by decide⟩ rfl rfl rfl ⟨Nat.le_of_ble_eq_true rfl, Nat.le_of_ble_eq_true rfl, Nat.le_of_ble_eq_true rfl, Nat.le_of_ble_eq_true rfl⟩ dX6_digest_15 (fun r14 V15 hz_16 => ?_)
        refine gG_ret hz_16.1 hz_16.2 ?_
        refine gG_st [.int (cntV w k), .long (mixL ((List.range k).map (cntV w)) 683)] rfl ?_
        refine g_callS X hR (As := [.long (mixL ((List.range k).map (cntV w)) 683), .int (cntV w k)]) (rest := []) mX6_mixed lX6_241 (k_mixed hI V (mixL ((List.range k).map (cntV w)) 683) (cntV w k) ) rfl rfl (Nat.le_of_ble_eq_true rfl) ⟨Nat.le_of_ble_eq_true rfl, Nat.le_of_ble_eq_true rfl, Nat.le_of_ble_eq_true rfl, Nat.le_of_ble_eq_true rfl⟩ dX6_digest_18 (fun r17 V18 hz_19 => ?_)
        refine gG_ret hz_19.1 hz_19.2 ?_
        refine gG_st [.long (mix1 (mixL ((List.range k).map (cntV w)) 683) (cntV w k))] rfl ?_
        refine gG_st [.long (mixL ((List.range (k + 1)).map (cntV w)) 683)] (by rw [show (Value.long (mix1 (mixL ((List.range k).map (cntV w)) 683) (cntV w k))) = .long (mixL ((List.range (k + 1)).map (cntV w)) 683) from congrArg _ ((mixL_range _ _ _).symm)]) ?_
        refine g_lstore_n X rfl dX6_digest_21 [(1, .long (mixL ((List.range (k + 1)).map (cntV w)) 683)), (0, .ref (B.2.1 0 0 0)), (3, .int (nI k))] rfl (gnl_lt hnL (by decide)) ?_
        refine g_iinc X 2 rfl (nI (k + 1)) (iinc_1 _) dX6_digest_22 [(3, .int (nI (k + 1))), (1, .long (mixL ((List.range (k + 1)).map (cntV w)) 683)), (0, .ref (B.2.1 0 0 0))] rfl (gnl_lt hnL (by decide)) ?_
        refine g_goto X 6 (by decide) dX6_digest_25 ?_
        refine gG_L [2, 1, 0] (L' := [(0, .ref (B.2.1 0 0 0)), (1, .long (mixL ((List.range (k + 1)).map (cntV w)) 683)), (3, .int (nI (k + 1)))]) rfl ?_
        refine ih (k + 1) (by omega)
  exact loop 11 0 (by omega)

