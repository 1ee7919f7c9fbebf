/-! rows of whole, of the class (32.sel) -/
def nwC (e ax wt pc cn ch k : Nat) : Nat := match k with
  | 1 => e
  | 2 => ax
  | 3 => wt
  | 4 => pc
  | 5 => cn
  | 6 => ch
  | _ => 0
def sNew (S : gSt) (e ax wt pc cn ch : Nat) : gSt := (fun k => if k = 6 then S.1 6 + 1 else S.1 k, fun r => if r = e then S.2.1 e ++ [S.1 6] else S.2.1 r, S.2.2.1, fun i k => if i = S.1 6 then nwC e ax wt pc cn ch k else S.2.2.2.1 i k, fun i => if i = S.1 6 then -1 else S.2.2.2.2 i)
theorem WF.new {S : gSt} (h : WF S) (hn : S.1 6 < 16) {e ax wt pc cn ch : Nat} (he : e < 2) (hax : 1 ≤ ax ∧ ax ≤ 4) (hwt : wt ≤ 200) (hpc : 1 ≤ pc ∧ pc ≤ 3) (hcn : cn ≤ 100) (hch : ch ≤ 1) : WF (sNew S e ax wt pc cn ch) := by
  have hcr : ∀ i ∈ S.2.1 2, i ≠ S.1 6 := fun i hi => by have := h.mem hi; omega
  have q2 : (sNew S e ax wt pc cn ch).2.1 2 = S.2.1 2 := if_neg (by omega)
  have co : ∀ i, i ≠ S.1 6 → ∀ k, (sNew S e ax wt pc cn ch).2.2.2.1 i k = S.2.2.2.1 i k := fun i hi k => if_neg hi
  have cn' : ∀ k, (sNew S e ax wt pc cn ch).2.2.2.1 (S.1 6) k = nwC e ax wt pc cn ch k := fun k => if_pos rfl
  have n6 : (sNew S e ax wt pc cn ch).1 6 = S.1 6 + 1 := rfl
  have nk : ∀ k, k ≠ 6 → (sNew S e ax wt pc cn ch).1 k = S.1 k := fun k hk => if_neg hk
  refine ⟨?_, fun i hi => ?_, fun x hx => ?_, ?_, fun i => ?_, fun i hi => ?_, fun i hi j hj => ?_, fun i hi h8 => ?_⟩
  · obtain ⟨a, b, c, d, y, z⟩ := h.1
    exact ⟨a, b, c, d, y, hn⟩
  · rw [n6] at hi
    by_cases hin : i = S.1 6
    · subst hin
      exact ⟨by rw [cn']; exact Nat.le_of_lt_succ he, by rw [cn']; exact hax, by rw [cn']; exact hwt, by rw [cn']; exact hpc, by rw [cn']; exact hcn, by rw [cn']; exact hch, by rw [cn']; exact Nat.zero_le _, by rw [cn']; exact Nat.zero_le _⟩
    · exact (h.2.1 i (by omega)).of (fun k _ _ => co i hin k) (by rw [co i hin]; exact (h.2.1 i (by omega)).2.2.2.2.2.2.2)
  · have hnot : S.1 6 ∉ S.2.1 x := fun q => by have := (h.qmem hx q).1; omega
    have hq := h.2.2.1 x hx
    by_cases hxe : x = e
    · subst hxe
      have qx : (sNew S x ax wt pc cn ch).2.1 x = S.2.1 x ++ [S.1 6] := if_pos rfl
      rw [qx]
      refine ⟨List.nodup_append.mpr ⟨hq.1, by simp, fun a ha c hc q => hnot (by rw [List.mem_singleton.mp hc] at q; exact q ▸ ha)⟩, fun i => ?_⟩
      rw [List.mem_append, List.mem_singleton, n6]
      by_cases hin : i = S.1 6
      · subst hin
        rw [cn', cn']
        exact ⟨fun _ => ⟨Nat.lt_succ_self _, rfl, rfl⟩, fun _ => Or.inr rfl⟩
      · rw [co i hin, co i hin]
        constructor
        · rintro (q | q)
          · obtain ⟨a, b, c⟩ := (hq.2 i).mp q; exact ⟨by omega, b, c⟩
          · exact absurd q hin
        · rintro ⟨a, b, c⟩; exact Or.inl ((hq.2 i).mpr ⟨by omega, b, c⟩)
    · have qx : (sNew S e ax wt pc cn ch).2.1 x = S.2.1 x := if_neg hxe
      rw [qx]
      refine ⟨hq.1, fun i => ?_⟩
      rw [n6]
      by_cases hin : i = S.1 6
      · subst hin
        rw [cn', cn']
        constructor
        · intro q; exact absurd q hnot
        · rintro ⟨-, -, q⟩; exact absurd q.symm hxe
      · rw [co i hin, co i hin, hq.2 i]
        constructor
        · rintro ⟨a, b, c⟩; exact ⟨by omega, b, c⟩
        · rintro ⟨a, b, c⟩; exact ⟨by omega, b, c⟩
  · rw [q2]
    exact h.2.2.2.1.imp_of_mem (fun {a c} ha hc z => by rw [co c (hcr c hc), co a (hcr a ha)]; exact z)
  · rw [q2, n6]
    by_cases hin : i = S.1 6
    · subst hin
      rw [cn']
      constructor
      · intro q; exact absurd rfl (hcr _ q)
      · rintro ⟨-, q⟩; cases q
    · rw [co i hin, h.2.2.2.2.1 i]
      constructor
      · rintro ⟨a, b⟩; exact ⟨by omega, b⟩
      · rintro ⟨a, b⟩; exact ⟨by omega, b⟩
  · rw [q2] at hi
    rw [co i (hcr i hi), nk 2 (by decide)]
    exact h.2.2.2.2.2.1 i hi
  · rw [q2] at hi hj
    rw [co i (hcr i hi), co j (hcr j hj)]
    exact h.2.2.2.2.2.2.1 i hi j hj
  · rw [n6] at hi
    by_cases hin : i = S.1 6
    · subst hin
      rw [cn'] at h8
      cases h8
    · rw [co i hin] at h8
      rw [nk 0 (by decide)]
      show ∃ t : Nat, t ≤ S.1 0 ∧ (if i = S.1 6 then -1 else S.2.2.2.2 i) = nI t
      rw [if_neg hin]
      exact h.2.2.2.2.2.2.2 i (by omega) h8
def oCome (w : gWd) (e ax wt pc cn ch : Int32) : gOu := if ixB e 2 ∧ inB ax 1 4 ∧ inB wt 1 200 ∧ inB pc 1 3 ∧ inB cn 0 100 then (if w.1.1 6 = 16 then (2, 0, w) else (0, nI (w.1.1 6), (sNew w.1 e.toNatClampNeg ax.toNatClampNeg wt.toNatClampNeg pc.toNatClampNeg cn.toNatClampNeg ch.toNatClampNeg, w.2))) else (1, 0, w)
theorem wOk.come {w : gWd} (h : wOk w) (e ax wt pc cn : Int32) {c : Nat} (hc : c ≤ 1) : wOk (oCome w e ax wt pc cn (nI c)).2.2 := by
  unfold oCome
  split
  · rename_i h1
    obtain ⟨q1, q2, q3, q4, q5⟩ := h1
    split
    · exact h
    · rename_i h6
      have := h.1.1.2.2.2.2.2
      obtain ⟨j1, a1, rfl⟩ := (ixB_iff (n := 2) (by decide)).mp q1
      obtain ⟨j2, b1, b2, rfl⟩ := (inB_iff (a := 1) (n := 4) (by decide) (by decide)).mp q2
      obtain ⟨j3, c1, c2, rfl⟩ := (inB_iff (a := 1) (n := 200) (by decide) (by decide)).mp q3
      obtain ⟨j4, d1, d2, rfl⟩ := (inB_iff (a := 1) (n := 3) (by decide) (by decide)).mp q4
      obtain ⟨j5, e1, e2, rfl⟩ := (inB_iff (a := 0) (n := 100) (by decide) (by decide)).mp q5
      refine ⟨?_, h.2⟩
      show WF (sNew w.1 (nI j1).toNatClampNeg (nI j2).toNatClampNeg (nI j3).toNatClampNeg (nI j4).toNatClampNeg (nI j5).toNatClampNeg (nI c).toNatClampNeg)
      rw [nI_clamp (n := j1) (by omega), nI_clamp (n := j2) (by omega), nI_clamp (n := j3) (by omega), nI_clamp (n := j4) (by omega), nI_clamp (n := j5) (by omega), nI_clamp (n := c) (by omega)]
      exact h.1.new (by omega) a1 ⟨b1, b2⟩ c2 ⟨d1, d2⟩ e2 hc
  · exact h
def dgD0 (w : gWd) : Int64 := mixL ((List.range 11).map (cntV w)) 683
def dgD1 (w : gWd) : Int64 := mixL ((List.range w.2.1.1).map (fun j => nI (w.2.1.2 j))) (dgD0 w)
def dgD2 (w : gWd) : Int64 := mixL ((List.range 20).map (fun j => nI (w.2.2 j))) (dgD1 w)
def oDig (w : gWd) : Int64 := mixL (cartsL w.1 (w.1.1 6)) (mixL (gateL w.1 1) (mixL (gateL w.1 0) (dgD2 w)))
set_option maxHeartbeats 200000 in
abbrev rmX6_digest : Room := { frames := 4, cells := 0, slots := 0, locals := 94 }
set_option maxRecDepth 20000 in
theorem k_Cdigest {l : Launch} {B : gB} (hI : gI B) (V : gMem) (w : gWd) (hQ : COk V w) (hw : wOk w) : gM l B yX6_digest cX6_digest 4 (some .long) rmX6_digest [.ref (B.2.1 0 0 0)] V (fun v V' => v = some (.long (oDig w)) ∧ V' = V) := by
  refine gM_of (own := RX6) (L := [(0, .ref (B.2.1 0 0 0))]) (by decide +kernel) rfl hI (Nat.le_of_ble_eq_true rfl) rfl ?_
  intro Z hnL hR X F
  refine g_ldc2 X 683 qK_X6_239 dX6_digest_0 ?_
  refine g_lstore_n X rfl dX6_digest_3 [(1, .long 683), (0, .ref (B.2.1 0 0 0))] rfl (gnl_lt hnL (by decide)) ?_
  refine g_iconst X 0 (by decide) dX6_digest_4 ?_
  refine g_istore_n X rfl dX6_digest_5 [(3, .int 0), (1, .long 683), (0, .ref (B.2.1 0 0 0))] rfl (gnl_lt hnL (by decide)) ?_
  refine gG_L [2, 1, 0] (L' := [(0, .ref (B.2.1 0 0 0)), (1, .long 683), (3, .int 0)]) rfl ?_
  refine gG_Le [(0, .ref (B.2.1 0 0 0)), (1, .long (mixL ((List.range 0).map (cntV w)) 683)), (3, .int (nI 0))] (by rw [mixL_0]; rfl) ?_
  have loop : ∀ (f : Nat) (k : Nat) , k + f = 11 →  gG Z B (0, 0) V 6 [(0, .ref (B.2.1 0 0 0)), (1, .long (mixL ((List.range k).map (cntV w)) 683)), (3, .int (nI k))] [] := by
    intro f
    induction f with
    | zero =>
      intro k  hf 
      refine g_iload_n X 2 rfl dX6_digest_6 ?_
      refine g_bipush X 11 (by decide) dX6_digest_7 ?_
      refine g_icmp_ge X 28 (by decide) dX6_digest_9 (fun c1 => ?_) (fun c1 => ?_)
      · refine gG_Le [(0, .ref (B.2.1 0 0 0)), (1, .long (dgD0 w)), (3, .int (nI k))] (by rw [show k = 11 by omega]; rfl) ?_
        refine g_aload_n X 0 rfl dX6_digest_28 ?_
        refine gg_X6_code X ⟨by decide, by decide⟩ fX6_10 dX6_digest_29 ?_
        refine g_lload_n X 1 rfl dX6_digest_32 ?_
        refine g_callV X hR (rest := []) mX2_mixedInto lX6_245 (k_cmix hI V w.2.1 (dgD0 w) hQ.2.1 hw.2.1) rfl rfl (Nat.le_of_ble_eq_true rfl) ⟨by decide, by decide⟩ rfl rfl rfl ⟨Nat.le_of_ble_eq_true rfl, Nat.le_of_ble_eq_true rfl, Nat.le_of_ble_eq_true rfl, Nat.le_of_ble_eq_true rfl⟩ dX6_digest_33 (fun r2 V3 hz_4 => ?_)
        refine gG_ret hz_4.1 hz_4.2 ?_
        refine gG_st [.long (mixL ((List.range w.2.1.1).map (fun j => nI (w.2.1.2 j))) (dgD0 w))] rfl ?_
        refine gG_st [.long (dgD1 w)] (by rw [show (Value.long (mixL ((List.range w.2.1.1).map (fun j => nI (w.2.1.2 j))) (dgD0 w))) = .long (dgD1 w) from congrArg _ (rfl)]) ?_
        refine g_lstore_n X rfl dX6_digest_36 [(1, .long (dgD1 w)), (0, .ref (B.2.1 0 0 0)), (3, .int (nI k))] rfl (gnl_lt hnL (by decide)) ?_
        refine g_iconst X 0 (by decide) dX6_digest_37 ?_
        refine g_istore_n X rfl dX6_digest_38 [(3, .int 0), (1, .long (dgD1 w)), (0, .ref (B.2.1 0 0 0))] rfl (gnl_lt hnL (by decide)) ?_
        refine gG_L [2, 1, 0] (L' := [(0, .ref (B.2.1 0 0 0)), (1, .long (dgD1 w)), (3, .int 0)]) rfl ?_
        refine gG_Le [(0, .ref (B.2.1 0 0 0)), (1, .long (mixL ((List.range 0).map (fun j => nI (w.2.2 j))) (dgD1 w))), (3, .int (nI 0))] (by rw [mixL_0]; rfl) ?_
        have loop2 : ∀ (f : Nat) (t : Nat) , t + f = 20 →  gG Z B (0, 0) V 39 [(0, .ref (B.2.1 0 0 0)), (1, .long (mixL ((List.range t).map (fun j => nI (w.2.2 j))) (dgD1 w))), (3, .int (nI t))] [] := by
          intro f
          induction f with
          | zero =>
            intro t  hf 
            refine g_iload_n X 2 rfl dX6_digest_39 ?_
            refine g_aload_n X 0 rfl dX6_digest_40 ?_
            refine gg_X6_fog X ⟨by decide, by decide⟩ fX6_16 dX6_digest_41 ?_
            refine g_alen X (v := 20) ⟨by decide, by decide⟩ rfl (by decide) dX6_digest_44 ?_
            refine g_icmp_ge X 65 (by decide) dX6_digest_45 (fun c5 => ?_) (fun c5 => ?_)
            · refine gG_Le [(0, .ref (B.2.1 0 0 0)), (1, .long (dgD2 w)), (3, .int (nI t))] (by rw [show t = 20 by omega]; rfl) ?_
              refine g_aload_n X 0 rfl dX6_digest_65 ?_
              refine gg_X6_bridge X ⟨by decide, by decide⟩ fX6_23 dX6_digest_66 ?_
              refine g_lload_n X 1 rfl dX6_digest_69 ?_
              refine g_callV X hR (rest := []) mX0_mixedInto lX6_249 (k_bmix hI V 0 w.1 (dgD2 w) (by decide) hQ.1 hw.1.1.2.2.2.2.2 hw.1.2.1 (fun i hi h8 => hw.1.2.2.2.2.2.1 i (hw.1.on hi h8))) rfl rfl (Nat.le_of_ble_eq_true rfl) ⟨by decide, by decide⟩ rfl rfl rfl ⟨Nat.le_of_ble_eq_true rfl, Nat.le_of_ble_eq_true rfl, Nat.le_of_ble_eq_true rfl, Nat.le_of_ble_eq_true rfl⟩ dX6_digest_70 (fun r6 V7 hz_8 => ?_)
              refine gG_ret hz_8.1 hz_8.2 ?_
              refine gG_st [.long (mixL (cartsL w.1 (w.1.1 6)) (mixL (gateL w.1 1) (mixL (gateL w.1 0) (dgD2 w))))] rfl ?_
              refine g_lret X F ?_ rfl dX6_digest_73
              exact ⟨rfl, rfl⟩
            · first | exact absurd (nI_le (a := 20) (by omega) (by omega)) c5 | exact absurd c5 (nI_le (a := 20) (by omega) (by omega))
          | succ f ih =>
            intro t  hf 
            refine g_iload_n X 2 rfl dX6_digest_39 ?_
            refine g_aload_n X 0 rfl dX6_digest_40 ?_
            refine gg_X6_fog X ⟨by decide, by decide⟩ fX6_16 dX6_digest_41 ?_
            refine g_alen X (v := 20) ⟨by decide, by decide⟩ rfl (by decide) dX6_digest_44 ?_
            refine g_icmp_ge X 65 (by decide) dX6_digest_45 (fun c9 => ?_) (fun c9 => ?_)
            · first | exact absurd (nI_ge (b := 20) (by omega) (by decide)) c9 | exact absurd c9 (nI_ge (b := 20) (by omega) (by decide))
            · refine g_lload_n X 1 rfl dX6_digest_48 ?_
              refine g_aload_n X 0 rfl dX6_digest_49 ?_
              refine gg_X6_fog X ⟨by decide, by decide⟩ fX6_16 dX6_digest_50 ?_
              refine g_iload_n X 2 rfl dX6_digest_53 ?_
              refine g_ialdN X (t) rfl (by omega) (by decide) ⟨by decide, by decide⟩ rfl dX6_digest_54 ?_
              refine gG_top (nI (w.2.2 t)) (hQ.2.2 t (by omega)) ?_
              refine g_callS X hR (As := [.long (mixL ((List.range t).map (fun j => nI (w.2.2 j))) (dgD1 w)), .int (nI (w.2.2 t))]) (rest := []) mX6_mixed lX6_241 (k_mixed hI V (mixL ((List.range t).map (fun j => nI (w.2.2 j))) (dgD1 w)) (nI (w.2.2 t)) ) rfl rfl (Nat.le_of_ble_eq_true rfl) ⟨Nat.le_of_ble_eq_true rfl, Nat.le_of_ble_eq_true rfl, Nat.le_of_ble_eq_true rfl, Nat.le_of_ble_eq_true rfl⟩ dX6_digest_55 (fun r10 V11 hz_12 => ?_)
              refine gG_ret hz_12.1 hz_12.2 ?_
              refine gG_st [.long (mix1 (mixL ((List.range t).map (fun j => nI (w.2.2 j))) (dgD1 w)) (nI (w.2.2 t)))] rfl ?_
              refine gG_st [.long (mixL ((List.range (t + 1)).map (fun j => nI (w.2.2 j))) (dgD1 w))] (by rw [show (Value.long (mix1 (mixL ((List.range t).map (fun j => nI (w.2.2 j))) (dgD1 w)) (nI (w.2.2 t)))) = .long (mixL ((List.range (t + 1)).map (fun j => nI (w.2.2 j))) (dgD1 w)) from congrArg _ ((mixL_range _ _ _).symm)]) ?_
              refine g_lstore_n X rfl dX6_digest_58 [(1, .long (mixL ((List.range (t + 1)).map (fun j => nI (w.2.2 j))) (dgD1 w))), (0, .ref (B.2.1 0 0 0)), (3, .int (nI t))] rfl (gnl_lt hnL (by decide)) ?_
              refine g_iinc X 2 rfl (nI (t + 1)) (iinc_1 _) dX6_digest_59 [(3, .int (nI (t + 1))), (1, .long (mixL ((List.range (t + 1)).map (fun j => nI (w.2.2 j))) (dgD1 w))), (0, .ref (B.2.1 0 0 0))] rfl (gnl_lt hnL (by decide)) ?_
              refine g_goto X 39 (by decide) dX6_digest_62 ?_
              refine gG_L [2, 1, 0] (L' := [(0, .ref (B.2.1 0 0 0)), (1, .long (mixL ((List.range (t + 1)).map (fun j => nI (w.2.2 j))) (dgD1 w))), (3, .int (nI (t + 1)))]) rfl ?_
              refine ih (t + 1) (by omega)
        exact loop2 20 0 (by omega)
      · first | exact absurd (nI_le (a := 11) (by omega) (by omega)) c1 | exact absurd c1 (nI_le (a := 11) (by omega) (by omega))
    | succ f ih =>
      intro k  hf 
      refine g_iload_n X 2 rfl dX6_digest_6 ?_
      refine g_bipush X 11 (by decide) dX6_digest_7 ?_
      refine g_icmp_ge X 28 (by decide) dX6_digest_9 (fun c13 => ?_) (fun c13 => ?_)
      · first | exact absurd (nI_ge (b := 11) (by omega) (by decide)) c13 | exact absurd c13 (nI_ge (b := 11) (by omega) (by decide))
      · refine g_lload_n X 1 rfl dX6_digest_12 ?_
        refine g_aload_n X 0 rfl dX6_digest_13 ?_
        refine g_iload_n X 2 rfl dX6_digest_14 ?_
        refine g_callV X hR (rest := [.long (mixL ((List.range k).map (cntV w)) 683)]) mX6_countOf lX6_217 (k_countOf hI V w k hQ hw (by omega)) rfl rfl (Nat.le_of_ble_eq_true rfl) ⟨by decide, by decide⟩ rfl rfl rfl ⟨Nat.le_of_ble_eq_true rfl, Nat.le_of_ble_eq_true rfl, Nat.le_of_ble_eq_true rfl, Nat.le_of_ble_eq_true rfl⟩ dX6_digest_15 (fun r14 V15 hz_16 => ?_)
        refine gG_ret hz_16.1 hz_16.2 ?_
        refine gG_st [.int (cntV w k), .long (mixL ((List.range k).map (cntV w)) 683)] rfl ?_
        refine g_callS X hR (As := [.long (mixL ((List.range k).map (cntV w)) 683), .int (cntV w k)]) (rest := []) mX6_mixed lX6_241 (k_mixed hI V (mixL ((List.range k).map (cntV w)) 683) (cntV w k) ) rfl rfl (Nat.le_of_ble_eq_true rfl) ⟨Nat.le_of_ble_eq_true rfl, Nat.le_of_ble_eq_true rfl, Nat.le_of_ble_eq_true rfl, Nat.le_of_ble_eq_true rfl⟩ dX6_digest_18 (fun r17 V18 hz_19 => ?_)
        refine gG_ret hz_19.1 hz_19.2 ?_
        refine gG_st [.long (mix1 (mixL ((List.range k).map (cntV w)) 683) (cntV w k))] rfl ?_
        refine gG_st [.long (mixL ((List.range (k + 1)).map (cntV w)) 683)] (by rw [show (Value.long (mix1 (mixL ((List.range k).map (cntV w)) 683) (cntV w k))) = .long (mixL ((List.range (k + 1)).map (cntV w)) 683) from congrArg _ ((mixL_range _ _ _).symm)]) ?_
        refine g_lstore_n X rfl dX6_digest_21 [(1, .long (mixL ((List.range (k + 1)).map (cntV w)) 683)), (0, .ref (B.2.1 0 0 0)), (3, .int (nI k))] rfl (gnl_lt hnL (by decide)) ?_
        refine g_iinc X 2 rfl (nI (k + 1)) (iinc_1 _) dX6_digest_22 [(3, .int (nI (k + 1))), (1, .long (mixL ((List.range (k + 1)).map (cntV w)) 683)), (0, .ref (B.2.1 0 0 0))] rfl (gnl_lt hnL (by decide)) ?_
        refine g_goto X 6 (by decide) dX6_digest_25 ?_
        refine gG_L [2, 1, 0] (L' := [(0, .ref (B.2.1 0 0 0)), (1, .long (mixL ((List.range (k + 1)).map (cntV w)) 683)), (3, .int (nI (k + 1)))]) rfl ?_
        refine ih (k + 1) (by omega)
  exact loop 11 0 (by omega)
theorem AbsC.new {V V' : gMem} {S : gSt} {e ax wt pc cn ch : Nat} (h : AbsC V 0 S) (hn : S.1 6 < 16) (h6 : V' 10 0 0 6 = nI (S.1 6 + 1)) (h10 : ∀ k, k < 6 → V' 10 0 0 k = V 10 0 0 k) (hr : RowIs V' 0 e (S.2.1 e ++ [S.1 6])) (hro : ∀ r, r < 3 → r ≠ e → V' 13 0 r = V 13 0 r ∧ V' 14 0 r = V 14 0 r)
    (h12 : ∀ x, x < 2 → V' 12 0 x = V 12 0 x) (hc : ∀ k, 1 ≤ k → k ≤ 9 → V' 15 0 (S.1 6) k = nI (nwC e ax wt pc cn ch k)) (h1 : V' 15 0 (S.1 6) 10 = -1) (h0 : V' 15 0 (S.1 6) 0 = nI (S.1 6)) (ho : ∀ i, i ≠ S.1 6 → V' 15 0 i = V 15 0 i) : AbsC V' 0 (sNew S e ax wt pc cn ch) := by
  refine ⟨fun k hk => ?_, fun r hr3 => ?_, fun x hx k k1 k2 => ?_, fun i hi k k1 k2 => ?_, fun i hi => ?_, fun i hi => ?_, fun h00 i hi1 hi2 => ?_⟩
  · show _ = nI (if k = 6 then S.1 6 + 1 else S.1 k)
    by_cases hk6 : k = 6
    · rw [hk6, if_pos rfl]; exact h6
    · rw [if_neg hk6, h10 k (by omega)]; exact h.1 k hk
  · show RowIs V' 0 r (if r = e then S.2.1 e ++ [S.1 6] else S.2.1 r)
    by_cases hre : r = e
    · rw [if_pos hre, hre]; exact hr
    · rw [if_neg hre]; exact (h.2.1 r hr3).same (hro r hr3 hre).1 (hro r hr3 hre).2
  · rw [h12 x hx]; exact h.2.2.1 x hx k k1 k2
  · have hi : i < S.1 6 + 1 := hi
    show _ = nI (if i = S.1 6 then nwC e ax wt pc cn ch k else S.2.2.2.1 i k)
    by_cases hin : i = S.1 6
    · rw [hin, if_pos rfl]; exact hc k k1 k2
    · rw [if_neg hin, ho i hin]; exact h.2.2.2.1 i (by omega) k k1 k2
  · have hi : i < S.1 6 + 1 := hi
    show _ = (if i = S.1 6 then -1 else S.2.2.2.2 i)
    by_cases hin : i = S.1 6
    · rw [hin, if_pos rfl]; exact h1
    · rw [if_neg hin, ho i hin]; exact h.2.2.2.2.1 i (by omega)
  · by_cases hin : i = S.1 6
    · rw [hin]; exact h0
    · rw [ho i hin]; exact h.2.2.2.2.2.1 i hi
  · have hi1 : S.1 6 + 1 ≤ i := hi1
    have hin : i ≠ S.1 6 := by omega
    rw [ho i hin]
    have q := h.2.2.2.2.2.2 rfl i (by omega) hi2
    refine ⟨fun k k1 k2 => ?_, ?_⟩
    · show _ = nI (if i = S.1 6 then nwC e ax wt pc cn ch k else S.2.2.2.1 i k)
      rw [if_neg hin]; exact q.1 k k1 k2
    · show _ = (if i = S.1 6 then -1 else S.2.2.2.2 i)
      rw [if_neg hin]; exact q.2
def oCount (w : gWd) (x : Int32) : gOu := if ixB x 11 then (0, cntV w x.toNatClampNeg, w) else (1, 0, w)
theorem WF.qlen {S : gSt} (h : WF S) {e : Nat} (he : e < 2) : (S.2.1 e).length ≤ S.1 6 := nodup_le (S.1 6) _ (h.2.2.1 e he).1 (fun x hx => (h.qmem he hx).1)
abbrev opo (w : gWd) (o : gOu) (V : gMem) : Option Value → gMem → Prop := fun v V' => v = some (.int o.2.1) ∧ o.1 = 0 ∧ COk V' o.2.2 ∧ N15 V' ∧ cmod V V'
theorem AbsC.fr {V V' : gMem} {S : gSt} (h : AbsC V 0 S) (hm : ∀ K b i, 10 ≤ K → K ≤ 15 → V' K b i = V K b i) : AbsC V' 0 S :=
  ⟨fun k hk => by rw [hm 10 0 0 (by decide) (by decide)]; exact h.1 k hk, fun r hr => (h.2.1 r hr).same (hm _ _ _ (by decide) (by decide)) (hm _ _ _ (by decide) (by decide)), fun x hx k h1 h2 => by rw [hm 12 0 x (by decide) (by decide)]; exact h.2.2.1 x hx k h1 h2, fun i hi k h1 h2 => by rw [hm 15 0 i (by decide) (by decide)]; exact h.2.2.2.1 i hi k h1 h2, fun i hi => by rw [hm 15 0 i (by decide) (by decide)]; exact h.2.2.2.2.1 i hi, fun i hi => by rw [hm 15 0 i (by decide) (by decide)]; exact h.2.2.2.2.2.1 i hi, fun h0 i h1 h2 => by rw [hm 15 0 i (by decide) (by decide)]; exact h.2.2.2.2.2.2 h0 i h1 h2⟩
theorem N15.fr {V V' : gMem} (h : N15 V) (hm : ∀ b i, V' 15 b i = V 15 b i) : N15 V' := fun b hb j hj => by rw [hm]; exact h b hb j hj
def frS (n : Nat) (S T : gSt) : Prop := ∀ i, n ≤ i → T.2.2.2.1 i = S.2.2.2.1 i ∧ T.2.2.2.2 i = S.2.2.2.2 i
theorem frS.rf {n : Nat} {S : gSt} : frS n S S := fun _ _ => ⟨rfl, rfl⟩
theorem frS.trans {n : Nat} {S T U : gSt} (h : frS n S T) (h2 : frS n T U) : frS n S U := fun i hi => ⟨(h2 i hi).1.trans (h i hi).1, (h2 i hi).2.trans (h i hi).2⟩
theorem frS.sC {n : Nat} (S : gSt) {i : Nat} (k v : Nat) (hi : i < n) : frS n S (sC S i k v) := fun j hj => ⟨funext fun k' => if_neg (fun q => by omega), rfl⟩
theorem frS.sO {n : Nat} (S : gSt) {i : Nat} (v : Int32) (hi : i < n) : frS n S (sO S i v) := fun j hj => ⟨rfl, if_neg (fun q => by omega)⟩
theorem frS.sQ {n : Nat} (S : gSt) (r : Nat) (xs : List Nat) : frS n S (sQ S r xs) := fun _ _ => ⟨rfl, rfl⟩
theorem frS.sN {n : Nat} (S : gSt) (k v : Nat) : frS n S (sN S k v) := fun _ _ => ⟨rfl, rfl⟩
theorem goOnL_fr (pl tk n : Nat) : ∀ (is : List Nat) (lim : Nat) (S : gSt), (∀ i ∈ is, i < n) → frS n S (goOnL pl tk is lim S).1 := by
  intro is
  induction is with
  | nil => intro lim S _; exact frS.rf
  | cons i is ih =>
    intro lim S h
    have hi := h i List.mem_cons_self
    have hr : ∀ j ∈ is, j < n := fun j hj => h j (List.mem_cons_of_mem _ hj)
    unfold goOnL
    split
    · exact (frS.sC S 9 _ hi).trans (ih _ _ hr)
    · exact ((frS.sC S 8 2 hi).trans (frS.sO _ _ hi)).trans (ih _ _ hr)
theorem backL_fr (n : Nat) : ∀ (is : List Nat) (S : gSt), (∀ i ∈ is, i < n) → frS n S (backL is S) := by
  intro is
  induction is with
  | nil => intro S _; exact frS.rf
  | cons i is ih =>
    intro S h
    exact (frS.sC S 9 _ (h i List.mem_cons_self)).trans (ih _ (fun j hj => h j (List.mem_cons_of_mem _ hj)))
theorem sLeave_fr {n : Nat} (S : gSt) {l : Nat} (ys : List Nat) (hl : l < n) : frS n S (sLeave S l ys) := ((frS.sC S 8 0 hl).trans (frS.sQ _ _ _)).trans (frS.sQ _ _ _)
theorem sGoBack_fr {S : gSt} (h : WF S) : frS (S.1 6) S (sGoBack S) := by
  have hm : ∀ i ∈ (S.2.1 2).reverse, i < S.1 6 := fun i hi => h.mem (List.mem_reverse.mp hi)
  unfold sGoBack
  split
  · exact frS.rf
  · rename_i l rs e
    rw [e] at hm
    split
    · exact (sLeave_fr S rs.reverse (hm l List.mem_cons_self)).trans (backL_fr _ _ _ (fun j hj => hm j (List.mem_cons_of_mem _ hj)))
    · exact backL_fr _ _ _ hm
theorem sMove_fr {S : gSt} (h : WF S) : frS (S.1 6) S (sMove S).1 := by
  unfold sMove
  split
  · exact frS.rf
  · split
    · exact (goOnL_fr _ _ _ _ _ S (fun i hi => h.mem hi)).trans (frS.sQ _ _ _)
    · exact sGoBack_fr h
theorem sTake_fr {n : Nat} (S : gSt) (e i pd hn : Nat) : frS n S (sTake S e i pd hn) := fun _ _ => ⟨rfl, rfl⟩
theorem sPay_fr {n : Nat} (S : gSt) (e : Nat) {i : Nat} (hi : i < n) : frS n S (sPay S e i) := ((frS.sC S 5 _ hi).trans (frS.sC _ 7 1 hi)).trans (sTake_fr _ _ _ _ _)
theorem sCome_fr {S : gSt} (h : WF S) : frS (S.1 6) S (sCome S) := by
  have hd : S.1 1 < 2 := by have := h.1.1; omega
  unfold sCome
  split
  · exact frS.rf
  · rename_i i ys e
    have hi : i < S.1 6 := (h.qmem hd (by rw [e]; exact List.mem_cons_self)).1
    split
    · simp only
      split
      · exact (frS.sQ S _ ys).trans (frS.sC _ 8 3 hi)
      · refine (frS.sQ S (S.1 1) ys).trans ?_
        refine frS.trans ?_ (((frS.sC _ 8 1 hi).trans (frS.sC _ 9 0 hi)).trans (frS.sQ _ _ _))
        split
        · exact sPay_fr _ _ hi
        · exact frS.rf
    · exact frS.rf
def Fr (S : gSt) : Prop := ∀ i, S.1 6 ≤ i → i < 16 → S.2.2.2.1 i 7 = 0 ∧ S.2.2.2.1 i 8 = 0 ∧ S.2.2.2.1 i 9 = 0 ∧ S.2.2.2.2 i = -1
theorem Fr.of {S T : gSt} (h : Fr S) (h6 : T.1 6 = S.1 6) (hf : frS (S.1 6) S T) : Fr T := fun i hi h16 => by
  rw [h6] at hi
  rw [(hf i hi).1, (hf i hi).2]
  exact h i hi h16
theorem Fr.tick {S : gSt} (h : Fr S) (hw : WF S) : Fr (sTick S).1 := by
  have h1 := h.of (congrFun (sMove_num hw) 6) (sMove_fr hw)
  have h2 := h1.of (congrFun (sCome_num _) 6) (sCome_fr hw.move)
  exact h2.of rfl (frS.sN _ _ _)
theorem Fr.run : ∀ (n : Nat) {S : gSt}, Fr S → WF S → Fr (sRun n S).1
  | 0, _, h, _ => h
  | n + 1, _, h, hw => Fr.run n (h.tick hw) hw.tick
/-- the world is well, carts to come included -/
def vOk (w : gWd) : Prop := wOk w ∧ Fr w.1
theorem vOk.build {w : gWd} (h : vOk w) (p q : Int32) : vOk (oBuild w p q).2.2 := ⟨h.1.build p q, by unfold oBuild; split <;> (try split) <;> exact h.2⟩
theorem vOk.toll {w : gWd} (h : vOk w) (p q : Int32) : vOk (oToll w p q).2.2 := ⟨h.1.toll p q, by unfold oToll; split <;> exact h.2⟩
theorem vOk.turn {w : gWd} (h : vOk w) : vOk (sTurn w.1, w.2) := ⟨h.1.turn, h.2⟩
theorem vOk.box {w : gWd} (h : vOk w) (x q : Int32) : vOk (oBox w x q).2.2 := ⟨h.1.box x q, by unfold oBox; split <;> exact h.2⟩
theorem vOk.empty {w : gWd} (h : vOk w) (e : Int32) : vOk (oEmpty w e).2.2 := ⟨h.1.empty e, by unfold oEmpty; split <;> exact h.2⟩
theorem vOk.pass {w : gWd} (h : vOk w) (x : Int32) : vOk (oPass w x).2.2 := ⟨h.1.pass x, by unfold oPass; split <;> first | exact h.2.run _ h.1.1 | exact h.2⟩
theorem Fr.new {S : gSt} (h : Fr S) (e ax wt pc cn ch : Nat) : Fr (sNew S e ax wt pc cn ch) := fun i hi h16 => by
  have hi : S.1 6 + 1 ≤ i := hi
  have hin : i ≠ S.1 6 := by omega
  have e1 : ∀ k, (sNew S e ax wt pc cn ch).2.2.2.1 i k = S.2.2.2.1 i k := fun k => if_neg hin
  have e2 : (sNew S e ax wt pc cn ch).2.2.2.2 i = S.2.2.2.2 i := if_neg hin
  rw [e1, e1, e1, e2]
  exact h i (by omega) h16
theorem vOk.come {w : gWd} (h : vOk w) (e ax wt pc cn : Int32) {c : Nat} (hc : c ≤ 1) : vOk (oCome w e ax wt pc cn (nI c)).2.2 := ⟨h.1.come e ax wt pc cn hc, by
  unfold oCome
  split
  · split
    · exact h.2
    · exact h.2.new _ _ _ _ _ _
  · exact h.2⟩
theorem sMove_0 {S : gSt} (h : WF S) : (sMove S).1.1 0 = S.1 0 := congrFun (sMove_num h) 0
theorem sTick_0 {S : gSt} (h : WF S) : (sTick S).1.1 0 = S.1 0 + 1 := by
  show (sCome (sMove S).1).1 0 + 1 = _
  rw [congrFun (sCome_num _) 0, sMove_0 h]
theorem sRun_0 : ∀ (n : Nat) {S : gSt}, WF S → (sRun n S).1.1 0 = S.1 0 + n
  | 0, _, _ => rfl
  | n + 1, S, h => by
    show (sRun n (sTick S).1).1.1 0 = _
    rw [sRun_0 n h.tick, sTick_0 h]
    omega
