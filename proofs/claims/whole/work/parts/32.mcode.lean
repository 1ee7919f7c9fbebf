/-! THE REFERENCE's code -/
abbrev inB (x a c : Int32) : Prop := a ≤ x ∧ x ≤ c
abbrev ixB (x n : Int32) : Prop := 0 ≤ x ∧ x < n

abbrev rmX8_isIn : Room := { frames := 0, cells := 0, slots := 0, locals := 0 }
set_option maxRecDepth 20000 in
theorem k_isIn {l : Launch} {B : gB} (hI : gI B) (V : gMem) (x : Int32) (a : Int32) (c : Int32)  : gM l B yX8_isIn cX8_isIn 3 (some .boolean) rmX8_isIn [.int x, .int a, .int c] V (fun v V' => v = some (.int (if inB x a c then 1 else 0)) ∧ V' = V) := by
  refine gM_of (own := RX8) (L := [(0, .int x), (1, .int a), (2, .int c)]) (by decide +kernel) rfl hI (Nat.le_of_ble_eq_true rfl) rfl ?_
  intro Z hnL hR X F
  refine g_iload_n X 0 rfl dX8_isIn_0 ?_
  refine g_iload_n X 1 rfl dX8_isIn_1 ?_
  refine g_icmp_lt X 14 (by decide) dX8_isIn_2 (fun c1 => ?_) (fun c1 => ?_)
  · refine g_iconst X 0 (by decide) dX8_isIn_14 ?_
    refine g_zret X F rfl ?_ rfl dX8_isIn_15
    exact ⟨by rw [if_neg (show ¬ inB x a c from fun q => absurd c1 (Int32.not_lt.mpr q.1))], rfl⟩
  · refine g_iload_n X 0 rfl dX8_isIn_5 ?_
    refine g_iload_n X 2 rfl dX8_isIn_6 ?_
    refine g_icmp_gt X 14 (by decide) dX8_isIn_7 (fun c2 => ?_) (fun c2 => ?_)
    · refine g_iconst X 0 (by decide) dX8_isIn_14 ?_
      refine g_zret X F rfl ?_ rfl dX8_isIn_15
      exact ⟨by rw [if_neg (show ¬ inB x a c from fun q => absurd c2 (Int32.not_lt.mpr q.2))], rfl⟩
    · refine g_iconst X 1 (by decide) dX8_isIn_10 ?_
      refine g_goto X 15 (by decide) dX8_isIn_11 ?_
      refine g_zret X F rfl ?_ rfl dX8_isIn_15
      exact ⟨by rw [if_pos (show inB x a c from ⟨Int32.not_lt.mp c1, Int32.not_lt.mp c2⟩)], rfl⟩

abbrev rmX6_isBetween : Room := { frames := 0, cells := 0, slots := 0, locals := 0 }
set_option maxRecDepth 20000 in
theorem k_isBetween {l : Launch} {B : gB} (hI : gI B) (V : gMem) (x : Int32) (a : Int32) (c : Int32)  : gM l B yX6_isBetween cX6_isBetween 3 (some .boolean) rmX6_isBetween [.int x, .int a, .int c] V (fun v V' => v = some (.int (if inB x a c then 1 else 0)) ∧ V' = V) := by
  refine gM_of (own := RX6) (L := [(0, .int x), (1, .int a), (2, .int c)]) (by decide +kernel) rfl hI (Nat.le_of_ble_eq_true rfl) rfl ?_
  intro Z hnL hR X F
  refine g_iload_n X 0 rfl dX6_isBetween_0 ?_
  refine g_iload_n X 1 rfl dX6_isBetween_1 ?_
  refine g_icmp_lt X 14 (by decide) dX6_isBetween_2 (fun c1 => ?_) (fun c1 => ?_)
  · refine g_iconst X 0 (by decide) dX6_isBetween_14 ?_
    refine g_zret X F rfl ?_ rfl dX6_isBetween_15
    exact ⟨by rw [if_neg (show ¬ inB x a c from fun q => absurd c1 (Int32.not_lt.mpr q.1))], rfl⟩
  · refine g_iload_n X 0 rfl dX6_isBetween_5 ?_
    refine g_iload_n X 2 rfl dX6_isBetween_6 ?_
    refine g_icmp_gt X 14 (by decide) dX6_isBetween_7 (fun c2 => ?_) (fun c2 => ?_)
    · refine g_iconst X 0 (by decide) dX6_isBetween_14 ?_
      refine g_zret X F rfl ?_ rfl dX6_isBetween_15
      exact ⟨by rw [if_neg (show ¬ inB x a c from fun q => absurd c2 (Int32.not_lt.mpr q.2))], rfl⟩
    · refine g_iconst X 1 (by decide) dX6_isBetween_10 ?_
      refine g_goto X 15 (by decide) dX6_isBetween_11 ?_
      refine g_zret X F rfl ?_ rfl dX6_isBetween_15
      exact ⟨by rw [if_pos (show inB x a c from ⟨Int32.not_lt.mp c1, Int32.not_lt.mp c2⟩)], rfl⟩

set_option maxRecDepth 20000 in
theorem k_isIndexD {l : Launch} {B : gB} (hI : gI B) (V : gMem) (x : Int32) (n : Int32)  : gM l B yX6_isIndex cX6_isIndex 2 (some .boolean) rmX6_isIndex [.int x, .int n] V (fun v V' => v = some (.int (if ixB x n then 1 else 0)) ∧ V' = V) := by
  refine gM_of (own := RX6) (L := [(0, .int x), (1, .int n)]) (by decide +kernel) rfl hI (Nat.le_of_ble_eq_true rfl) rfl ?_
  intro Z hnL hR X F
  refine g_iload_n X 0 rfl dX6_isIndex_0 ?_
  refine g_if_lt X 13 (by decide) dX6_isIndex_1 (fun c1 => ?_) (fun c1 => ?_)
  · refine g_iconst X 0 (by decide) dX6_isIndex_13 ?_
    refine g_zret X F rfl ?_ rfl dX6_isIndex_14
    exact ⟨by rw [if_neg (show ¬ ixB x n from fun q => absurd c1 (Int32.not_lt.mpr q.1))], rfl⟩
  · refine g_iload_n X 0 rfl dX6_isIndex_4 ?_
    refine g_iload_n X 1 rfl dX6_isIndex_5 ?_
    refine g_icmp_ge X 13 (by decide) dX6_isIndex_6 (fun c2 => ?_) (fun c2 => ?_)
    · refine g_iconst X 0 (by decide) dX6_isIndex_13 ?_
      refine g_zret X F rfl ?_ rfl dX6_isIndex_14
      exact ⟨by rw [if_neg (show ¬ ixB x n from fun q => absurd c2 (Int32.not_le.mpr q.2))], rfl⟩
    · refine g_iconst X 1 (by decide) dX6_isIndex_9 ?_
      refine g_goto X 14 (by decide) dX6_isIndex_10 ?_
      refine g_zret X F rfl ?_ rfl dX6_isIndex_14
      exact ⟨by rw [if_pos (show ixB x n from ⟨Int32.not_lt.mp c1, Int32.not_le.mp c2⟩)], rfl⟩

theorem ixB_iff {x : Int32} {n : Nat} (hn : n < 2 ^ 31) : ixB x (nI n) ↔ ∃ j : Nat, j < n ∧ x = nI j := by
  constructor
  · rintro ⟨h1, h2⟩
    rcases pk_ix x hn with q | q | q
    · exact absurd q (Int32.not_lt.mpr h1)
    · exact absurd h2 (Int32.not_lt.mpr q)
    · exact q
  · rintro ⟨j, h1, rfl⟩
    exact ⟨nI_pos' (by omega), nI_lt h1 hn⟩
theorem inB_iff {x : Int32} {a n : Nat} (ha : a < 2 ^ 31) (hn : n < 2 ^ 31 - 1) : inB x (nI a) (nI n) ↔ ∃ j : Nat, a ≤ j ∧ j ≤ n ∧ x = nI j := by
  constructor
  · rintro ⟨h1, h2⟩
    rcases pk_ix x (n := n + 1) (by omega) with q | q | ⟨j, q1, q2⟩
    · exact absurd (Int32.lt_of_le_of_lt h1 q) (nI_pos ha)
    · exact absurd (Int32.le_trans q h2) (nI_ge (by omega) (by omega))
    · refine ⟨j, Classical.byContradiction (fun z => ?_), by omega, q2⟩
      rw [q2] at h1
      exact nI_ge (by omega) ha h1
  · rintro ⟨j, h1, h2, rfl⟩
    exact ⟨nI_le h1 (by omega), nI_le h2 (by omega)⟩
theorem inB_ix {x : Int32} {n : Nat} (hn : n < 2 ^ 31 - 1) : inB x 0 (nI n) ↔ ixB x (nI (n + 1)) := by
  rw [show (0 : Int32) = nI 0 from rfl, inB_iff (by decide) hn, ixB_iff (by omega)]
  constructor
  · rintro ⟨j, h1, h2, h3⟩; exact ⟨j, by omega, h3⟩
  · rintro ⟨j, h1, h2⟩; exact ⟨j, by omega, by omega, h2⟩

abbrev rmX8_no : Room := { frames := 0, cells := 0, slots := 0, locals := 0 }
set_option maxRecDepth 20000 in
theorem k_no {l : Launch} {B : gB} (hI : gI B) (V : gMem) (x : Int32)  : gM l B yX8_no cX8_no 2 (some .int) rmX8_no [.ref (B.2.1 20 0 0), .int x] V (fun v V' => v = some (.int 0) ∧ V' = gup V 20 0 0 0 x) := by
  refine gM_of (own := RX8) (L := [(0, .ref (B.2.1 20 0 0)), (1, .int x)]) (by decide +kernel) rfl hI (Nat.le_of_ble_eq_true rfl) rfl ?_
  intro Z hnL hR X F
  refine g_aload_n X 0 rfl dX8_no_0 ?_
  refine g_iload_n X 1 rfl dX8_no_1 ?_
  refine gp_X8_thrown X ⟨by decide, by decide⟩ fX8_41 dX8_no_2 ?_
  refine gG_nm (fun V1 hV1 => ?_)
  refine g_iconst X 0 (by decide) dX8_no_5 ?_
  refine g_iret X F ?_ rfl dX8_no_6
  exact ⟨rfl, hV1⟩

abbrev rmX8_thrown : Room := { frames := 0, cells := 0, slots := 0, locals := 0 }
set_option maxRecDepth 20000 in
theorem k_thrown {l : Launch} {B : gB} (hI : gI B) (V : gMem)  : gM l B yX8_thrown cX8_thrown 1 (some .int) rmX8_thrown [.ref (B.2.1 20 0 0)] V (fun v V' => v = some (.int (V 20 0 0 0)) ∧ V' = V) := by
  refine gM_of (own := RX8) (L := [(0, .ref (B.2.1 20 0 0))]) (by decide +kernel) rfl hI (Nat.le_of_ble_eq_true rfl) rfl ?_
  intro Z hnL hR X F
  refine g_aload_n X 0 rfl dX8_thrown_0 ?_
  refine gg_X8_thrown X ⟨by decide, by decide⟩ fX8_41 dX8_thrown_1 ?_
  refine g_iret X F ?_ rfl dX8_thrown_4
  exact ⟨rfl, rfl⟩

def rowB (n most : Nat) : Bool := decide (0 < n) && decide (nLen n ≤ most) && nOk n
theorem inB_dig {d : Nat} (h : d < 10) : inB (nI d) 1 2 ↔ (d = 1 ∨ d = 2) := by
  rw [show (1 : Int32) = nI 1 from rfl, show (2 : Int32) = nI 2 from rfl, inB_iff (by decide) (by decide)]
  constructor
  · rintro ⟨j, h1, h2, h3⟩
    have := (nI_eq (by omega) (by omega)).mp h3
    omega
  · intro q; exact ⟨d, by omega, by omega, rfl⟩

abbrev rmX8_isRow : Room := { frames := 1, cells := 0, slots := 0, locals := 22 }
set_option maxRecDepth 20000 in
theorem k_isRow {l : Launch} {B : gB} (hI : gI B) (V : gMem) (n : Nat) (most : Nat) (hn : n < 2 ^ 31) (hm : most < 10) : gM l B yX8_isRow cX8_isRow 4 (some .boolean) rmX8_isRow [.int (nI n), .int (nI most)] V (fun v V' => v = some (.int (if rowB n most = true then 1 else 0)) ∧ V' = V) := by
  refine gM_of (own := RX8) (L := [(0, .int (nI n)), (1, .int (nI most))]) (by decide +kernel) rfl hI (Nat.le_of_ble_eq_true rfl) rfl ?_
  intro Z hnL hR X F
  have hl10 := nLen_10 hn
  refine g_iload_n X 0 rfl dX8_isRow_0 ?_
  have bad : ∀ m : Nat, m < 2 ^ 31 → rowB n most = false → gG Z B (0, 0) V 20 [(0, .int (nI n)), (1, .int (nI most)), (2, .int 0), (3, .int (nI m))] [] := by
    intro m hm hbad
    refine g_iload_n X 3 rfl dX8_isRow_20 ?_
    by_cases hm0 : m = 0
    · refine gG_top 0 (by rw [hm0]; rfl) ?_
      refine g_if_le X 46 (by decide) dX8_isRow_21 (fun c1 => ?_) (fun c1 => ?_)
      · refine g_iload_n X 2 rfl dX8_isRow_46 ?_
        refine g_zret X F rfl ?_ rfl dX8_isRow_47
        exact ⟨by rw [hbad]; rfl, rfl⟩
      ·  exact absurd c1 (by decide)
    · skip
      refine g_if_le X 46 (by decide) dX8_isRow_21 (fun c2 => ?_) (fun c2 => ?_)
      · first | exact absurd (nI_nle (Nat.pos_of_ne_zero hm0) hm) c2 | exact absurd c2 (nI_nle (Nat.pos_of_ne_zero hm0) hm)
      · refine g_iload_n X 2 rfl dX8_isRow_24 ?_
        refine g_if_eq X 46 (by decide) dX8_isRow_25 (fun c3 => ?_) (fun c3 => ?_)
        · refine g_iload_n X 2 rfl dX8_isRow_46 ?_
          refine g_zret X F rfl ?_ rfl dX8_isRow_47
          exact ⟨by rw [hbad]; rfl, rfl⟩
        ·  exact absurd c3 (by decide)
  by_cases hn0 : n = 0
  · refine gG_top 0 (by rw [hn0]; rfl) ?_
    refine g_if_le X 16 (by decide) dX8_isRow_1 (fun c4 => ?_) (fun c4 => ?_)
    · refine g_iconst X 0 (by decide) dX8_isRow_16 ?_
      refine g_istore_n X rfl dX8_isRow_17 [(2, .int 0), (0, .int (nI n)), (1, .int (nI most))] rfl (gnl_lt hnL (by decide)) ?_
      refine g_iload_n X 1 rfl dX8_isRow_18 ?_
      refine g_istore_n X rfl dX8_isRow_19 [(3, .int (nI n)), (2, .int 0), (0, .int (nI n)), (1, .int (nI most))] rfl (gnl_lt hnL (by decide)) ?_
      refine gG_L [2, 3, 1, 0] (L' := [(0, .int (nI n)), (1, .int (nI most)), (2, .int 0), (3, .int (nI n))]) rfl ?_
      exact bad n hn (by unfold rowB; rw [hn0]; rfl)
    ·  exact absurd c4 (by decide)
  · skip
    refine g_if_le X 16 (by decide) dX8_isRow_1 (fun c5 => ?_) (fun c5 => ?_)
    · first | exact absurd (nI_nle (Nat.pos_of_ne_zero hn0) hn) c5 | exact absurd c5 (nI_nle (Nat.pos_of_ne_zero hn0) hn)
    · refine g_iload_n X 0 rfl dX8_isRow_4 ?_
      refine g_callS X hR (As := [.int (nI n)]) (rest := []) mX8_length lX8_44 (k_mlen hI V n (by first | assumption | decide | omega)) rfl rfl (Nat.le_of_ble_eq_true rfl) ⟨Nat.le_of_ble_eq_true rfl, Nat.le_of_ble_eq_true rfl, Nat.le_of_ble_eq_true rfl, Nat.le_of_ble_eq_true rfl⟩ dX8_isRow_5 (fun r6 V7 hz_8 => ?_)
      refine gG_ret hz_8.1 hz_8.2 ?_
      refine gG_st [.int (nI (nLen n))] rfl ?_
      refine g_iload_n X 1 rfl dX8_isRow_8 ?_
      by_cases hml : nLen n ≤ most
      · skip
        refine g_icmp_gt X 16 (by decide) dX8_isRow_9 (fun c9 => ?_) (fun c9 => ?_)
        · first | exact absurd (nI_nlt (by omega) (by omega)) c9 | exact absurd c9 (nI_nlt (by omega) (by omega))
        · refine g_iconst X 1 (by decide) dX8_isRow_12 ?_
          refine g_goto X 17 (by decide) dX8_isRow_13 ?_
          refine g_istore_n X rfl dX8_isRow_17 [(2, .int 1), (0, .int (nI n)), (1, .int (nI most))] rfl (gnl_lt hnL (by decide)) ?_
          refine g_iload_n X 1 rfl dX8_isRow_18 ?_
          refine g_istore_n X rfl dX8_isRow_19 [(3, .int (nI n)), (2, .int 1), (0, .int (nI n)), (1, .int (nI most))] rfl (gnl_lt hnL (by decide)) ?_
          refine gG_L [2, 3, 1, 0] (L' := [(0, .int (nI n)), (1, .int (nI most)), (2, .int 1), (3, .int (nI n))]) rfl ?_
          have loop : ∀ (f le : Nat), nLen le = f → le < 2 ^ 31 → nOk n = nOk le → gG Z B (0, 0) V 20 [(0, .int (nI n)), (1, .int (nI most)), (2, .int 1), (3, .int (nI le))] [] := by
            intro f
            induction f with
            | zero =>
              intro le hl hle hRo
              have hm0 : le = 0 := Classical.byContradiction (fun q => by have := nLen_pos q; omega)
              refine g_iload_n X 3 rfl dX8_isRow_20 ?_
              refine g_if_le X 46 (by decide) dX8_isRow_21 (fun c10 => ?_) (fun c10 => ?_)
              · refine g_iload_n X 2 rfl dX8_isRow_46 ?_
                refine g_zret X F rfl ?_ rfl dX8_isRow_47
                exact ⟨by rw [show rowB n most = true by unfold rowB; rw [hRo, hm0, nOk_0, decide_eq_true (by omega), decide_eq_true hml]; rfl]; rfl, rfl⟩
              · first | exact absurd (by rw [hm0]; decide) c10 | exact absurd c10 (by rw [hm0]; decide)
            | succ f ih =>
              intro le hl hle hRo
              have hm0 : le ≠ 0 := fun q => by rw [q, nLen_0] at hl; omega
              refine g_iload_n X 3 rfl dX8_isRow_20 ?_
              refine g_if_le X 46 (by decide) dX8_isRow_21 (fun c11 => ?_) (fun c11 => ?_)
              · first | exact absurd (nI_nle (Nat.pos_of_ne_zero hm0) hle) c11 | exact absurd c11 (nI_nle (Nat.pos_of_ne_zero hm0) hle)
              · refine g_iload_n X 2 rfl dX8_isRow_24 ?_
                refine g_if_eq X 46 (by decide) dX8_isRow_25 (fun c12 => ?_) (fun c12 => ?_)
                ·  exact absurd c12 (by decide)
                · refine g_iload_n X 3 rfl dX8_isRow_28 ?_
                  refine g_bipush X 10 (by decide) dX8_isRow_29 ?_
                  refine g_irem X (by decide) dX8_isRow_31 ?_
                  refine gG_top (nI (le % 10)) (pk_rem (d := 10) hle (by decide) (by decide)) ?_
                  refine g_iconst X 1 (by decide) dX8_isRow_32 ?_
                  refine g_iconst X 2 (by decide) dX8_isRow_33 ?_
                  refine g_callS X hR (As := [.int (nI (le % 10)), .int 1, .int 2]) (rest := []) mX8_isIn lX8_48 (k_isIn hI V (nI (le % 10)) 1 2 ) rfl rfl (Nat.le_of_ble_eq_true rfl) ⟨Nat.le_of_ble_eq_true rfl, Nat.le_of_ble_eq_true rfl, Nat.le_of_ble_eq_true rfl, Nat.le_of_ble_eq_true rfl⟩ dX8_isRow_34 (fun r13 V14 hz_15 => ?_)
                  refine gG_ret hz_15.1 hz_15.2 ?_
                  refine gG_st [.int (if inB (nI (le % 10)) 1 2 then 1 else 0)] rfl ?_
                  by_cases hdg : le % 10 = 1 ∨ le % 10 = 2
                  · refine gG_top 1 (if_pos ((inB_dig (by omega)).mpr hdg)) ?_
                    refine g_istore_n X rfl dX8_isRow_37 [(2, .int 1), (0, .int (nI n)), (1, .int (nI most)), (3, .int (nI le))] rfl (gnl_lt hnL (by decide)) ?_
                    refine g_iload_n X 3 rfl dX8_isRow_38 ?_
                    refine g_bipush X 10 (by decide) dX8_isRow_39 ?_
                    refine g_idiv X (by decide) dX8_isRow_41 ?_
                    refine gG_top (nI (le / 10)) (pk_div (d := 10) hle (by decide) (by decide)) ?_
                    refine g_istore_n X rfl dX8_isRow_42 [(3, .int (nI (le / 10))), (2, .int 1), (0, .int (nI n)), (1, .int (nI most))] rfl (gnl_lt hnL (by decide)) ?_
                    refine g_goto X 20 (by decide) dX8_isRow_43 ?_
                    refine gG_L [2, 3, 1, 0] (L' := [(0, .int (nI n)), (1, .int (nI most)), (2, .int 1), (3, .int (nI (le / 10)))]) rfl ?_
                    exact ih (le / 10) (by rw [nLen_s hm0] at hl; omega) (Nat.lt_of_le_of_lt (Nat.div_le_self _ _) hle) (by rw [hRo, nOk_s hm0]; rcases hdg with q | q <;> rw [q] <;> rfl)
                  · refine gG_top 0 (if_neg (fun z => hdg ((inB_dig (by omega)).mp z))) ?_
                    refine g_istore_n X rfl dX8_isRow_37 [(2, .int 0), (0, .int (nI n)), (1, .int (nI most)), (3, .int (nI le))] rfl (gnl_lt hnL (by decide)) ?_
                    refine g_iload_n X 3 rfl dX8_isRow_38 ?_
                    refine g_bipush X 10 (by decide) dX8_isRow_39 ?_
                    refine g_idiv X (by decide) dX8_isRow_41 ?_
                    refine gG_top (nI (le / 10)) (pk_div (d := 10) hle (by decide) (by decide)) ?_
                    refine g_istore_n X rfl dX8_isRow_42 [(3, .int (nI (le / 10))), (2, .int 0), (0, .int (nI n)), (1, .int (nI most))] rfl (gnl_lt hnL (by decide)) ?_
                    refine g_goto X 20 (by decide) dX8_isRow_43 ?_
                    refine gG_L [2, 3, 1, 0] (L' := [(0, .int (nI n)), (1, .int (nI most)), (2, .int 0), (3, .int (nI (le / 10)))]) rfl ?_
                    exact bad (le / 10) (Nat.lt_of_le_of_lt (Nat.div_le_self _ _) hle) (by unfold rowB; rw [hRo, nOk_s hm0, show (decide (le % 10 = 1) || decide (le % 10 = 2)) = false by simp only [Bool.or_eq_false_iff, decide_eq_false_iff_not]; exact ⟨fun q => hdg (Or.inl q), fun q => hdg (Or.inr q)⟩]; simp)
          exact loop (nLen n) n rfl hn rfl
      · skip
        refine g_icmp_gt X 16 (by decide) dX8_isRow_9 (fun c16 => ?_) (fun c16 => ?_)
        · refine g_iconst X 0 (by decide) dX8_isRow_16 ?_
          refine g_istore_n X rfl dX8_isRow_17 [(2, .int 0), (0, .int (nI n)), (1, .int (nI most))] rfl (gnl_lt hnL (by decide)) ?_
          refine g_iload_n X 1 rfl dX8_isRow_18 ?_
          refine g_istore_n X rfl dX8_isRow_19 [(3, .int (nI n)), (2, .int 0), (0, .int (nI n)), (1, .int (nI most))] rfl (gnl_lt hnL (by decide)) ?_
          refine gG_L [2, 3, 1, 0] (L' := [(0, .int (nI n)), (1, .int (nI most)), (2, .int 0), (3, .int (nI n))]) rfl ?_
          exact bad n hn (by unfold rowB; rw [decide_eq_false hml]; simp)
        · first | exact absurd (nI_lt (by omega) (by omega)) c16 | exact absurd c16 (nI_lt (by omega) (by omega))

set_option maxRecDepth 20000 in
theorem k_isRowNeg {l : Launch} {B : gB} (hI : gI B) (V : gMem) (x : Int32) (most : Int32) (hx : x < 0) : gM l B yX8_isRow cX8_isRow 4 (some .boolean) rmX8_isRow [.int x, .int most] V (fun v V' => v = some (.int 0) ∧ V' = V) := by
  refine gM_of (own := RX8) (L := [(0, .int x), (1, .int most)]) (by decide +kernel) rfl hI (Nat.le_of_ble_eq_true rfl) rfl ?_
  intro Z hnL hR X F
  refine g_iload_n X 0 rfl dX8_isRow_0 ?_
  refine g_if_le X 16 (by decide) dX8_isRow_1 (fun c1 => ?_) (fun c1 => ?_)
  · refine g_iconst X 0 (by decide) dX8_isRow_16 ?_
    refine g_istore_n X rfl dX8_isRow_17 [(2, .int 0), (0, .int x), (1, .int most)] rfl (gnl_lt hnL (by decide)) ?_
    refine g_iload_n X 1 rfl dX8_isRow_18 ?_
    refine g_istore_n X rfl dX8_isRow_19 [(3, .int x), (2, .int 0), (0, .int x), (1, .int most)] rfl (gnl_lt hnL (by decide)) ?_
    refine g_iload_n X 0 rfl dX8_isRow_20 ?_
    refine g_if_le X 46 (by decide) dX8_isRow_21 (fun c2 => ?_) (fun c2 => ?_)
    · refine g_iload_n X 1 rfl dX8_isRow_46 ?_
      refine g_zret X F rfl ?_ rfl dX8_isRow_47
      exact ⟨rfl, rfl⟩
    · first | exact absurd (Int32.le_of_lt hx) c2 | exact absurd c2 (Int32.le_of_lt hx)
  · first | exact absurd (Int32.le_of_lt hx) c1 | exact absurd c1 (Int32.le_of_lt hx)

theorem nBeg_0 {b : Nat} (h : b ≠ 0) : nBeg b 0 = false := by
  have := nLen_pos h
  unfold nBeg
  rw [nLen_0, decide_eq_false (by omega)]
  rfl

abbrev rmX8_beginning : Room := { frames := 2, cells := 0, slots := 0, locals := 44 }
set_option maxRecDepth 20000 in
theorem k_beginning {l : Launch} {B : gB} (hI : gI B) (V : gMem) (c : gCd) (r : Nat) (hC : CodeM V c) (hk : CodeOk c) (hr : r < 2 ^ 31) (h9 : nLen r ≤ 9) : gM l B yX8_beginning cX8_beginning 3 (some .int) rmX8_beginning [.ref (B.2.1 20 0 0), .int (nI r)] V (fun v V' => v = some (.int (cFindI c r)) ∧ V' = V) := by
  refine gM_of (own := RX8) (L := [(0, .ref (B.2.1 20 0 0)), (1, .int (nI r))]) (by decide +kernel) rfl hI (Nat.le_of_ble_eq_true rfl) rfl ?_
  intro Z hnL hR X F
  have h8 : c.1 ≤ 8 := hk.1
  refine g_iconst X 0 (by decide) dX8_beginning_0 ?_
  refine g_istore_n X rfl dX8_beginning_1 [(2, .int 0), (0, .ref (B.2.1 20 0 0)), (1, .int (nI r))] rfl (gnl_lt hnL (by decide)) ?_
  refine gG_L [1, 2, 0] (L' := [(0, .ref (B.2.1 20 0 0)), (1, .int (nI r)), (2, .int 0)]) rfl ?_
  have loop : ∀ (f : Nat) (k : Nat) , k + f = c.1 → (∀ j, j < k → nBeg (c.2 j) r = false) → gG Z B (0, 0) V 2 [(0, .ref (B.2.1 20 0 0)), (1, .int (nI r)), (2, .int (nI k))] [] := by
    intro f
    induction f with
    | zero =>
      intro k  hf hnb
      refine g_iload_n X 2 rfl dX8_beginning_2 ?_
      refine g_aload_n X 0 rfl dX8_beginning_3 ?_
      refine gg_X8_signals X ⟨by decide, by decide⟩ fX8_62 dX8_beginning_4 ?_
      refine gG_top (nI c.1) (hC.1) ?_
      refine g_icmp_ge X 35 (by decide) dX8_beginning_7 (fun c1 => ?_) (fun c1 => ?_)
      · refine g_iconst X (-1) (by decide) dX8_beginning_35 ?_
        refine g_iret X F ?_ rfl dX8_beginning_36
        exact ⟨by unfold cFindI; rw [cFind_none (fun j hj => hnb j (by omega))], rfl⟩
      · first | exact absurd (nI_le (by omega) (by omega)) c1 | exact absurd c1 (nI_le (by omega) (by omega))
    | succ f ih =>
      intro k  hf hnb
      refine g_iload_n X 2 rfl dX8_beginning_2 ?_
      refine g_aload_n X 0 rfl dX8_beginning_3 ?_
      refine gg_X8_signals X ⟨by decide, by decide⟩ fX8_62 dX8_beginning_4 ?_
      refine gG_top (nI c.1) (hC.1) ?_
      refine g_icmp_ge X 35 (by decide) dX8_beginning_7 (fun c2 => ?_) (fun c2 => ?_)
      · first | exact absurd (nI_ge (by omega) (by omega)) c2 | exact absurd c2 (nI_ge (by omega) (by omega))
      · refine g_iload_n X 1 rfl dX8_beginning_10 ?_
        by_cases hr0 : r = 0
        · refine gG_top 0 (by rw [hr0]; rfl) ?_
          refine g_if_le X 29 (by decide) dX8_beginning_11 (fun c3 => ?_) (fun c3 => ?_)
          · refine g_iinc X 2 rfl (nI (k + 1)) (iinc_1 _) dX8_beginning_29 [(2, .int (nI (k + 1))), (0, .ref (B.2.1 20 0 0)), (1, .int (nI r))] rfl (gnl_lt hnL (by decide)) ?_
            refine g_goto X 2 (by decide) dX8_beginning_32 ?_
            refine gG_L [1, 2, 0] (L' := [(0, .ref (B.2.1 20 0 0)), (1, .int (nI r)), (2, .int (nI (k + 1)))]) rfl ?_
            refine ih (k + 1) (by omega) (fun j hj => by
              by_cases hjk : j = k
              · rw [hjk, hr0]; exact nBeg_0 (by have := (hk.2 k (by omega)).2.2; omega)
              · exact hnb j (by omega))
          ·  exact absurd c3 (by decide)
        · skip
          refine g_if_le X 29 (by decide) dX8_beginning_11 (fun c4 => ?_) (fun c4 => ?_)
          · first | exact absurd (nI_nle (Nat.pos_of_ne_zero hr0) hr) c4 | exact absurd c4 (nI_nle (Nat.pos_of_ne_zero hr0) hr)
          · refine g_iload_n X 1 rfl dX8_beginning_14 ?_
            refine g_aload_n X 0 rfl dX8_beginning_15 ?_
            refine gg_X8_signal X ⟨by decide, by decide⟩ fX8_9 dX8_beginning_16 ?_
            refine g_iload_n X 2 rfl dX8_beginning_19 ?_
            refine g_ialdN X (k) rfl (by omega) (by decide) ⟨by decide, by decide⟩ rfl dX8_beginning_20 ?_
            refine gG_top (nI (c.2 k)) (hC.2 k (by omega)) ?_
            refine g_callS X hR (As := [.int (nI r), .int (nI (c.2 k))]) (rest := []) mX8_begins lX8_65 (k_begins hI V r (c.2 k) (hk.lt (by omega)) hr h9) rfl rfl (Nat.le_of_ble_eq_true rfl) ⟨Nat.le_of_ble_eq_true rfl, Nat.le_of_ble_eq_true rfl, Nat.le_of_ble_eq_true rfl, Nat.le_of_ble_eq_true rfl⟩ dX8_beginning_21 (fun r5 V6 hz_7 => ?_)
            refine gG_ret hz_7.1 hz_7.2 ?_
            refine gG_st [.int (if nBeg (c.2 k) r = true then 1 else 0)] rfl ?_
            by_cases hbg : nBeg (c.2 k) r = true
            · refine gG_top 1 (if_pos hbg) ?_
              refine g_if_eq X 29 (by decide) dX8_beginning_24 (fun c8 => ?_) (fun c8 => ?_)
              ·  exact absurd c8 (by decide)
              · refine g_iload_n X 2 rfl dX8_beginning_27 ?_
                refine g_iret X F ?_ rfl dX8_beginning_28
                exact ⟨by unfold cFindI; rw [cFind_some (by omega) hbg hnb], rfl⟩
            · refine gG_top 0 (if_neg hbg) ?_
              refine g_if_eq X 29 (by decide) dX8_beginning_24 (fun c9 => ?_) (fun c9 => ?_)
              · refine g_iinc X 2 rfl (nI (k + 1)) (iinc_1 _) dX8_beginning_29 [(2, .int (nI (k + 1))), (0, .ref (B.2.1 20 0 0)), (1, .int (nI r))] rfl (gnl_lt hnL (by decide)) ?_
                refine g_goto X 2 (by decide) dX8_beginning_32 ?_
                refine gG_L [1, 2, 0] (L' := [(0, .ref (B.2.1 20 0 0)), (1, .int (nI r)), (2, .int (nI (k + 1)))]) rfl ?_
                refine ih (k + 1) (by omega) (fun j hj => by
                  by_cases hjk : j = k
                  · rw [hjk]; simpa using hbg
                  · exact hnb j (by omega))
              ·  exact absurd c9 (by decide)
  exact loop c.1 0 (by omega) (fun j hj => absurd hj (Nat.not_lt_zero _))

abbrev rmX8_behind : Room := { frames := 1, cells := 0, slots := 0, locals := 22 }
set_option maxRecDepth 20000 in
theorem k_behind {l : Launch} {B : gB} (hI : gI B) (V : gMem) (c : gCd) (r : Nat) (k : Nat) (hC : CodeM V c) (hk : CodeOk c) (hr : r < 2 ^ 31) (h9 : nLen r ≤ 9) (hkn : k < c.1) (hle : nLen (c.2 k) ≤ nLen r) : gM l B yX8_behind cX8_behind 3 (some .int) rmX8_behind [.ref (B.2.1 20 0 0), .int (nI r), .int (nI k)] V (fun v V' => v = some (.int (nI (r % 10 ^ (nLen r - nLen (c.2 k))))) ∧ V' = V) := by
  refine gM_of (own := RX8) (L := [(0, .ref (B.2.1 20 0 0)), (1, .int (nI r)), (2, .int (nI k))]) (by decide +kernel) rfl hI (Nat.le_of_ble_eq_true rfl) rfl ?_
  intro Z hnL hR X F
  have h8 : c.1 ≤ 8 := hk.1
  refine g_iload_n X 1 rfl dX8_behind_0 ?_
  refine g_iload_n X 1 rfl dX8_behind_1 ?_
  refine g_callS X hR (As := [.int (nI r)]) (rest := [.int (nI r)]) mX8_length lX8_44 (k_mlen hI V r (by first | assumption | decide | omega)) rfl rfl (Nat.le_of_ble_eq_true rfl) ⟨Nat.le_of_ble_eq_true rfl, Nat.le_of_ble_eq_true rfl, Nat.le_of_ble_eq_true rfl, Nat.le_of_ble_eq_true rfl⟩ dX8_behind_2 (fun r1 V2 hz_3 => ?_)
  refine gG_ret hz_3.1 hz_3.2 ?_
  refine gG_st [.int (nI (nLen r)), .int (nI r)] rfl ?_
  refine g_aload_n X 0 rfl dX8_behind_5 ?_
  refine gg_X8_signal X ⟨by decide, by decide⟩ fX8_9 dX8_behind_6 ?_
  refine g_iload_n X 2 rfl dX8_behind_9 ?_
  refine g_ialdN X (k) rfl (by omega) (by decide) ⟨by decide, by decide⟩ rfl dX8_behind_10 ?_
  refine gG_top (nI (c.2 k)) (hC.2 k hkn) ?_
  refine g_callS X hR (As := [.int (nI (c.2 k))]) (rest := [.int (nI (nLen r)), .int (nI r)]) mX8_length lX8_44 (k_mlen hI V (c.2 k) (hk.lt hkn)) rfl rfl (Nat.le_of_ble_eq_true rfl) ⟨Nat.le_of_ble_eq_true rfl, Nat.le_of_ble_eq_true rfl, Nat.le_of_ble_eq_true rfl, Nat.le_of_ble_eq_true rfl⟩ dX8_behind_11 (fun r4 V5 hz_6 => ?_)
  refine gG_ret hz_6.1 hz_6.2 ?_
  refine gG_st [.int (nI (nLen (c.2 k))), .int (nI (nLen r)), .int (nI r)] rfl ?_
  refine g_isub X dX8_behind_14 ?_
  refine gG_top (nI (nLen r - nLen (c.2 k))) (pk_sub hle) ?_
  refine g_callS X hR (As := [.int (nI (nLen r - nLen (c.2 k)))]) (rest := [.int (nI r)]) mX8_ten lX8_52 (k_ten hI V (nLen r - nLen (c.2 k)) (by omega)) rfl rfl (Nat.le_of_ble_eq_true rfl) ⟨Nat.le_of_ble_eq_true rfl, Nat.le_of_ble_eq_true rfl, Nat.le_of_ble_eq_true rfl, Nat.le_of_ble_eq_true rfl⟩ dX8_behind_15 (fun r7 V8 hz_9 => ?_)
  refine gG_ret hz_9.1 hz_9.2 ?_
  refine gG_st [.int (nI (10 ^ (nLen r - nLen (c.2 k)))), .int (nI r)] rfl ?_
  refine g_irem X (nI_ne0 (ten_pos _) (ten_lt (by omega))) dX8_behind_18 ?_
  refine gG_top (nI (r % 10 ^ (nLen r - nLen (c.2 k)))) (pk_rem hr (ten_pos _) (ten_lt (by omega))) ?_
  refine g_iret X F ?_ rfl dX8_behind_19
  exact ⟨rfl, rfl⟩

