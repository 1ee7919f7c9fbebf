/-! THE CLASS'S CALLS, as the law makes them -/
/-- the class's memory holds w; the law's own rows hold a -/
def gLS (V : gMem) (w : gWd) (a : Nat → Nat → Int32) : Prop := COk V w ∧ N15 V ∧ ∀ k, V 29 k 0 = a k
theorem gLS.cm {V V' : gMem} {w w' : gWd} {a : Nat → Nat → Int32} (h : gLS V w a) (hQ : COk V' w') (hN : N15 V') (hm : cmod V V') : gLS V' w' a := ⟨hQ, hN, fun k => (hm 29 k 0 (by decide)).trans (h.2.2 k)⟩
def aup (a : Nat → Nat → Int32) (k j : Nat) (x : Int32) : Nat → Nat → Int32 := fun k' => if k' = k then upd (a k) j x else a k'
def arow (a : Nat → Nat → Int32) (k : Nat) (f : Nat → Int32) : Nat → Nat → Int32 := fun k' => if k' = k then f else a k'
theorem COk.own {V V' : gMem} {w : gWd} (h : COk V w) (hm : ∀ K b i, K < 20 → V' K b i = V K b i) : COk V' w :=
  ⟨h.1.fr (fun K b i _ q => hm K b i (by omega)), ⟨by rw [hm 1 0 0 (by decide)]; exact h.2.1.1, fun k hk => by rw [hm 2 0 0 (by decide)]; exact h.2.1.2 k hk⟩, fun j hj => by rw [hm 4 0 0 (by decide)]; exact h.2.2 j hj⟩
theorem gLS.own {V : gMem} {w : gWd} {a : Nat → Nat → Int32} (h : gLS V w a) (k j : Nat) (x : Int32) : gLS (gup V 29 k 0 j x) w (aup a k j x) := by
  refine ⟨h.1.own (fun K b i hK => gup_off V x (by omega)), h.2.1.fr (fun b i => gup_off V x (by omega)), fun k' => ?_⟩
  unfold aup
  by_cases hk : k' = k
  · subst hk
    rw [if_pos rfl, gup_row, h.2.2]
  · rw [if_neg hk, gup_off V x (by omega)]
    exact h.2.2 k'
theorem gLS.row {V : gMem} {w : gWd} {a : Nat → Nat → Int32} (h : gLS V w a) (k : Nat) (f : Nat → Int32) : gLS (gzf V k f) w (arow a k f) := by
  refine ⟨h.1.own (fun K b i hK => gzf_ne V f (by omega)), h.2.1.fr (fun b i => gzf_ne V f (by omega)), fun k' => ?_⟩
  unfold arow
  by_cases hk : k' = k
  · subst hk
    rw [if_pos rfl, gzf_at]
  · rw [if_neg hk, gzf_ne V f (by omega)]
    exact h.2.2 k'
theorem ix_n {i n : Nat} (h : i < n) (hn : n < 2 ^ 31) : ixB (nI i) (nI n) := ⟨nI_pos' (by omega), nI_lt h hn⟩
theorem in_n {c i n : Nat} (h1 : c ≤ i) (h2 : i ≤ n) (hn : n < 2 ^ 31) : inB (nI i) (nI c) (nI n) := ⟨nI_le h1 (by omega), nI_le h2 hn⟩
theorem wOk.n16 {w : gWd} (h : wOk w) : w.1.1 6 ≤ 16 := h.1.1.2.2.2.2.2

theorem c_cart {l : Launch} {B : gB} (hI : gI B) (V : gMem) (w : gWd) (a : Nat → Nat → Int32) (i : Nat) (k : Nat) (hL : gLS V w a) (hw : wOk w) (hi : i < w.1.1 6) (hk : k < 9) : gM l B yX6_cart cX6_cart 4 (some .int) rmX6_cart [.ref (B.2.1 0 0 0), .int (nI i), .int (nI k)] V (fun v V' => v = some (.int (sTell w.1 i k)) ∧ gLS V' w a) := by
  have h16 := hw.n16
  have h0 := p_cart (l := l) (B := B) hI V w (nI i) (nI k) hL.1 hw hL.2.1 (ix_n hi (by omega)) (ix_n hk (by decide))
  rw [show oCart w (nI i) (nI k) = (0, sTell w.1 i k, w) from by unfold oCart; rw [if_pos ⟨ix_n hi (by omega), ix_n hk (by decide)⟩, nI_clamp (by omega), nI_clamp (by omega)]] at h0
  exact gM.mono h0 (fun v V' h => ⟨h.1, hL.cm h.2.2.1 h.2.2.2.1 h.2.2.2.2⟩)

theorem c_count {l : Launch} {B : gB} (hI : gI B) (V : gMem) (w : gWd) (a : Nat → Nat → Int32) (k : Nat) (hL : gLS V w a) (hw : wOk w) (hk : k < 11) : gM l B yX6_count cX6_count 2 (some .int) rmX6_count [.ref (B.2.1 0 0 0), .int (nI k)] V (fun v V' => v = some (.int (cntV w k)) ∧ gLS V' w a) := by
  have h16 := hw.n16
  have h0 := p_count (l := l) (B := B) hI V w (nI k) hL.1 hw hL.2.1 (ix_n hk (by decide))
  rw [show oCount w (nI k) = (0, cntV w k, w) from by unfold oCount; rw [if_pos (show ixB (nI k) 11 from ix_n hk (by decide)), nI_clamp (by omega)]] at h0
  exact gM.mono h0 (fun v V' h => ⟨h.1, hL.cm h.2.2.1 h.2.2.2.1 h.2.2.2.2⟩)

theorem c_box {l : Launch} {B : gB} (hI : gI B) (V : gMem) (w : gWd) (a : Nat → Nat → Int32) (e : Nat) (k : Nat) (hL : gLS V w a) (hw : wOk w) (he : e < 2) (hk : k < 4) : gM l B yX6_box cX6_box 3 (some .int) rmX6_box [.ref (B.2.1 0 0 0), .int (nI e), .int (nI k)] V (fun v V' => v = some (.int (gTell w.1 e k)) ∧ gLS V' w a) := by
  have h16 := hw.n16
  have h0 := p_box (l := l) (B := B) hI V w (nI e) (nI k) hL.1 hw hL.2.1 (ix_n he (by decide)) (ix_n hk (by decide))
  rw [show oBox w (nI e) (nI k) = (0, gTell w.1 e k, w) from by unfold oBox; rw [if_pos ⟨ix_n he (by decide), ix_n hk (by decide)⟩, nI_clamp (by omega), nI_clamp (by omega)]] at h0
  exact gM.mono h0 (fun v V' h => ⟨h.1, hL.cm h.2.2.1 h.2.2.2.1 h.2.2.2.2⟩)

theorem c_queue {l : Launch} {B : gB} (hI : gI B) (V : gMem) (w : gWd) (a : Nat → Nat → Int32) (e : Nat) (k : Nat) (hL : gLS V w a) (hw : wOk w) (he : e < 2) (hk : k < (w.1.2.1 e).length) : gM l B yX6_queue cX6_queue 3 (some .int) rmX6_queue [.ref (B.2.1 0 0 0), .int (nI e), .int (nI k)] V (fun v V' => v = some (.int (nI ((w.1.2.1 e)[k]?.getD 0))) ∧ gLS V' w a) := by
  have h16 := hw.n16
  have hl := hL.1.1.bnd (r := e) (by omega)
  have h0 := p_queue (l := l) (B := B) hI V w (nI e) (nI k) hL.1 hw hL.2.1 (ix_n he (by decide)) (by rw [nI_clamp (by omega)]; exact ix_n hk (by omega))
  rw [show oQueue w (nI e) (nI k) = (0, nI ((w.1.2.1 e)[k]?.getD 0), w) from by unfold oQueue; rw [nI_clamp (n := e) (by omega), if_pos ⟨ix_n he (by decide), ix_n hk (by omega)⟩, nI_clamp (by omega)]] at h0
  exact gM.mono h0 (fun v V' h => ⟨h.1, hL.cm h.2.2.1 h.2.2.2.1 h.2.2.2.2⟩)

theorem c_foresee {l : Launch} {B : gB} (hI : gI B) (V : gMem) (w : gWd) (a : Nat → Nat → Int32) (n : Nat) (k : Nat) (hL : gLS V w a) (hw : wOk w) (h1 : 1 ≤ n) (hn : n ≤ 100) (hk : k ≤ 2) : gM l B yX6_foresee cX6_foresee 4 (some .int) rmX6_foresee [.ref (B.2.1 0 0 0), .int (nI n), .int (nI k)] V (fun v V' => v = some (.int (fsV w.1 n k)) ∧ gLS V' w a) := by
  have h16 := hw.n16
  have h0 := p_foresee (l := l) (B := B) hI V w (nI n) (nI k) hL.1 hw hL.2.1 (in_n h1 hn (by decide)) (in_n (Nat.zero_le k) hk (by decide))
  rw [show oSee w (nI n) (nI k) = (0, fsV w.1 n k, w) from by unfold oSee; rw [if_pos (show inB (nI n) 1 100 from in_n h1 hn (by decide)), if_pos (show inB (nI k) 0 2 from in_n (Nat.zero_le k) hk (by decide)), nI_clamp (by omega), nI_clamp (by omega)]] at h0
  exact gM.mono h0 (fun v V' h => ⟨h.1, hL.cm h.2.2.1 h.2.2.2.1 h.2.2.2.2⟩)

theorem c_over {l : Launch} {B : gB} (hI : gI B) (V : gMem) (w : gWd) (a : Nat → Nat → Int32) (i : Nat) (hL : gLS V w a) (hw : wOk w) (hi : i < w.1.1 6) : gM l B yX6_over cX6_over 3 (some .int) rmX6_over [.ref (B.2.1 0 0 0), .int (nI i)] V (fun v V' => v = some (.int (ovF i 201 0 w.1)) ∧ gLS V' w a) := by
  have h16 := hw.n16
  have h0 := p_over (l := l) (B := B) hI V w (nI i) hL.1 hw hL.2.1 (ix_n hi (by omega))
  rw [show oOver w (nI i) = (0, ovF i 201 0 w.1, w) from by unfold oOver; rw [if_pos (ix_n hi (by omega)), nI_clamp (by omega)]] at h0
  exact gM.mono h0 (fun v V' h => ⟨h.1, hL.cm h.2.2.1 h.2.2.2.1 h.2.2.2.2⟩)

theorem c_empty {l : Launch} {B : gB} (hI : gI B) (V : gMem) (w : gWd) (a : Nat → Nat → Int32) (e : Nat) (hL : gLS V w a) (hw : wOk w) (he : e < 2) : gM l B yX6_empty cX6_empty 4 (some .int) rmX6_empty [.ref (B.2.1 0 0 0), .int (nI e)] V (fun v V' => v = some (.int (nI (w.1.2.2.1 e 4))) ∧ gLS V' (sG (sG w.1 e 1 0) e 4 0, w.2) a) := by
  have h16 := hw.n16
  have h0 := p_empty (l := l) (B := B) hI V w (nI e) hL.1 hw hL.2.1 (ix_n he (by decide))
  rw [show oEmpty w (nI e) = (0, nI (w.1.2.2.1 e 4), (sG (sG w.1 e 1 0) e 4 0, w.2)) from by unfold oEmpty; rw [if_pos (show ixB (nI e) 2 from ix_n he (by decide)), nI_clamp (by omega)]] at h0
  exact gM.mono h0 (fun v V' h => ⟨h.1, hL.cm h.2.2.1 h.2.2.2.1 h.2.2.2.2⟩)

theorem c_setToll {l : Launch} {B : gB} (hI : gI B) (V : gMem) (w : gWd) (a : Nat → Nat → Int32) (p : Nat) (q : Nat) (hL : gLS V w a) (hw : wOk w) (hp : p ≤ 9) (hq : q ≤ 9) : gM l B yX6_setToll cX6_setToll 4 (some .int) rmX6_setToll [.ref (B.2.1 0 0 0), .int (nI p), .int (nI q)] V (fun v V' => v = some (.int (nI (10 * w.1.1 4 + w.1.1 5))) ∧ gLS V' (sN (sN w.1 4 p) 5 q, w.2) a) := by
  have h16 := hw.n16
  have h0 := p_setToll (l := l) (B := B) hI V w (nI p) (nI q) hL.1 hw hL.2.1 (in_n (Nat.zero_le p) hp (by decide)) (in_n (Nat.zero_le q) hq (by decide))
  rw [show oToll w (nI p) (nI q) = (0, nI (10 * w.1.1 4 + w.1.1 5), (sN (sN w.1 4 p) 5 q, w.2)) from by unfold oToll; rw [if_pos ⟨in_n (Nat.zero_le p) hp (by decide), in_n (Nat.zero_le q) hq (by decide)⟩, nI_clamp (by omega), nI_clamp (by omega)]] at h0
  exact gM.mono h0 (fun v V' h => ⟨h.1, hL.cm h.2.2.1 h.2.2.2.1 h.2.2.2.2⟩)

theorem c_rebuild {l : Launch} {B : gB} (hI : gI B) (V : gMem) (w : gWd) (a : Nat → Nat → Int32) (p : Nat) (q : Nat) (hL : gLS V w a) (hw : wOk w) (hp : 4 ≤ p) (hp2 : p ≤ 30) (hq : 10 ≤ q) (hq2 : q ≤ 500) (he : w.1.2.1 2 = []) : gM l B yX6_rebuild cX6_rebuild 4 (some .int) rmX6_rebuild [.ref (B.2.1 0 0 0), .int (nI p), .int (nI q)] V (fun v V' => v = some (.int (nI (w.1.1 3))) ∧ gLS V' (sPB w.1 p q, w.2) a) := by
  have h16 := hw.n16
  have h0 := p_rebuild (l := l) (B := B) hI V w (nI p) (nI q) hL.1 hw hL.2.1 (in_n hp hp2 (by decide)) (in_n hq hq2 (by decide)) he
  rw [show oBuild w (nI p) (nI q) = (0, nI (w.1.1 3), (sPB w.1 p q, w.2)) from by unfold oBuild; rw [if_pos ⟨in_n hp hp2 (by decide), in_n hq hq2 (by decide)⟩, if_pos he, nI_clamp (by omega), nI_clamp (by omega)]] at h0
  exact gM.mono h0 (fun v V' h => ⟨h.1, hL.cm h.2.2.1 h.2.2.2.1 h.2.2.2.2⟩)

theorem c_come {l : Launch} {B : gB} (hI : gI B) (V : gMem) (w : gWd) (a : Nat → Nat → Int32) (e : Nat) (x : Nat) (g : Nat) (s : Nat) (c : Nat) (h : Nat) (hL : gLS V w a) (hw : wOk w) (hfr : Fr w.1) (he : e < 2) (hx1 : 1 ≤ x) (hx2 : x ≤ 4) (hg1 : 1 ≤ g) (hg2 : g ≤ 200) (hs1 : 1 ≤ s) (hs2 : s ≤ 3) (hc : c ≤ 100) (hh : h ≤ 1) (hn : w.1.1 6 < 16) : gM l B yX6_come cX6_come 8 (some .int) rmX6_come [.ref (B.2.1 0 0 0), .int (nI e), .int (nI x), .int (nI g), .int (nI s), .int (nI c), .int (nI h)] V (fun v V' => v = some (.int (nI (w.1.1 6))) ∧ gLS V' (sNew w.1 e x g s c h, w.2) a) := by
  have h16 := hw.n16
  have h0 := p_come (l := l) (B := B) hI V w (nI e) (nI x) (nI g) (nI s) (nI c) h hL.1 hw hL.2.1 hh hfr (ix_n he (by decide)) (in_n hx1 hx2 (by decide)) (in_n hg1 hg2 (by decide)) (in_n hs1 hs2 (by decide)) (in_n (Nat.zero_le c) hc (by decide)) hn
  rw [show oCome w (nI e) (nI x) (nI g) (nI s) (nI c) (nI h) = (0, nI (w.1.1 6), (sNew w.1 e x g s c h, w.2)) from by unfold oCome; rw [if_pos ⟨ix_n he (by decide), in_n hx1 hx2 (by decide), in_n hg1 hg2 (by decide), in_n hs1 hs2 (by decide), in_n (Nat.zero_le c) hc (by decide)⟩, if_neg (by omega), nI_clamp (by omega), nI_clamp (by omega), nI_clamp (by omega), nI_clamp (by omega), nI_clamp (by omega), nI_clamp (by omega)]] at h0
  exact gM.mono h0 (fun v V' h => ⟨h.1, hL.cm h.2.2.1 h.2.2.2.1 h.2.2.2.2⟩)

theorem c_pass1 {l : Launch} {B : gB} (hI : gI B) (V : gMem) (w : gWd) (a : Nat → Nat → Int32) (hL : gLS V w a) (hw : wOk w) : gM l B yX6_pass cX6_pass 2 (some .int) rmX6_pass [.ref (B.2.1 0 0 0), .int (nI 1)] V (fun v V' => v = some (.int (nI (sTick w.1).2)) ∧ gLS V' ((sTick w.1).1, w.2) a) := by
  have h0 := p_pass (l := l) (B := B) hI V w (nI 1) hL.1 hw hL.2.1 (in_n (Nat.le_refl 1) (by decide) (by decide))
  rw [show oPass w (nI 1) = (0, nI (sTick w.1).2, ((sTick w.1).1, w.2)) from by unfold oPass; rw [if_pos (show inB (nI 1) 1 200 from in_n (Nat.le_refl 1) (by decide) (by decide)), nI_clamp (by decide), sRun_one]] at h0
  exact gM.mono h0 (fun v V' h => ⟨h.1, hL.cm h.2.2.1 h.2.2.2.1 h.2.2.2.2⟩)
theorem c_change {l : Launch} {B : gB} (hI : gI B) (V : gMem) (w : gWd) (a : Nat → Nat → Int32) (hL : gLS V w a) (hw : wOk w) : gM l B yX6_change cX6_change 1 (some .int) rmX6_change [.ref (B.2.1 0 0 0)] V (fun v V' => v = some (.int (nI (1 - w.1.1 1))) ∧ gLS V' (sTurn w.1, w.2) a) :=
  gM.mono (k_Cchange hI V w hL.1 hw) (fun v V' h => ⟨h.1, hL.cm h.2.1 (hL.2.1.br h.2.2.2 h.2.1.1) h.2.2.1⟩)
theorem c_keep {l : Launch} {B : gB} (hI : gI B) (V : gMem) (w : gWd) (a : Nat → Nat → Int32) (hL : gLS V w a) (hw : wOk w) : gM l B yX6_keep cX6_keep 6 (some .int) rmX6_keep [.ref (B.2.1 0 0 0)] V (fun v V' => v = some (.int (oKeep w)) ∧ gLS V' w a) :=
  gM.mono (k_Ckeep hI V w hL.1 hw hL.2.1) (fun v V' h => ⟨h.1, hL.cm h.2.1 h.2.2.1 h.2.2.2⟩)
theorem c_digest {l : Launch} {B : gB} (hI : gI B) (V : gMem) (w : gWd) (a : Nat → Nat → Int32) (hL : gLS V w a) (hw : wOk w) : gM l B yX6_digest cX6_digest 4 (some .long) rmX6_digest [.ref (B.2.1 0 0 0)] V (fun v V' => v = some (.long (oDig w)) ∧ gLS V' w a) :=
  gM.mono (k_Cdigest hI V w hL.1 hw) (fun v V' h => ⟨h.1, h.2 ▸ hL⟩)

