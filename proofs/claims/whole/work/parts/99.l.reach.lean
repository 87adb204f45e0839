/-! dinners -/
def dnH (w : Rv) (k : Nat) : Nat := (w.2 k 0).toNatClampNeg
def dnP (w : Rv) (k : Nat) : Nat := (w.2 k 1).toNatClampNeg
def dnL (w : Rv) (k : Nat) : Nat := (w.2 k 2).toNatClampNeg
theorem dnH_ok {w : Rv} (h : DvOK w) {k : Nat} (hk : k < w.1) : w.2 k 0 = nI (dnH w k) ∧ dnH w k ≤ 60 := by
  obtain ⟨p, h1, h2⟩ := (h.2 k hk).1
  unfold dnH
  rw [h2, nI_clamp (by omega)]
  exact ⟨rfl, h1⟩
theorem dnP_ok {w : Rv} (h : DvOK w) {k : Nat} (hk : k < w.1) : w.2 k 1 = nI (dnP w k) ∧ dnP w k < 8 := by
  obtain ⟨p, h1, h2⟩ := (h.2 k hk).2.1
  unfold dnP
  rw [h2, nI_clamp (by omega)]
  exact ⟨rfl, h1⟩
theorem dnL_ok {w : Rv} (h : DvOK w) {k : Nat} (hk : k < w.1) : w.2 k 2 = nI (dnL w k) ∧ dnL w k ≤ 60 := by
  obtain ⟨p, h0, h1, h2⟩ := (h.2 k hk).2.2.1
  unfold dnL
  rw [h2, nI_clamp (by omega)]
  exact ⟨rfl, h1⟩
theorem dn_mono {w : Rv} (h : DvOK w) {j k : Nat} (hjk : j ≤ k) (hk : k < w.1) : dnH w j ≤ dnH w k := by
  have h1 := (h.2 k hk).2.2.2 j hjk
  have h2 := dnH_ok h (show j < w.1 by omega)
  have h3 := dnH_ok h hk
  rw [h2.1, h3.1, nI_toInt (by omega), nI_toInt (by omega)] at h1
  omega
def svb (v : Hv) (w : Rv) (s i k : Nat) : Bool := decide (dnP w k = dnP w i ∧ dnL w k + hWe v (dnP w i) * (dnH w k - dnH w i) ≤ wv v s (dnP w i))
theorem svb_iff {v : Hv} {w : Rv} {s i k : Nat} : svb v w s i k = true ↔ (dnP w k = dnP w i ∧ dnL w k + hWe v (dnP w i) * (dnH w k - dnH w i) ≤ wv v s (dnP w i)) := decide_eq_true_iff
def rcF (v : Hv) (w : Rv) (s i : Nat) : Nat → Nat → Nat
  | 0, k => k
  | m + 1, k => if svb v w s i k then rcF v w s i m (k + 1) else k
theorem rcF_spec {v : Hv} {w : Rv} {s i : Nat} : ∀ m k, k ≤ rcF v w s i m k ∧ rcF v w s i m k ≤ k + m ∧ (∀ j, k ≤ j → j < rcF v w s i m k → svb v w s i j = true) ∧ (rcF v w s i m k < k + m → svb v w s i (rcF v w s i m k) = false)
  | 0, k => ⟨Nat.le_refl _, Nat.le_refl _, fun j h1 h2 => by have h2 : j < k := h2; omega, fun h => by have h : k < k + 0 := h; omega⟩
  | m + 1, k => by
    by_cases c : svb v w s i k = true
    · have e : rcF v w s i (m + 1) k = rcF v w s i m (k + 1) := if_pos c
      obtain ⟨i1, i2, i3, i4⟩ := rcF_spec (v := v) (w := w) (s := s) (i := i) m (k + 1)
      rw [e]
      refine ⟨by omega, by omega, fun j h1 h2 => ?_, fun h => i4 (by omega)⟩
      by_cases d : j = k
      · rw [d]; exact c
      · exact i3 j (by omega) h2
    · have e : rcF v w s i (m + 1) k = k := if_neg c
      rw [e]
      refine ⟨Nat.le_refl _, by omega, fun j h1 h2 => by omega, fun _ => ?_⟩
      cases d : svb v w s i k
      · rfl
      · exact absurd d c
def rcn (v : Hv) (w : Rv) (s i : Nat) : Nat := rcF v w s i (w.1 - i) i
theorem rcn_b {v : Hv} {w : Rv} {s i : Nat} (hi : i ≤ w.1) : i ≤ rcn v w s i ∧ rcn v w s i ≤ w.1 := by
  obtain ⟨i1, i2, -, -⟩ := rcF_spec (v := v) (w := w) (s := s) (i := i) (w.1 - i) i
  unfold rcn
  omega
theorem rcn_iff {v : Hv} {w : Rv} {s i e : Nat} (hi : i ≤ e) (he : e ≤ w.1) : e ≤ rcn v w s i ↔ ∀ k, i ≤ k → k < e → svb v w s i k = true := by
  obtain ⟨i1, i2, i3, i4⟩ := rcF_spec (v := v) (w := w) (s := s) (i := i) (w.1 - i) i
  unfold rcn
  constructor
  · intro h k h1 h2
    exact i3 k h1 (by omega)
  · intro h
    apply Classical.byContradiction
    intro q
    have h1 := i4 (by omega)
    rw [h _ i1 (by omega)] at h1
    cases h1
theorem rc_ok {v : Hv} {w : Rv} (dw : DvOK w) : RcOK (rcn v w) w.1 := by
  refine ⟨fun s i hi => rcn_b hi, fun s i j hij hj => ?_⟩
  have bi := rcn_b (v := v) (w := w) (s := s) (show i ≤ w.1 by omega)
  have bj := rcn_b (v := v) (w := w) (s := s) hj
  by_cases c : rcn v w s i ≤ j
  · omega
  · refine (rcn_iff (by omega) bi.2).mpr (fun k h1 h2 => ?_)
    have hk := (rcn_iff (i := i) (e := rcn v w s i) bi.1 bi.2).mp (Nat.le_refl _)
    obtain ⟨p1, -⟩ := svb_iff.mp (hk j hij (by omega))
    obtain ⟨p3, p4⟩ := svb_iff.mp (hk k (by omega) h2)
    have m1 := dn_mono dw hij (by omega)
    have m2 := Nat.mul_le_mul_left (hWe v (dnP w i)) (show dnH w k - dnH w j ≤ dnH w k - dnH w i by omega)
    refine svb_iff.mpr ⟨p3.trans p1.symm, ?_⟩
    rw [p1]
    omega
def dnA (v : Hv) (w : Rv) : Prop := ∀ k, k < w.1 → dnP w k < hP v
theorem dcH {h : Rec} {w : Rv} (dw : DvOK w) (dx : DX h w) {k : Nat} (hk : k < w.1) : fX5_cell h (nI k) (nI 1) = some (nI (dnH w k)) := by
  rw [cell_nI (lim := 8) dx.1 dx.2.1 dw.1 (by decide) hk (by decide), ← (dnH_ok dw hk).1]
  exact congrArg some (dx.2.2 k hk 0 (by decide))
theorem dcP {h : Rec} {w : Rv} (dw : DvOK w) (dx : DX h w) {k : Nat} (hk : k < w.1) : fX5_cell h (nI k) (nI 2) = some (nI (dnP w k)) := by
  rw [cell_nI (lim := 8) dx.1 dx.2.1 dw.1 (by decide) hk (by decide), ← (dnP_ok dw hk).1]
  exact congrArg some (dx.2.2 k hk 1 (by decide))
theorem dcL {h : Rec} {w : Rv} (dw : DvOK w) (dx : DX h w) {k : Nat} (hk : k < w.1) : fX5_cell h (nI k) (nI 3) = some (nI (dnL w k)) := by
  rw [cell_nI (lim := 8) dx.1 dx.2.1 dw.1 (by decide) hk (by decide), ← (dnL_ok dw hk).1]
  exact congrArg some (dx.2.2 k hk 2 (by decide))
theorem hasDn {g : Gs} {u d : Nat} {v : Hv} {w : Rv} (ok : HvOK v) (hx : HX (g u) v) (dw : DvOK w) (dx : DX (g d) w) : (dnA v w → fX2_hasPieces g u d (nI 2) = some (nI 1)) ∧ (¬ dnA v w → fX2_hasPieces g u d (nI 2) = some (nI 0)) := by
  have h8 := dw.1
  have hsz := dx.2.1
  have key : ∀ e k, k + e = w.1 → (∀ j, j < k → dnP w j < hP v) → (dnA v w → iter (fun st : Int32 => bX2_hasPieces_2 g u d (nI 2) st) (nI k) = some (nI 1)) ∧ (¬ dnA v w → iter (fun st : Int32 => bX2_hasPieces_2 g u d (nI 2) st) (nI k) = some (nI 0)) := by
    intro e
    induction e with
    | zero =>
      intro k hk hj
      refine ⟨fun _ => iter_end ?_, fun q => absurd (fun j hj2 => hj j (by omega)) q⟩
      show bX2_hasPieces_2 g u d (nI 2) (nI k) = _
      unfold bX2_hasPieces_2
      simp (disch := omega) only [hsz, bd_some, gd_true, inR_nI, nI_clamp, nI_add, pk_mul, pk_sub, leT, leF, ltT, ltF, eqT, eqF, ite_true, ite_false, reduceIte, nz_nI, oc_s, oc_n, pk_div, pk_rem, m1F, L0, L1, L2, L3, L4, L5, L6, L7, L8, L9, L10, L11, L12, L19, L20, L24, L25, L27, L28, L30, L32, L37, L39, L40, L47, L48, L50, L55, L57, L60, L61, L63, L71, L80, L97, L99, L100, L120, L122, L128, L161, L17, L600, L1000000, L1024, L1408, isB0, isB1, subdm, inT, inFl, inFh]
    | succ e ih =>
      intro k hk hj
      have hkw : k < w.1 := by omega
      have hp8 := (dnP_ok dw hkw).2
      have hc := dcP dw dx hkw
      by_cases c : dnP w k < hP v
      · have e2 : bX2_hasPieces_2 g u d (nI 2) (nI k) = some (.inl (nI (k + 1))) := by
          unfold bX2_hasPieces_2
          simp (disch := omega) only [hsz, hc, hasPiece_T ok hx, bd_some, gd_true, inR_nI, nI_clamp, nI_add, pk_mul, pk_sub, leT, leF, ltT, ltF, eqT, eqF, ite_true, ite_false, reduceIte, nz_nI, oc_s, oc_n, pk_div, pk_rem, m1F, L0, L1, L2, L3, L4, L5, L6, L7, L8, L9, L10, L11, L12, L19, L20, L24, L25, L27, L28, L30, L32, L37, L39, L40, L47, L48, L50, L55, L57, L60, L61, L63, L71, L80, L97, L99, L100, L120, L122, L128, L161, L17, L600, L1000000, L1024, L1408, isB0, isB1, subdm, inT, inFl, inFh]
        rw [iter_step (s := nI k) (s' := nI (k + 1)) e2]
        refine ih (k + 1) (by omega) (fun j hj2 => ?_)
        by_cases e3 : j = k
        · rw [e3]; exact c
        · exact hj j (by omega)
      · refine ⟨fun q => absurd (q k hkw) c, fun _ => iter_end ?_⟩
        show bX2_hasPieces_2 g u d (nI 2) (nI k) = _
        unfold bX2_hasPieces_2
        simp (disch := omega) only [hsz, hc, hasPiece_F hx c, bd_some, gd_true, inR_nI, nI_clamp, nI_add, pk_mul, pk_sub, leT, leF, ltT, ltF, eqT, eqF, ite_true, ite_false, reduceIte, nz_nI, oc_s, oc_n, pk_div, pk_rem, m1F, L0, L1, L2, L3, L4, L5, L6, L7, L8, L9, L10, L11, L12, L19, L20, L24, L25, L27, L28, L30, L32, L37, L39, L40, L47, L48, L50, L55, L57, L60, L61, L63, L71, L80, L97, L99, L100, L120, L122, L128, L161, L17, L600, L1000000, L1024, L1408, isB0, isB1, subdm, inT, inFl, inFh]
  exact key w.1 0 (by omega) (fun j hj => by omega)
theorem sleF {l x y : Nat} (h : y < l + x) (hl : l < 2 ^ 20) (hx : x < 2 ^ 20) (hy : y < 2 ^ 20) : (nI l ≤ nI y - nI x) = False := eq_false (fun q => by
  rw [Int32.le_iff_toInt_le, pk_sub_toInt (by omega) (by omega), nI_toInt (by omega)] at q
  omega)
theorem stretch_nI {g : Gs} {u d s k : Nat} {v : Hv} {w : Rv} (ok : HvOK v) (hx : HX (g u) v) (dw : DvOK w) (dx : DX (g d) w) (ha : dnA v w) (hs : s < hS v) (hk : k < w.1) : fX6_stretch g u d (nI s) (nI k) = some (nI (rcn v w s k)) := by
  have h8 := dw.1
  have hP8 := ok.1
  have hsz := dx.2.1
  have hp := ha k hk
  have hwv := wv_le ok hs (p := dnP w k)
  have hwe := we_le ok hp
  have hwx := hx.we hp
  have hwt := worthTo_nI ok hx hs hp
  have key : ∀ m i, k ≤ i → i + m = w.1 → iter (fun st : Int32 => bX6_stretch_31 g u d (nI k) (nI (dnP w k)) (nI (wv v s (dnP w k))) st) (nI i) = some (nI (rcF v w s k m i)) := by
    intro m
    induction m with
    | zero =>
      intro i hi hm
      refine iter_out (step := fun st : Int32 => bX6_stretch_31 g u d (nI k) (nI (dnP w k)) (nI (wv v s (dnP w k))) st) (s := nI i) ?_
      show bX6_stretch_31 g u d (nI k) (nI (dnP w k)) (nI (wv v s (dnP w k))) (nI i) = out1 (some (nI i))
      unfold bX6_stretch_31 bX6_stretch_100
      have hiw : i = w.1 := by omega
      rw [hiw]
      simp (disch := omega) only [hsz, bd_some, gd_true, inR_nI, nI_clamp, nI_add, pk_mul, pk_sub, leT, leF, ltT, ltF, eqT, eqF, ite_true, ite_false, reduceIte, nz_nI, oc_s, oc_n, pk_div, pk_rem, m1F, L0, L1, L2, L3, L4, L5, L6, L7, L8, L9, L10, L11, L12, L19, L20, L24, L25, L27, L28, L30, L32, L37, L39, L40, L47, L48, L50, L55, L57, L60, L61, L63, L71, L80, L97, L99, L100, L120, L122, L128, L161, L17, L600, L1000000, L1024, L1408, isB0, isB1, subdm, inT, inFl, inFh]
    | succ m ih =>
      intro i hi hm
      have hiw : i < w.1 := by omega
      have c1 := dcH dw dx hiw
      have c2 := dcH dw dx hk
      have c3 := dcP dw dx hiw
      have c4 := dcL dw dx hiw
      have b1 := (dnH_ok dw hiw).2
      have b3 := (dnP_ok dw hiw).2
      have b4 := (dnL_ok dw hiw).2
      have b5 := dn_mono dw hi hiw
      have em : (dnH w i - dnH w k) * hWe v (dnP w k) = hWe v (dnP w k) * (dnH w i - dnH w k) := Nat.mul_comm _ _
      have bX := prod_le hwe (show dnH w i - dnH w k ≤ 60 by omega)
      by_cases c : svb v w s k i = true
      · have e : rcF v w s k (m + 1) i = rcF v w s k m (i + 1) := if_pos c
        obtain ⟨p1, p2⟩ := svb_iff.mp c
        rw [e, iter_step (step := fun st : Int32 => bX6_stretch_31 g u d (nI k) (nI (dnP w k)) (nI (wv v s (dnP w k))) st) (s := nI i) (s' := nI (i + 1)) (by
          show bX6_stretch_31 g u d (nI k) (nI (dnP w k)) (nI (wv v s (dnP w k))) (nI i) = _
          generalize hX : hWe v (dnP w k) * (dnH w i - dnH w k) = X at em bX p2
          unfold bX6_stretch_31
          simp (disch := omega) only [hsz, c1, c2, c3, c4, hwx, em, bd_some, gd_true, inR_nI, nI_clamp, nI_add, pk_mul, pk_sub, leT, leF, ltT, ltF, eqT, eqF, ite_true, ite_false, reduceIte, nz_nI, oc_s, oc_n, pk_div, pk_rem, m1F, L0, L1, L2, L3, L4, L5, L6, L7, L8, L9, L10, L11, L12, L19, L20, L24, L25, L27, L28, L30, L32, L37, L39, L40, L47, L48, L50, L55, L57, L60, L61, L63, L71, L80, L97, L99, L100, L120, L122, L128, L161, L17, L600, L1000000, L1024, L1408, isB0, isB1, subdm, inT, inFl, inFh])]
        exact ih (i + 1) (by omega) (by omega)
      · have e : rcF v w s k (m + 1) i = i := if_neg c
        rw [e]
        refine iter_end (step := fun st : Int32 => bX6_stretch_31 g u d (nI k) (nI (dnP w k)) (nI (wv v s (dnP w k))) st) (s := nI i) ?_
        show bX6_stretch_31 g u d (nI k) (nI (dnP w k)) (nI (wv v s (dnP w k))) (nI i) = _
        by_cases cp : dnP w i = dnP w k
        · have p2 : wv v s (dnP w k) < dnL w i + hWe v (dnP w k) * (dnH w i - dnH w k) := by
            apply Classical.byContradiction
            intro q
            exact c (svb_iff.mpr ⟨cp, by omega⟩)
          generalize hX : hWe v (dnP w k) * (dnH w i - dnH w k) = X at em bX p2
          unfold bX6_stretch_31
          simp (disch := omega) only [hsz, c1, c2, c3, c4, hwx, em, sleF, bd_some, gd_true, inR_nI, nI_clamp, nI_add, pk_mul, pk_sub, leT, leF, ltT, ltF, eqT, eqF, ite_true, ite_false, reduceIte, nz_nI, oc_s, oc_n, pk_div, pk_rem, m1F, L0, L1, L2, L3, L4, L5, L6, L7, L8, L9, L10, L11, L12, L19, L20, L24, L25, L27, L28, L30, L32, L37, L39, L40, L47, L48, L50, L55, L57, L60, L61, L63, L71, L80, L97, L99, L100, L120, L122, L128, L161, L17, L600, L1000000, L1024, L1408, isB0, isB1, subdm, inT, inFl, inFh]
        · unfold bX6_stretch_31
          simp (disch := omega) only [hsz, c1, c2, c3, bd_some, gd_true, inR_nI, nI_clamp, nI_add, pk_mul, pk_sub, leT, leF, ltT, ltF, eqT, eqF, ite_true, ite_false, reduceIte, nz_nI, oc_s, oc_n, pk_div, pk_rem, m1F, L0, L1, L2, L3, L4, L5, L6, L7, L8, L9, L10, L11, L12, L19, L20, L24, L25, L27, L28, L30, L32, L37, L39, L40, L47, L48, L50, L55, L57, L60, L61, L63, L71, L80, L97, L99, L100, L120, L122, L128, L161, L17, L600, L1000000, L1024, L1408, isB0, isB1, subdm, inT, inFl, inFh]
  have c0 := dcP dw dx hk
  have hT := hasPiece_T ok hx hp
  unfold fX6_stretch
  simp (disch := omega) only [c0, hT, hwt, bd_some, gd_true, inR_nI, nI_clamp, nI_add, pk_mul, pk_sub, leT, leF, ltT, ltF, eqT, eqF, ite_true, ite_false, reduceIte, nz_nI, oc_s, oc_n, pk_div, pk_rem, m1F, L0, L1, L2, L3, L4, L5, L6, L7, L8, L9, L10, L11, L12, L19, L20, L24, L25, L27, L28, L30, L32, L37, L39, L40, L47, L48, L50, L55, L57, L60, L61, L63, L71, L80, L97, L99, L100, L120, L122, L128, L161, L17, L600, L1000000, L1024, L1408, isB0, isB1, subdm, inT, inFl, inFh]
  exact key (w.1 - k) k (Nat.le_refl k) (by omega)
def RX (g : Gs) (v : Hv) (w : Rv) : Prop := ∀ s k, s < hS v → k < w.1 → ga (g 601) 0 (s * 8 + k) = nI (rcn v w s k)
theorem measure_nI {g : Gs} {u d : Nat} {v : Hv} {w : Rv} (ok : HvOK v) (hx : HX (g u) v) (hu : u ≠ 601) (hd : d ≠ 601) (dw : DvOK w) (dx : DX (g d) w) (ha : dnA v w) : ∃ g', fX6_measure g u d = some g' ∧ RX g' v w ∧ ∀ o, o ≠ 601 → g' o = g o := by
  have h8 := dw.1
  have hS10 := ok.2.1
  have hsz := dx.2.1
  unfold fX6_measure
  refine iter_loop (step := fun st : Int32 × Gs => bX6_measure_2 st.2 u d st.1) (fun i st => st.1 = nI i ∧ (∀ s k, s < i → k < w.1 → ga (st.2 601) 0 (s * 8 + k) = nI (rcn v w s k)) ∧ ∀ o, o ≠ 601 → st.2 o = g o) (fun g' => RX g' v w ∧ ∀ o, o ≠ 601 → g' o = g o) (hS v) ?_ ?_ (s0 := ((0 : Int32), g)) ⟨rfl, fun s k hs => by omega, fun _ _ => rfl⟩
  · rintro i ⟨y, G⟩ hi ⟨b1, b2, b3⟩
    dsimp only at b1 b2 b3
    subst b1
    have hxG : HX (G u) v := by rw [b3 u hu]; exact hx
    obtain ⟨x, e1, G', e2, e3, e4⟩ := iter_loop (step := fun st : Int32 × Gs => bX6_measure_13 st.2 u d (nI i) st.1) (fun j st => st.1 = nI j ∧ (∀ s k, s < i → k < w.1 → ga (st.2 601) 0 (s * 8 + k) = nI (rcn v w s k)) ∧ (∀ k, k < j → ga (st.2 601) 0 (i * 8 + k) = nI (rcn v w i k)) ∧ ∀ o, o ≠ 601 → st.2 o = g o) (fun x => ∃ G', x = .inl (nI (i + 1), G') ∧ (∀ s k, s < i + 1 → k < w.1 → ga (G' 601) 0 (s * 8 + k) = nI (rcn v w s k)) ∧ ∀ o, o ≠ 601 → G' o = g o) w.1 (by
      rintro j ⟨y, G⟩ hj ⟨c1, c2, c3, c4⟩
      dsimp only at c1 c2 c3 c4
      subst c1
      have hxG : HX (G u) v := by rw [c4 u hu]; exact hx
      have dxG : DX (G d) w := by rw [c4 d hd]; exact dx
      have hszG := dxG.2.1
      have hst := stretch_nI ok hxG dw dxG ha hi hj
      refine ⟨(nI (j + 1), ug G 601 (sa (G 601) 0 (upd (ga (G 601) 0) (i * 8 + j) (nI (rcn v w i j))))), ?_, rfl, fun s k hs hk => ?_, fun k hk => ?_, fun o ho => ?_⟩
      · show bX6_measure_13 G u d (nI i) (nI j) = _
        unfold bX6_measure_13
        simp (disch := omega) only [hszG, hst, bd_some, gd_true, inR_nI, nI_clamp, nI_add, pk_mul, pk_sub, leT, leF, ltT, ltF, eqT, eqF, ite_true, ite_false, reduceIte, nz_nI, oc_s, oc_n, pk_div, pk_rem, m1F, L0, L1, L2, L3, L4, L5, L6, L7, L8, L9, L10, L11, L12, L19, L20, L24, L25, L27, L28, L30, L32, L37, L39, L40, L47, L48, L50, L55, L57, L60, L61, L63, L71, L80, L97, L99, L100, L120, L122, L128, L161, L17, L600, L1000000, L1024, L1408, isB0, isB1, subdm, inT, inFl, inFh]
      · dsimp only
        rw [ug_same, ga_sae, upd_if, if_neg (by omega)]; exact c2 s k hs hk
      · dsimp only
        rw [ug_same, ga_sae, upd_if]
        by_cases c : k = j
        · rw [if_pos (by omega), c]
        · rw [if_neg (by omega)]; exact c3 k (by omega)
      · dsimp only
        rw [ug_ne ho]; exact c4 o ho) (by
      rintro ⟨y, G⟩ ⟨c1, c2, c3, c4⟩
      dsimp only at c1 c2 c3 c4
      subst c1
      have dxG : DX (G d) w := by rw [c4 d hd]; exact dx
      have hszG := dxG.2.1
      refine ⟨.inl (nI (i + 1), G), ?_, G, rfl, fun s k hs hk => ?_, c4⟩
      · show bX6_measure_13 G u d (nI i) (nI w.1) = _
        unfold bX6_measure_13 bX6_measure_55
        simp (disch := omega) only [hszG, bd_some, gd_true, inR_nI, nI_clamp, nI_add, pk_mul, pk_sub, leT, leF, ltT, ltF, eqT, eqF, ite_true, ite_false, reduceIte, nz_nI, oc_s, oc_n, pk_div, pk_rem, m1F, L0, L1, L2, L3, L4, L5, L6, L7, L8, L9, L10, L11, L12, L19, L20, L24, L25, L27, L28, L30, L32, L37, L39, L40, L47, L48, L50, L55, L57, L60, L61, L63, L71, L80, L97, L99, L100, L120, L122, L128, L161, L17, L600, L1000000, L1024, L1408, isB0, isB1, subdm, inT, inFl, inFh]
        all_goals rfl
      · by_cases c : s = i
        · rw [c]; exact c3 k hk
        · exact c2 s k (by omega) hk) (s0 := ((0 : Int32), G)) ⟨rfl, b2, fun k hk => by omega, b3⟩
    subst e2
    refine ⟨(nI (i + 1), G'), ?_, rfl, e3, e4⟩
    show bX6_measure_2 G u d (nI i) = _
    unfold bX6_measure_2
    rw [if_neg (show ¬ gi (G u) 1 ≤ nI i from fun q => by rw [hxG.S] at q; have := (nI_leI (by omega) (by omega)).mp q; omega)]
    exact e1
  · rintro ⟨y, G⟩ ⟨b1, b2, b3⟩
    dsimp only at b1 b2 b3
    subst b1
    have hxG : HX (G u) v := by rw [b3 u hu]; exact hx
    refine ⟨G, ?_, fun s k hs hk => b2 s k hs hk, b3⟩
    show bX6_measure_2 G u d (nI (hS v)) = _
    unfold bX6_measure_2
    simp (disch := omega) only [hxG.S, bd_some, gd_true, inR_nI, nI_clamp, nI_add, pk_mul, pk_sub, leT, leF, ltT, ltF, eqT, eqF, ite_true, ite_false, reduceIte, nz_nI, oc_s, oc_n, pk_div, pk_rem, m1F, L0, L1, L2, L3, L4, L5, L6, L7, L8, L9, L10, L11, L12, L19, L20, L24, L25, L27, L28, L30, L32, L37, L39, L40, L47, L48, L50, L55, L57, L60, L61, L63, L71, L80, L97, L99, L100, L120, L122, L128, L161, L17, L600, L1000000, L1024, L1408, isB0, isB1, subdm, inT, inFl, inFh]
