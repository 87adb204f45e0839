def Td (r : Rec) (m : Nat) (w : Rv) : Prop := m < 2 ∧ gi r 35 = nI m ∧ DM (ga r 8) (25 * m) w
theorem Td.n {r : Rec} {m : Nat} {w : Rv} (h : Td r m w) : fX10_dinners r = some (nI w.1) := by
  obtain ⟨h1, h2, h3, h4⟩ := h
  unfold fX10_dinners
  simp (disch := omega) only [h2, h3, bd_some, gd_true, inR_nI, nI_clamp, nI_add, pk_mul, pk_sub, leT, leF, ltT, ltF, eqT, eqF, ite_true, ite_false, reduceIte, nz_nI, oc_s, oc_n, pk_div, pk_rem, m1F, L0, L1, L2, L3, L4, L5, L6, L7, L8, L9, L10, L11, L12, L19, L20, L24, L25, L27, L28, L30, L32, L37, L39, L40, L47, L48, L50, L55, L57, L60, L61, L63, L71, L80, L97, L99, L100, L120, L122, L128, L161, L17, L600, L1000000, L1024, L1408, isB0, isB1, subdm, inT, inFl, inFh]
theorem Td.of {r : Rec} {m k c : Nat} {w : Rv} (h : Td r m w) (dw : DvOK w) (hk : k < w.1) (hc : c < 3) : fX10_dinnerOf r (nI k) (nI c) = some (w.2 k c) := by
  obtain ⟨h1, h2, h3, h4⟩ := h
  have h8 := dw.1
  have e := h4 k hk c hc
  unfold fX10_dinnerOf
  simp (disch := omega) only [h2, e, bd_some, gd_true, inR_nI, nI_clamp, nI_add, pk_mul, pk_sub, leT, leF, ltT, ltF, eqT, eqF, ite_true, ite_false, reduceIte, nz_nI, oc_s, oc_n, pk_div, pk_rem, m1F, L0, L1, L2, L3, L4, L5, L6, L7, L8, L9, L10, L11, L12, L19, L20, L24, L25, L27, L28, L30, L32, L37, L39, L40, L47, L48, L50, L55, L57, L60, L61, L63, L71, L80, L97, L99, L100, L120, L122, L128, L161, L17, L600, L1000000, L1024, L1408, isB0, isB1, subdm, inT, inFl, inFh]
theorem Td.H {r : Rec} {m k : Nat} {w : Rv} (h : Td r m w) (dw : DvOK w) (hk : k < w.1) : fX10_dinnerOf r (nI k) (nI 0) = some (nI (dnH w k)) := by rw [h.of dw hk (by decide), (dnH_ok dw hk).1]
theorem Td.P {r : Rec} {m k : Nat} {w : Rv} (h : Td r m w) (dw : DvOK w) (hk : k < w.1) : fX10_dinnerOf r (nI k) (nI 1) = some (nI (dnP w k)) := by rw [h.of dw hk (by decide), (dnP_ok dw hk).1]
theorem Td.L {r : Rec} {m k : Nat} {w : Rv} (h : Td r m w) (dw : DvOK w) (hk : k < w.1) : fX10_dinnerOf r (nI k) (nI 2) = some (nI (dnL w k)) := by rw [h.of dw hk (by decide), (dnL_ok dw hk).1]
theorem serves_nI {r : Rec} {n m s i to : Nat} {v : Hv} {w : Rv} (ok : HvOK v) (hd : Hd r n v) (ht : Td r m w) (dw : DvOK w) (ha : dnA v w) (hs : s < hS v) (hi : i ≤ to) (hto : to < w.1) : (to < rcn v w s i → fX10_serves r (nI s) (nI i) (nI to) = some (nI 1)) ∧ (¬ to < rcn v w s i → fX10_serves r (nI s) (nI i) (nI to) = some (nI 0)) := by
  have h8 := dw.1
  have hP8 := ok.1
  have hp := ha i (by omega)
  have hwv := wv_le ok hs (p := dnP w i)
  have hwe := we_le ok hp
  have hwt := worthNow_nI ok hd hs hp
  have hww := wear_nI hd (show dnP w i < 8 by omega)
  have key : ∀ q k, i ≤ k → k + q = to + 1 → (∀ j, i ≤ j → j < k → svb v w s i j = true) → (to < rcn v w s i → iter (fun st : Int32 => bX10_serves_11 r (nI s) (nI i) (nI to) (nI (dnP w i)) st) (nI k) = some (nI 1)) ∧ (¬ to < rcn v w s i → iter (fun st : Int32 => bX10_serves_11 r (nI s) (nI i) (nI to) (nI (dnP w i)) st) (nI k) = some (nI 0)) := by
    intro q
    induction q with
    | zero =>
      intro k hk hq hj
      refine ⟨fun _ => iter_end ?_, fun z => absurd ((rcn_iff (i := i) (e := to + 1) (by omega) (by omega)).mpr (fun j h1 h2 => hj j h1 (by omega))) (by omega)⟩
      show bX10_serves_11 r (nI s) (nI i) (nI to) (nI (dnP w i)) (nI k) = _
      unfold bX10_serves_11
      rw [if_pos (show nI to < nI k from (nI_ltI (by omega) (by omega)).mpr (by omega))]
      rfl
    | succ q ih =>
      intro k hk hq hj
      have hkw : k < w.1 := by omega
      have c1 := ht.H dw hkw
      have c2 := ht.H dw (show i < w.1 by omega)
      have c3 := ht.P dw hkw
      have c4 := ht.L dw hkw
      have b1 := (dnH_ok dw hkw).2
      have b3 := (dnP_ok dw hkw).2
      have b4 := (dnL_ok dw hkw).2
      have b5 := dn_mono dw hk hkw
      have bX := prod_le hwe (show dnH w k - dnH w i ≤ 60 by omega)
      by_cases c : svb v w s i k = true
      · obtain ⟨p1, p2⟩ := svb_iff.mp c
        have e : bX10_serves_11 r (nI s) (nI i) (nI to) (nI (dnP w i)) (nI k) = some (.inl (nI (k + 1))) := by
          unfold bX10_serves_11
          generalize hX : hWe v (dnP w i) * (dnH w k - dnH w i) = X at bX p2
          simp (disch := omega) only [hwt, hww, c1, c2, c3, c4, hX, bd_some, gd_true, inR_nI, nI_clamp, nI_add, pk_mul, pk_sub, leT, leF, ltT, ltF, eqT, eqF, ite_true, ite_false, reduceIte, nz_nI, oc_s, oc_n, pk_div, pk_rem, m1F, L0, L1, L2, L3, L4, L5, L6, L7, L8, L9, L10, L11, L12, L19, L20, L24, L25, L27, L28, L30, L32, L37, L39, L40, L47, L48, L50, L55, L57, L60, L61, L63, L71, L80, L97, L99, L100, L120, L122, L128, L161, L17, L600, L1000000, L1024, L1408, isB0, isB1, subdm, inT, inFl, inFh]
        rw [iter_step (s := nI k) (s' := nI (k + 1)) e]
        refine ih (k + 1) (by omega) (by omega) (fun j h1 h2 => ?_)
        by_cases e2 : j = k
        · rw [e2]; exact c
        · exact hj j h1 (by omega)
      · refine ⟨fun z => absurd ((rcn_iff (i := i) (e := to + 1) (by omega) (by omega)).mp z k hk (by omega)) c, fun _ => iter_end ?_⟩
        show bX10_serves_11 r (nI s) (nI i) (nI to) (nI (dnP w i)) (nI k) = _
        by_cases cp : dnP w k = dnP w i
        · have p2 : wv v s (dnP w i) < dnL w k + hWe v (dnP w i) * (dnH w k - dnH w i) := by
            apply Classical.byContradiction
            intro z
            exact c (svb_iff.mpr ⟨cp, by omega⟩)
          unfold bX10_serves_11
          generalize hX : hWe v (dnP w i) * (dnH w k - dnH w i) = X at bX p2
          simp (disch := omega) only [hwt, hww, c1, c2, c3, c4, hX, sleF, bd_some, gd_true, inR_nI, nI_clamp, nI_add, pk_mul, pk_sub, leT, leF, ltT, ltF, eqT, eqF, ite_true, ite_false, reduceIte, nz_nI, oc_s, oc_n, pk_div, pk_rem, m1F, L0, L1, L2, L3, L4, L5, L6, L7, L8, L9, L10, L11, L12, L19, L20, L24, L25, L27, L28, L30, L32, L37, L39, L40, L47, L48, L50, L55, L57, L60, L61, L63, L71, L80, L97, L99, L100, L120, L122, L128, L161, L17, L600, L1000000, L1024, L1408, isB0, isB1, subdm, inT, inFl, inFh]
        · unfold bX10_serves_11
          generalize hX : hWe v (dnP w i) * (dnH w k - dnH w i) = X at bX
          simp (disch := omega) only [hwt, hww, c1, c2, c3, hX, bd_some, gd_true, inR_nI, nI_clamp, nI_add, pk_mul, pk_sub, leT, leF, ltT, ltF, eqT, eqF, ite_true, ite_false, reduceIte, nz_nI, oc_s, oc_n, pk_div, pk_rem, m1F, L0, L1, L2, L3, L4, L5, L6, L7, L8, L9, L10, L11, L12, L19, L20, L24, L25, L27, L28, L30, L32, L37, L39, L40, L47, L48, L50, L55, L57, L60, L61, L63, L71, L80, L97, L99, L100, L120, L122, L128, L161, L17, L600, L1000000, L1024, L1408, isB0, isB1, subdm, inT, inFl, inFh]
  have c0 := ht.P dw (show i < w.1 by omega)
  have e0 : fX10_serves r (nI s) (nI i) (nI to) = iter (fun st : Int32 => bX10_serves_11 r (nI s) (nI i) (nI to) (nI (dnP w i)) st) (nI i) := by
    unfold fX10_serves
    simp (disch := omega) only [c0, bd_some, gd_true, inR_nI, nI_clamp, nI_add, pk_mul, pk_sub, leT, leF, ltT, ltF, eqT, eqF, ite_true, ite_false, reduceIte, nz_nI, oc_s, oc_n, pk_div, pk_rem, m1F, L0, L1, L2, L3, L4, L5, L6, L7, L8, L9, L10, L11, L12, L19, L20, L24, L25, L27, L28, L30, L32, L37, L39, L40, L47, L48, L50, L55, L57, L60, L61, L63, L71, L80, L97, L99, L100, L120, L122, L128, L161, L17, L600, L1000000, L1024, L1408, isB0, isB1, subdm, inT, inFl, inFh]
  rw [e0]
  exact key (to + 1 - i) i (Nat.le_refl i) (by omega) (fun j h1 h2 => by omega)
/-- the secrets that are left -/
def lf (v : Hv) (U : Nat) : Nat := andn (2 ^ hS v - 1) U
theorem lf_bit {v : Hv} {U s : Nat} : (lf v U).testBit s = (decide (s < hS v) && !U.testBit s) := by
  unfold lf
  rw [andn_bit, Nat.testBit_two_pow_sub_one]
theorem lf_lt (v : Hv) (U : Nat) : lf v U < 2 ^ hS v := by
  have := p1 (hS v)
  exact andn_lt (by omega)
theorem lf_T {v : Hv} {U s : Nat} (hs : s < hS v) (h : U.testBit s = false) : (lf v U).testBit s = true := by rw [lf_bit, decide_eq_true hs, h]; rfl
theorem lf_F {v : Hv} {U s : Nat} (h : U.testBit s = true) : (lf v U).testBit s = false := by rw [lf_bit, h]; simp
theorem lf_or {v : Hv} {U s : Nat} : andn (lf v U) (2 ^ s) = lf v (U ||| 2 ^ s) := by
  apply Nat.eq_of_testBit_eq
  intro k
  rw [dl_bit, lf_bit, lf_bit, Nat.testBit_or, Nat.testBit_two_pow]
  cases U.testBit k <;> cases decide (k < hS v) <;> cases decide (s = k) <;> rfl
theorem lf_lt10 {v : Hv} (ok : HvOK v) (U : Nat) : lf v U < 2 ^ 10 := Nat.lt_of_lt_of_le (lf_lt v U) (Nat.pow_le_pow_right (by decide) ok.2.1)
def TbE (r : Rec) (v : Hv) (w : Rv) (i U : Nat) : Prop := ∃ x y, ga r 36 (1024 * i + U) = nI x ∧ TV (rcn v w) w.1 i (lf v U) x ∧ x ≤ 1000000 ∧ ga r 37 (1024 * i + U) = nI y ∧ FV (rcn v w) i (lf v U) y ∧ y ≤ 8
def PSs (R : Nat → Nat → Nat) (i A s s' t : Nat) : Prop := s' < s ∧ A.testBit s' = true ∧ i ≤ t ∧ t < R s' i
theorem or_lt2 {v : Hv} {U s : Nat} (hU : U < 2 ^ hS v) (hs : s < hS v) : U ||| 2 ^ s < 2 ^ hS v := Nat.or_lt_two_pow hU (Nat.pow_lt_pow_right (by decide) hs)
theorem ft60 {r : Rec} {n m : Nat} {v : Hv} {w : Rv} (ok : HvOK v) (hd : Hd r n v) (ht : Td r m w) (dw : DvOK w) (ha : dnA v w) {i U s : Nat} (hi : i < w.1) (hU : U < 2 ^ hS v) (hs : s < hS v) (hus : U.testBit s = false) (htab : ∀ t U', i < t → t ≤ w.1 → U' < 2 ^ hS v → TbE r v w t U') : ∀ q t best far, i ≤ t → t + q = rcn v w s i → best ≤ 1000000 → far ≤ 8 → BF (rcn v w) w.1 i (lf v U) (fun s' t' => PSs (rcn v w) i (lf v U) s s' t' ∨ (s' = s ∧ i ≤ t' ∧ t' < t)) best far → ∃ best' far', iter (fun st : Int32 × Int32 × Int32 => bX10_findTellings_60 r (nI w.1) (nI i) (nI U) st.1 st.2.1 (nI s) st.2.2) (nI best, nI far, nI t) = some (.inl (nI best', nI far', nI (s + 1))) ∧ best' ≤ 1000000 ∧ far' ≤ 8 ∧ BF (rcn v w) w.1 i (lf v U) (PSs (rcn v w) i (lf v U) (s + 1)) best' far' := by
  have h8 := dw.1
  have hS10 := ok.2.1
  have hpS := pS ok
  have hb := rcn_b (v := v) (w := w) (s := s) (show i ≤ w.1 by omega)
  have hor := or_lt2 hU hs
  intro q
  induction q with
  | zero =>
    intro t best far h1 h2 h3 h4 hBF
    refine ⟨best, far, ?_, h3, h4, hBF.iff (fun s' t' => ⟨?_, ?_⟩)⟩
    · refine iter_end (step := fun st : Int32 × Int32 × Int32 => bX10_findTellings_60 r (nI w.1) (nI i) (nI U) st.1 st.2.1 (nI s) st.2.2) (s := (nI best, nI far, nI t)) ?_
      show bX10_findTellings_60 r (nI w.1) (nI i) (nI U) (nI best) (nI far) (nI s) (nI t) = _
      unfold bX10_findTellings_60 bX10_findTellings_140
      by_cases c : w.1 ≤ t
      · simp (disch := omega) only [bd_some, gd_true, inR_nI, nI_clamp, nI_add, pk_mul, pk_sub, leT, leF, ltT, ltF, eqT, eqF, ite_true, ite_false, reduceIte, nz_nI, oc_s, oc_n, pk_div, pk_rem, m1F, L0, L1, L2, L3, L4, L5, L6, L7, L8, L9, L10, L11, L12, L19, L20, L24, L25, L27, L28, L30, L32, L37, L39, L40, L47, L48, L50, L55, L57, L60, L61, L63, L71, L80, L97, L99, L100, L120, L122, L128, L161, L17, L600, L1000000, L1024, L1408, isB0, isB1, subdm, inT, inFl, inFh]
        all_goals rfl
      · have hsv := (serves_nI ok hd ht dw ha hs h1 (show t < w.1 by omega)).2 (by omega)
        simp (disch := omega) only [has_nI, hus, Bool.false_eq_true, hsv, bd_some, gd_true, inR_nI, nI_clamp, nI_add, pk_mul, pk_sub, leT, leF, ltT, ltF, eqT, eqF, ite_true, ite_false, reduceIte, nz_nI, oc_s, oc_n, pk_div, pk_rem, m1F, L0, L1, L2, L3, L4, L5, L6, L7, L8, L9, L10, L11, L12, L19, L20, L24, L25, L27, L28, L30, L32, L37, L39, L40, L47, L48, L50, L55, L57, L60, L61, L63, L71, L80, L97, L99, L100, L120, L122, L128, L161, L17, L600, L1000000, L1024, L1408, isB0, isB1, subdm, inT, inFl, inFh]
        all_goals rfl
    · rintro (⟨a1, a2⟩ | ⟨a1, a2, a3⟩)
      · exact ⟨by omega, a2⟩
      · subst a1
        exact ⟨by omega, lf_T hs hus, a2, by omega⟩
    · rintro ⟨a1, a2, a3, a4⟩
      by_cases c : s' = s
      · subst c
        exact Or.inr ⟨rfl, a3, by omega⟩
      · exact Or.inl ⟨by omega, a2, a3, a4⟩
  | succ q ih =>
    intro t best far h1 h2 h3 h4 hBF
    obtain ⟨x, y, x1, x2, x3, y1, y2, y3⟩ := htab (t + 1) (U ||| 2 ^ s) (by omega) (by omega) hor
    have hsv := (serves_nI ok hd ht dw ha hs h1 (show t < w.1 by omega)).1 (by omega)
    have hBF2 : BF (rcn v w) w.1 i (lf v U) (fun s' t' => PSs (rcn v w) i (lf v U) s s' t' ∨ (s' = s ∧ i ≤ t' ∧ t' < t + 1)) (min best (1 + x)) (max far y) := by
      refine hBF.add (s0 := s) (t0 := t) (by rw [lf_or]; exact x2) (by rw [lf_or]; exact y2) (fun s' t' => ⟨?_, ?_⟩)
      · rintro (a | ⟨a1, a2, a3⟩)
        · exact Or.inl (Or.inl a)
        · by_cases c : t' = t
          · exact Or.inr ⟨a1, c⟩
          · exact Or.inl (Or.inr ⟨a1, a2, by omega⟩)
      · rintro ((a | ⟨a1, a2, a3⟩) | ⟨a1, a2⟩)
        · exact Or.inl a
        · exact Or.inr ⟨a1, a2, by omega⟩
        · exact Or.inr ⟨a1, by omega, by omega⟩
    rw [iter_step (step := fun st : Int32 × Int32 × Int32 => bX10_findTellings_60 r (nI w.1) (nI i) (nI U) st.1 st.2.1 (nI s) st.2.2) (s := (nI best, nI far, nI t)) (s' := (nI (min best (1 + x)), nI (max far y), nI (t + 1))) (by
      show bX10_findTellings_60 r (nI w.1) (nI i) (nI U) (nI best) (nI far) (nI s) (nI t) = _
      unfold bX10_findTellings_60
      simp (disch := omega) only [has_nI, hus, Bool.false_eq_true, hsv, L31, shl_T, or_nI, x1, y1, ls_nI, gr_nI, bd_some, gd_true, inR_nI, nI_clamp, nI_add, pk_mul, pk_sub, leT, leF, ltT, ltF, eqT, eqF, ite_true, ite_false, reduceIte, nz_nI, oc_s, oc_n, pk_div, pk_rem, m1F, L0, L1, L2, L3, L4, L5, L6, L7, L8, L9, L10, L11, L12, L19, L20, L24, L25, L27, L28, L30, L32, L37, L39, L40, L47, L48, L50, L55, L57, L60, L61, L63, L71, L80, L97, L99, L100, L120, L122, L128, L161, L17, L600, L1000000, L1024, L1408, isB0, isB1, subdm, inT, inFl, inFh])]
    exact ih (t + 1) (min best (1 + x)) (max far y) (by omega) (by omega) (by omega) (by omega) hBF2
theorem ft43 {r : Rec} {n m : Nat} {v : Hv} {w : Rv} (ok : HvOK v) (hd : Hd r n v) (ht : Td r m w) (dw : DvOK w) (ha : dnA v w) {i U : Nat} (hi : i < w.1) (hU : U < 2 ^ hS v) (htab : ∀ t U', i < t → t ≤ w.1 → U' < 2 ^ hS v → TbE r v w t U') : ∃ x y, iter (fun st : Int32 × Int32 × Int32 => bX10_findTellings_43 r (nI w.1) (nI i) (nI U) st.1 st.2.1 st.2.2) (nI 1000000, nI i, nI 0) = bX10_findTellings_146 r (nI w.1) (nI i) (nI U) (nI x) (nI y) ∧ TV (rcn v w) w.1 i (lf v U) x ∧ x ≤ 1000000 ∧ FV (rcn v w) i (lf v U) y ∧ y ≤ 8 := by
  have h8 := dw.1
  have hS10 := ok.2.1
  have hpS := pS ok
  have hR := rc_ok (v := v) dw
  obtain ⟨z, e1, e2, e3, e4⟩ := iter_loopK (step := fun st : Int32 × Int32 × Int32 => bX10_findTellings_43 r (nI w.1) (nI i) (nI U) st.1 st.2.1 st.2.2) (fun s st => ∃ best far, st = (nI best, nI far, nI s) ∧ best ≤ 1000000 ∧ far ≤ 8 ∧ BF (rcn v w) w.1 i (lf v U) (PSs (rcn v w) i (lf v U) s) best far) (fun z : Nat × Nat => bX10_findTellings_146 r (nI w.1) (nI i) (nI U) (nI z.1) (nI z.2)) (fun z => z.1 ≤ 1000000 ∧ z.2 ≤ 8 ∧ BF (rcn v w) w.1 i (lf v U) (PSs (rcn v w) i (lf v U) (hS v)) z.1 z.2) (hS v) 0 (nI 1000000, nI i, nI 0) ⟨1000000, i, rfl, Nat.le_refl _, by omega, BF.none (fun s t q => by have := q.1; omega)⟩ (by
    rintro s ⟨y1, y2, y3⟩ - hs ⟨best, far, e, b1, b2, b3⟩
    have hs : s < hS v := by omega
    cases e
    by_cases c : U.testBit s = true
    · refine ⟨(nI best, nI far, nI (s + 1)), ?_, best, far, rfl, b1, b2, b3.iff (fun s' t' => ⟨?_, ?_⟩)⟩
      · show bX10_findTellings_43 r (nI w.1) (nI i) (nI U) (nI best) (nI far) (nI s) = _
        unfold bX10_findTellings_43
        simp (disch := omega) only [hd.S, bd_some, gd_true, inR_nI, nI_clamp, nI_add, pk_mul, pk_sub, leT, leF, ltT, ltF, eqT, eqF, ite_true, ite_false, reduceIte, nz_nI, oc_s, oc_n, pk_div, pk_rem, m1F, L0, L1, L2, L3, L4, L5, L6, L7, L8, L9, L10, L11, L12, L19, L20, L24, L25, L27, L28, L30, L32, L37, L39, L40, L47, L48, L50, L55, L57, L60, L61, L63, L71, L80, L97, L99, L100, L120, L122, L128, L161, L17, L600, L1000000, L1024, L1408, isB0, isB1, subdm, inT, inFl, inFh]
        refine iter_end (step := fun st : Int32 × Int32 × Int32 => bX10_findTellings_60 r (nI w.1) (nI i) (nI U) st.1 st.2.1 (nI s) st.2.2) (s := (nI best, nI far, nI i)) ?_
        show bX10_findTellings_60 r (nI w.1) (nI i) (nI U) (nI best) (nI far) (nI s) (nI i) = _
        unfold bX10_findTellings_60 bX10_findTellings_140
        simp (disch := omega) only [has_nI, c, bd_some, gd_true, inR_nI, nI_clamp, nI_add, pk_mul, pk_sub, leT, leF, ltT, ltF, eqT, eqF, ite_true, ite_false, reduceIte, nz_nI, oc_s, oc_n, pk_div, pk_rem, m1F, L0, L1, L2, L3, L4, L5, L6, L7, L8, L9, L10, L11, L12, L19, L20, L24, L25, L27, L28, L30, L32, L37, L39, L40, L47, L48, L50, L55, L57, L60, L61, L63, L71, L80, L97, L99, L100, L120, L122, L128, L161, L17, L600, L1000000, L1024, L1408, isB0, isB1, subdm, inT, inFl, inFh]
        all_goals rfl
      · rintro ⟨a1, a2⟩
        exact ⟨by omega, a2⟩
      · rintro ⟨a1, a2, a3⟩
        by_cases d : s' = s
        · subst d
          rw [lf_F c] at a2
          cases a2
        · exact ⟨by omega, a2, a3⟩
    · have hus : U.testBit s = false := by
        cases d : U.testBit s
        · rfl
        · exact absurd d c
      have hb := rcn_b (v := v) (w := w) (s := s) (show i ≤ w.1 by omega)
      obtain ⟨best', far', f1, f2, f3, f4⟩ := ft60 ok hd ht dw ha hi hU hs hus htab (rcn v w s i - i) i best far (Nat.le_refl i) (by omega) b1 b2 (b3.iff (fun s' t' => ⟨fun a => Or.inl a, fun a => a.elim id (fun z => by omega)⟩))
      refine ⟨(nI best', nI far', nI (s + 1)), ?_, best', far', rfl, f2, f3, f4⟩
      show bX10_findTellings_43 r (nI w.1) (nI i) (nI U) (nI best) (nI far) (nI s) = _
      unfold bX10_findTellings_43
      simp (disch := omega) only [hd.S, bd_some, gd_true, inR_nI, nI_clamp, nI_add, pk_mul, pk_sub, leT, leF, ltT, ltF, eqT, eqF, ite_true, ite_false, reduceIte, nz_nI, oc_s, oc_n, pk_div, pk_rem, m1F, L0, L1, L2, L3, L4, L5, L6, L7, L8, L9, L10, L11, L12, L19, L20, L24, L25, L27, L28, L30, L32, L37, L39, L40, L47, L48, L50, L55, L57, L60, L61, L63, L71, L80, L97, L99, L100, L120, L122, L128, L161, L17, L600, L1000000, L1024, L1408, isB0, isB1, subdm, inT, inFl, inFh]
      exact f1) (by
    rintro ⟨y1, y2, y3⟩ ⟨best, far, e, b1, b2, b3⟩
    rw [Nat.zero_add] at e b3
    cases e
    refine ⟨(best, far), ?_, b1, b2, b3⟩
    show bX10_findTellings_43 r (nI w.1) (nI i) (nI U) (nI best) (nI far) (nI (hS v)) = _
    unfold bX10_findTellings_43
    simp (disch := omega) only [hd.S, bd_some, gd_true, inR_nI, nI_clamp, nI_add, pk_mul, pk_sub, leT, leF, ltT, ltF, eqT, eqF, ite_true, ite_false, reduceIte, nz_nI, oc_s, oc_n, pk_div, pk_rem, m1F, L0, L1, L2, L3, L4, L5, L6, L7, L8, L9, L10, L11, L12, L19, L20, L24, L25, L27, L28, L30, L32, L37, L39, L40, L47, L48, L50, L55, L57, L60, L61, L63, L71, L80, L97, L99, L100, L120, L122, L128, L161, L17, L600, L1000000, L1024, L1408, isB0, isB1, subdm, inT, inFl, inFh])
  have hfin := e4.fin hR hi (lf_lt10 ok U) (fun s t => ⟨fun q => q.2, fun q => ⟨bit_lt (lf_lt v U) q.1, q⟩⟩) (fun s t q => by
    have hb := rcn_b (v := v) (w := w) (s := s) (show i ≤ w.1 by omega)
    obtain ⟨x, y, x1, x2, -⟩ := htab (t + 1) (U ||| 2 ^ s) (by have := q.2.2.1; omega) (by have := q.2.2.2; omega) (or_lt2 hU q.1)
    exact ⟨x, by rw [lf_or]; exact x2⟩) (fun s t q => by
    have hb := rcn_b (v := v) (w := w) (s := s) (show i ≤ w.1 by omega)
    obtain ⟨x, y, x1, x2, x3, y1, y2, -⟩ := htab (t + 1) (U ||| 2 ^ s) (by have := q.2.2.1; omega) (by have := q.2.2.2; omega) (or_lt2 hU q.1)
    exact ⟨y, by rw [lf_or]; exact y2⟩)
  exact ⟨z.1, z.2, e1, hfin.1, e2, hfin.2, e3⟩
theorem ft35 {r : Rec} {n m : Nat} {v : Hv} {w : Rv} (ok : HvOK v) (hd : Hd r n v) (ht : Td r m w) (dw : DvOK w) (ha : dnA v w) {i U : Nat} (hi : i ≤ w.1) (hU : U < 2 ^ hS v) (htab : ∀ t U', i < t → t ≤ w.1 → U' < 2 ^ hS v → TbE r v w t U') : ∃ x y, bX10_findTellings_13 r (nI w.1) (nI i) (nI U) = bX10_findTellings_146 r (nI w.1) (nI i) (nI U) (nI x) (nI y) ∧ TV (rcn v w) w.1 i (lf v U) x ∧ x ≤ 1000000 ∧ FV (rcn v w) i (lf v U) y ∧ y ≤ 8 := by
  have h8 := dw.1
  have hS10 := ok.2.1
  have hpS := pS ok
  have hR := rc_ok (v := v) dw
  have g1 : ¬ ((1 : Int32) <<< ((gi r 27) &&& 31)) ≤ nI U := by
    rw [hd.S, shl_nI _ (by omega)]
    exact fun q => by have := (nI_leI (by omega) (by omega)).mp q; omega
  by_cases c : i = w.1
  · subst c
    refine ⟨0, w.1, ?_, TV_n _ _ _, by omega, FV_n hR _, h8⟩
    unfold bX10_findTellings_13
    rw [if_neg g1, if_pos rfl]
    unfold bX10_findTellings_35
    refine iter_out (step := fun st : Int32 × Int32 × Int32 => bX10_findTellings_43 r (nI w.1) (nI w.1) (nI U) st.1 st.2.1 st.2.2) (s := ((0 : Int32), nI w.1, (0 : Int32))) ?_
    show bX10_findTellings_43 r (nI w.1) (nI w.1) (nI U) 0 (nI w.1) 0 = out1 (bX10_findTellings_146 r (nI w.1) (nI w.1) (nI U) (nI 0) (nI w.1))
    unfold bX10_findTellings_43
    by_cases c2 : gi r 27 ≤ 0
    · rw [if_pos c2]; rfl
    · rw [if_neg c2, if_pos (nI_le (Nat.le_refl w.1) (by omega))]; rfl
  · obtain ⟨x, y, e1, e2⟩ := ft43 ok hd ht dw ha (show i < w.1 by omega) hU htab
    refine ⟨x, y, ?_, e2⟩
    unfold bX10_findTellings_13
    rw [if_neg g1, if_neg (show ¬ nI i = nI w.1 from fun q => c ((nI_eq (by omega) (by omega)).mp q))]
    exact e1
theorem TbE.keep {r : Rec} {v : Hv} {w : Rv} {i U i0 U0 : Nat} {a b : Int32} (h : TbE r v w i U) (hne : 1024 * i + U ≠ 1024 * i0 + U0) : TbE (sa (sa r 36 (upd (ga r 36) (1024 * i0 + U0) a)) 37 (upd (ga r 37) (1024 * i0 + U0) b)) v w i U := by
  obtain ⟨x, y, x1, x2, x3, y1, y2, y3⟩ := h
  refine ⟨x, y, ?_, x2, x3, ?_, y2, y3⟩
  · rw [ga_san (by decide), ga_sae, upd_if, if_neg hne]; exact x1
  · rw [ga_sae, upd_if, if_neg hne]; exact y1
theorem ft13 {r0 r : Rec} {n m : Nat} {v : Hv} {w : Rv} (ok : HvOK v) (hd : Hd r0 n v) (ht : Td r0 m w) (dw : DvOK w) (ha : dnA v w) {i : Nat} (hi : i ≤ w.1) (h1 : ∀ k, k ≠ 36 → k ≠ 37 → ga r k = ga r0 k) (h2 : ∀ k, gi r k = gi r0 k) (htab : ∀ t U', i < t → t ≤ w.1 → U' < 2 ^ hS v → TbE r v w t U') : ∃ r', iter (fun st : Int32 × Rec => bX10_findTellings_13 st.2 (nI w.1) (nI i) st.1) (nI 0, r) = some (.inl (nI i + -nI 1, r')) ∧ (∀ k, k ≠ 36 → k ≠ 37 → ga r' k = ga r0 k) ∧ (∀ k, gi r' k = gi r0 k) ∧ ∀ t U', i ≤ t → t ≤ w.1 → U' < 2 ^ hS v → TbE r' v w t U' := by
  have h8 := dw.1
  have hS10 := ok.2.1
  have hpS := pS ok
  obtain ⟨x, e1, r', e2, e3⟩ := iter_loop (step := fun st : Int32 × Rec => bX10_findTellings_13 st.2 (nI w.1) (nI i) st.1) (fun U st => st.1 = nI U ∧ (∀ k, k ≠ 36 → k ≠ 37 → ga st.2 k = ga r0 k) ∧ (∀ k, gi st.2 k = gi r0 k) ∧ (∀ t U', i < t → t ≤ w.1 → U' < 2 ^ hS v → TbE st.2 v w t U') ∧ ∀ U', U' < U → TbE st.2 v w i U') (fun x => ∃ r', x = .inl (nI i + -nI 1, r') ∧ (∀ k, k ≠ 36 → k ≠ 37 → ga r' k = ga r0 k) ∧ (∀ k, gi r' k = gi r0 k) ∧ ∀ t U', i ≤ t → t ≤ w.1 → U' < 2 ^ hS v → TbE r' v w t U') (2 ^ hS v) (by
    rintro U ⟨y, q⟩ hU ⟨b1, b2, b3, b4, b5⟩
    dsimp only at b1 b2 b3 b4 b5
    subst b1
    have hdq : Hd q n v := hd.keep (b2 28 (by decide) (by decide)) (b2 6 (by decide) (by decide)) (b3 25) (b3 26) (b3 27)
    have htq : Td q m w := ⟨ht.1, by rw [b3]; exact ht.2.1, by rw [b2 8 (by decide) (by decide)]; exact ht.2.2⟩
    obtain ⟨x, y, f1, f2, f3, f4, f5⟩ := ft35 ok hdq htq dw ha hi hU b4
    refine ⟨(nI (U + 1), sa (sa q 36 (upd (ga q 36) (1024 * i + U) (nI x))) 37 (upd (ga q 37) (1024 * i + U) (nI y))), ?_, rfl, fun k k1 k2 => ?_, b3, fun t U' t1 t2 t3 => ?_, fun U' hU' => ?_⟩
    · show bX10_findTellings_13 q (nI w.1) (nI i) (nI U) = _
      rw [f1]
      unfold bX10_findTellings_146
      simp (disch := omega) only [ls_nI, Nat.min_eq_left, bd_some, gd_true, inR_nI, nI_clamp, nI_add, pk_mul, pk_sub, leT, leF, ltT, ltF, eqT, eqF, ite_true, ite_false, reduceIte, nz_nI, oc_s, oc_n, pk_div, pk_rem, m1F, L0, L1, L2, L3, L4, L5, L6, L7, L8, L9, L10, L11, L12, L19, L20, L24, L25, L27, L28, L30, L32, L37, L39, L40, L47, L48, L50, L55, L57, L60, L61, L63, L71, L80, L97, L99, L100, L120, L122, L128, L161, L17, L600, L1000000, L1024, L1408, isB0, isB1, subdm, inT, inFl, inFh, ug_same, ug_ug, ug_ne, ga_sae, ga_san, gi_sie, gi_sin, ga_si, gi_sa, gr_si, gr_sa, ga_sr, gi_sr, gr_sre]
    · dsimp only
      rw [ga_san k2, ga_san k1]; exact b2 k k1 k2
    · exact (b4 t U' t1 t2 t3).keep (by omega)
    · by_cases c : U' = U
      · subst c
        refine ⟨x, y, ?_, f2, f3, ?_, f4, f5⟩
        · dsimp only
          rw [ga_san (by decide), ga_sae, upd_if, if_pos rfl]
        · dsimp only
          rw [ga_sae, upd_if, if_pos rfl]
      · exact (b5 U' (by omega)).keep (by omega)) (by
    rintro ⟨y, q⟩ ⟨b1, b2, b3, b4, b5⟩
    dsimp only at b1 b2 b3 b4 b5
    subst b1
    refine ⟨.inl (nI i + -nI 1, q), ?_, q, rfl, b2, b3, fun t U' t1 t2 t3 => ?_⟩
    · show bX10_findTellings_13 q (nI w.1) (nI i) (nI (2 ^ hS v)) = _
      unfold bX10_findTellings_13 bX10_findTellings_186
      rw [if_pos (show ((1 : Int32) <<< ((gi q 27) &&& 31)) ≤ nI (2 ^ hS v) by rw [b3, hd.S, shl_nI _ (by omega)]; exact nI_le (Nat.le_refl _) (by omega))]
      rfl
    · by_cases c : t = i
      · rw [c]; exact b5 U' t3
      · exact b4 t U' (by omega) t2 t3) (s0 := (nI 0, r)) ⟨rfl, h1, h2, htab, fun U' hU' => by omega⟩
  subst e2
  exact ⟨r', e1, e3⟩
theorem findT {r : Rec} {n m : Nat} {v : Hv} {w : Rv} (ok : HvOK v) (hd : Hd r n v) (ht : Td r m w) (dw : DvOK w) (ha : dnA v w) : ∃ r', fX10_findTellings r = some r' ∧ (∀ k, k ≠ 36 → k ≠ 37 → ga r' k = ga r k) ∧ (∀ k, gi r' k = gi r k) ∧ ∀ t U', t ≤ w.1 → U' < 2 ^ hS v → TbE r' v w t U' := by
  have h8 := dw.1
  have e0 : fX10_findTellings r = iter (fun st : Int32 × Rec => bX10_findTellings_7 st.2 (nI w.1) st.1) (nI w.1, r) := by
    unfold fX10_findTellings
    rw [ht.n, bd_some]
  rw [e0]
  refine iter_loop (step := fun st : Int32 × Rec => bX10_findTellings_7 st.2 (nI w.1) st.1) (fun c st => (c ≤ w.1 → st.1 = nI (w.1 - c)) ∧ (c = w.1 + 1 → st.1 = -nI 1) ∧ (∀ k, k ≠ 36 → k ≠ 37 → ga st.2 k = ga r k) ∧ (∀ k, gi st.2 k = gi r k) ∧ ∀ t U', w.1 < t + c → t ≤ w.1 → U' < 2 ^ hS v → TbE st.2 v w t U') (fun r' => (∀ k, k ≠ 36 → k ≠ 37 → ga r' k = ga r k) ∧ (∀ k, gi r' k = gi r k) ∧ ∀ t U', t ≤ w.1 → U' < 2 ^ hS v → TbE r' v w t U') (w.1 + 1) ?_ ?_ (s0 := (nI w.1, r)) ⟨fun _ => rfl, fun q => by omega, fun _ _ _ => rfl, fun _ => rfl, fun t U' t1 t2 => by omega⟩
  · rintro c ⟨y, q⟩ hc ⟨b1, b2, b3, b4, b5⟩
    dsimp only at b1 b2 b3 b4 b5
    have b1 := b1 (by omega)
    subst b1
    obtain ⟨r', e1, e2, e3, e4⟩ := ft13 (r := q) ok hd ht dw ha (i := w.1 - c) (by omega) b3 b4 (fun t U' t1 t2 t3 => b5 t U' (by omega) t2 t3)
    refine ⟨(nI (w.1 - c) + -nI 1, r'), ?_, fun q1 => ?_, fun q1 => ?_, e2, e3, fun t U' t1 t2 t3 => e4 t U' (by omega) t2 t3⟩
    · show bX10_findTellings_7 q (nI w.1) (nI (w.1 - c)) = _
      unfold bX10_findTellings_7
      rw [if_neg (nI_nlt0 (by omega))]
      exact e1
    · dsimp only
      have q1 : c + 1 ≤ w.1 := q1
      rw [show w.1 - c = w.1 - (c + 1) + 1 by omega, m1add]
    · dsimp only
      rw [show w.1 - c = 0 by omega]
      decide
  · rintro ⟨y, q⟩ ⟨b1, b2, b3, b4, b5⟩
    dsimp only at b1 b2 b3 b4 b5
    have b2 := b2 rfl
    subst b2
    refine ⟨q, ?_, b3, b4, fun t U' t1 t2 => b5 t U' (by omega) t1 t2⟩
    show bX10_findTellings_7 q (nI w.1) (-nI 1) = _
    unfold bX10_findTellings_7
    rw [if_pos (show -nI 1 < 0 by decide)]
