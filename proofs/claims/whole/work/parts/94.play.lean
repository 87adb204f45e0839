/-! the start -/
def begC (v : Hv) : Cv := (fun _ => 0, fun _ => 0, hKn v, 0, 0, 0)
theorem begC_OK {v : Hv} (ok : HvOK v) : cOK v (begC v) := ⟨fun p _ => ⟨by show 0 ≤ 60; omega, by show 0 ≤ 5; omega, ok.2.2.2.2.2.1 p⟩, by show 0 < 2 ^ 8; omega, by show 0 ≤ 99; omega, fun _ _ _ => ⟨rfl, rfl⟩⟩
abbrev Av : Type := (Nat → Nat) × Nat × Int32 × Nat
def aX (g : Gs) (a : Av) : Prop := (∀ p, p < 8 → ga (g 1) 4 p = nI (a.1 p)) ∧ gi (g 1) 9 = nI a.2.1 ∧ gi (g 1) 10 = a.2.2.1 ∧ gi (g 1) 11 = nI a.2.2.2
def begA : Av := (fun _ => 0, 0, -1, 0)
def rBeg (R : Rec) (H : Nat → Int32) (h : Nat) : Rec := si (si (si (si (si (si (sa (sa (sa (sa (sr R 0 h) 1 (fl 8 0 (ga R 1))) 2 (fl 8 0 (ga R 2))) 3 (va_cpy H (ga R 3) 0 0 8)) 4 (fl 8 0 (ga R 4))) 5 0) 6 0) 7 0) 9 0) 10 (-1)) 11 0
theorem begX {g : Gs} {n : Nat} {v : Hv} (hn : n < 2) (hx : HX (g (200 + n)) v) : ∃ R, fX0_begin g (200 + n) = some (ug g 1 R) ∧ cX (ug g 1 R) n v (begC v) ∧ aX (ug g 1 R) begA := by
  have e3 : ∀ R, ug g 1 R (200 + n) = g (200 + n) := fun R => ug_ne (by omega)
  refine ⟨rBeg (g 1) (ga (g (200 + n)) 5) (200 + n), ?_, ⟨hn, ?_, ?_, ?_, ?_, ?_, ?_, ?_, ?_⟩, ?_⟩
  · unfold fX0_begin rBeg
    rw [show cpOK 0 0 8 8 8 = true by decide]
    simp only [bd_some, gd_true, ug_same, ug_ug, e3, show Int32.toNatClampNeg 0 = 0 from rfl, show Int32.toNatClampNeg 8 = 8 from rfl]
    rfl
  · rw [ug_same]; rfl
  · rw [e3]; exact hx
  · intro p hp; rw [ug_same]
    show (if p < 8 then (0 : Int32) else _) = _
    rw [if_pos hp]; rfl
  · intro p hp; rw [ug_same]
    show (if p < 8 then (0 : Int32) else _) = _
    rw [if_pos hp]; rfl
  · intro p hp; rw [ug_same]
    show (if 0 ≤ p ∧ p < 0 + 8 then ga (g (200 + n)) 5 (0 + (p - 0)) else _) = _
    rw [if_pos ⟨by omega, by omega⟩, show 0 + (p - 0) = p by omega]
    exact hx.kn hp
  · rw [ug_same]; rfl
  · rw [ug_same]; rfl
  · rw [ug_same]; rfl
  · refine ⟨fun p hp => ?_, ?_, ?_, ?_⟩
    · rw [ug_same]
      show (if p < 8 then (0 : Int32) else _) = _
      rw [if_pos hp]; rfl
    · rw [ug_same]; rfl
    · rw [ug_same]; rfl
    · rw [ug_same]; rfl
theorem begM {r : Rec} {n : Nat} {v : Hv} (hd : Hd r n v) : ∃ r', fX10_begin r = some r' ∧ cM r' n v (begC v) ∧ FrM r r' := by
  unfold fX10_begin
  rw [bd_some, bd_some, bd_some]
  obtain ⟨x, h1, h2⟩ := iter_loop (step := fun st : Int32 × Rec => bX10_begin_17 st.2 st.1) (fun i st => st.1 = nI i ∧ (∀ p, p < i → ga st.2 33 p = nI 0) ∧ (∀ p, p < i → ga st.2 34 p = nI 0) ∧ (∀ k, k ≠ 33 → k ≠ 34 → ga st.2 k = ga r k) ∧ gi st.2 30 = nI 0 ∧ gi st.2 31 = nI 0 ∧ gi st.2 32 = nI 0 ∧ (∀ k, k ≠ 30 → k ≠ 31 → k ≠ 32 → gi st.2 k = gi r k)) (fun x => cM x n v (begC v) ∧ FrM r x) 8 (by
    rintro i ⟨k, q⟩ hi ⟨e, a1, a2, a3, a4, a5, a6, a7⟩
    dsimp only at e a1 a2 a3 a4 a5 a6 a7
    subst e
    refine ⟨(nI (i + 1), sa (sa q 33 (upd (ga q 33) i (nI 0))) 34 (upd (ga q 34) i (nI 0))), ?_, rfl, fun p hp => ?_, fun p hp => ?_, fun k k1 k2 => ?_, a4, a5, a6, a7⟩
    · show bX10_begin_17 q (nI i) = _
      unfold bX10_begin_17
      simp (disch := omega) only [bd_some, gd_true, inR_nI, nI_clamp, nI_add, pk_mul, pk_sub, leT, leF, ltT, ltF, eqT, eqF, ite_true, ite_false, reduceIte, nz_nI, oc_s, oc_n, pk_div, pk_rem, m1F, L0, L1, L2, L3, L4, L5, L6, L7, L8, L9, L10, L11, L12, L19, L20, L24, L25, L27, L28, L30, L32, L37, L39, L40, L47, L48, L50, L55, L57, L60, L61, L63, L71, L80, L97, L99, L100, L120, L122, L128, L161, L17, L600, L1000000, L1024, L1408, isB0, isB1, subdm, inT, inFl, inFh, ug_same, ug_ug, ug_ne, ga_sae, ga_san, gi_sie, gi_sin, ga_si, gi_sa, gr_si, gr_sa, ga_sr, gi_sr, gr_sre]
    · show upd (ga q 33) i _ p = _
      rw [upd_if]
      by_cases e : p = i
      · rw [if_pos e]
      · rw [if_neg e]; exact a1 p (by omega)
    · show upd (ga q 34) i _ p = _
      rw [upd_if]
      by_cases e : p = i
      · rw [if_pos e]
      · rw [if_neg e]; exact a2 p (by omega)
    · show ga (sa (sa q 33 _) 34 _) k = _
      rw [ga_san k2, ga_san k1]; exact a3 k k1 k2) (by
    rintro ⟨k, q⟩ ⟨e, a1, a2, a3, a4, a5, a6, a7⟩
    dsimp only at e a1 a2 a3 a4 a5 a6 a7
    subst e
    refine ⟨q, ?_, ⟨hd.1, ?_, ?_, ?_, ?_, a1, a2, ?_, a5, a4, a6⟩, ⟨fun k k1 k2 k3 => a3 k k2 k3, a7⟩⟩
    · show bX10_begin_17 q (nI 8) = _
      unfold bX10_begin_17
      simp (disch := omega) only [bd_some, gd_true, inR_nI, nI_clamp, nI_add, pk_mul, pk_sub, leT, leF, ltT, ltF, eqT, eqF, ite_true, ite_false, reduceIte, nz_nI, oc_s, oc_n, pk_div, pk_rem, m1F, L0, L1, L2, L3, L4, L5, L6, L7, L8, L9, L10, L11, L12, L19, L20, L24, L25, L27, L28, L30, L32, L37, L39, L40, L47, L48, L50, L55, L57, L60, L61, L63, L71, L80, L97, L99, L100, L120, L122, L128, L161, L17, L600, L1000000, L1024, L1408, isB0, isB1, subdm, inT, inFl, inFh]
    · show gi q 25 = _; rw [a7 25 (by decide) (by decide) (by decide)]; exact hd.2.1
    · show gi q 26 = _; rw [a7 26 (by decide) (by decide) (by decide)]; exact hd.P
    · show gi q 27 = _; rw [a7 27 (by decide) (by decide) (by decide)]; exact hd.S
    · show HM (ga q 6) _ _; rw [a3 6 (by decide) (by decide)]; exact HM2 hd
    · intro t ht; show ga q 28 t = _; rw [a3 28 (by decide) (by decide)]; exact hd.kn ht) (s0 := (0, si (si (si r 30 0) 31 0) 32 0)) ⟨rfl, fun p hp => by omega, fun p hp => by omega, fun _ _ _ => rfl, rfl, rfl, rfl, fun k k1 k2 k3 => by rw [gi_sin k3, gi_sin k2, gi_sin k1]⟩
  exact ⟨x, h1, h2⟩
/-! a deed of a month -/
def Mo (g : Gs) (r : Rec) (m : Nat) (w : Rv) : Prop := m < 2 ∧ MvOK w ∧ MX (g (500 + m)) w ∧ gi r 29 = nI m ∧ MM (ga r 7) (161 * m) w
theorem Mo.step {g g' : Gs} {r r' : Rec} {m : Nat} {w : Rv} (h : Mo g r m w) (h1 : ∀ o, o ≠ 1 → g' o = g o) (h2 : FrM r r') : Mo g' r' m w := ⟨h.1, h.2.1, by rw [h1 _ (by omega)]; exact h.2.2.1, by rw [h2.2 29 (by decide) (by decide) (by decide)]; exact h.2.2.2.1, by rw [h2.1 7 (by decide) (by decide) (by decide)]; exact h.2.2.2.2⟩
theorem Mo.cell {g : Gs} {r : Rec} {m : Nat} {w : Rv} (h : Mo g r m w) {k c : Nat} (hk : k < w.1) (hc : c < 4) : fX5_cell (g (500 + m)) (nI k) (nI c) = some (if c = 0 then w.2 k 0 + 4 else w.2 k c) := by
  rw [cell_nI (lim := 40) h.2.2.1.1 h.2.2.1.2.1 h.2.1.1 (by decide) hk hc]
  by_cases e : c = 0
  · subst e
    rw [if_pos rfl]
    exact congrArg some (h.2.2.1.2.2 k hk).1
  · rw [if_neg e]
    have := (h.2.2.1.2.2 k hk).2 (c - 1) (by omega)
    rw [show 4 * k + (c - 1) + 1 = 4 * k + c by omega, show c - 1 + 1 = c by omega] at this
    exact congrArg some this
theorem Mo.deed {g : Gs} {r : Rec} {m : Nat} {w : Rv} (h : Mo g r m w) {k c : Nat} (hk : k < w.1) (hc : c < 4) : fX10_deedOf r (nI k) (nI c) = some (w.2 k c) := by
  have h40 := h.2.1.1
  have hm := h.1
  unfold fX10_deedOf
  simp (disch := omega) only [h.2.2.2.1, bd_some, gd_true, inR_nI, nI_clamp, nI_add, pk_mul, pk_sub, leT, leF, ltT, ltF, eqT, eqF, ite_true, ite_false, reduceIte, nz_nI, oc_s, oc_n, pk_div, pk_rem, m1F, L0, L1, L2, L3, L4, L5, L6, L7, L8, L9, L10, L11, L12, L19, L20, L24, L25, L27, L28, L30, L32, L37, L39, L40, L47, L48, L50, L55, L57, L60, L61, L63, L71, L80, L97, L99, L100, L120, L122, L128, L161, L17, L600, L1000000, L1024, L1408, isB0, isB1, subdm, inT, inFl, inFh]
  exact congrArg some (h.2.2.2.2.2 k hk c hc)
theorem Mo.deeds {g : Gs} {r : Rec} {m : Nat} {w : Rv} (h : Mo g r m w) : fX10_deeds r = some (nI w.1) := by
  have hm := h.1
  unfold fX10_deeds
  simp (disch := omega) only [h.2.2.2.1, bd_some, gd_true, inR_nI, nI_clamp, nI_add, pk_mul, pk_sub, leT, leF, ltT, ltF, eqT, eqF, ite_true, ite_false, reduceIte, nz_nI, oc_s, oc_n, pk_div, pk_rem, m1F, L0, L1, L2, L3, L4, L5, L6, L7, L8, L9, L10, L11, L12, L19, L20, L24, L25, L27, L28, L30, L32, L37, L39, L40, L47, L48, L50, L55, L57, L60, L61, L63, L71, L80, L97, L99, L100, L120, L122, L128, L161, L17, L600, L1000000, L1024, L1408, isB0, isB1, subdm, inT, inFl, inFh]
  exact congrArg some h.2.2.2.2.1
theorem StepOK.isB {g : Gs} {r : Rec} {n : Nat} {v : Hv} {X X' : Option (Gs × Int32)} {M M' : Option (Rec × Int32)} (h : StepOK g r n v X M) (h1 : X' = X.bind (fun z => gd (isB z.2) (some ((z.1, z.2))))) (h2 : M' = M.bind (fun z => gd (isB z.2) (some ((z.1, z.2))))) : StepOK g r n v X' M' := by
  obtain ⟨g', r', b, c', e1, e2, e3, e4⟩ := h
  refine ⟨g', r', b, c', ?_, ?_, e3, e4⟩
  · rw [h1, e1]; rcases e3 with rfl | rfl <;> rfl
  · rw [h2, e2]; rcases e3 with rfl | rfl <;> rfl
theorem deed_step {g : Gs} {r : Rec} {n m : Nat} {v : Hv} {c : Cv} {w : Rv} (ok : HvOK v) (h : Co g r n v c) (hm : Mo g r m w) {k : Nat} (hk : k < w.1) : StepOK g r n v ((fX5_cell (g (500 + m)) (nI k) (nI 0)).bind fun z5 => (fX5_cell (g (500 + m)) (nI k) (nI 1)).bind fun z6 => (fX5_cell (g (500 + m)) (nI k) (nI 2)).bind fun z7 => (fX5_cell (g (500 + m)) (nI k) (nI 3)).bind fun z8 => fX0_perform g z5 z6 z7 z8) (fX10_doesDeed r (nI k)) := by
  obtain ⟨⟨d, hd, ed⟩, -⟩ := hm.2.1.2 k hk
  have c0 := hm.cell hk (c := 0) (by decide)
  have c1 := hm.cell hk (c := 1) (by decide)
  have c2 := hm.cell hk (c := 2) (by decide)
  have c3 := hm.cell hk (c := 3) (by decide)
  rw [if_pos rfl, ed] at c0
  rw [if_neg (by decide)] at c1 c2 c3
  have m0 := hm.deed hk (c := 0) (by decide)
  have m1 := hm.deed hk (c := 1) (by decide)
  have m2 := hm.deed hk (c := 2) (by decide)
  have m3 := hm.deed hk (c := 3) (by decide)
  rw [ed] at m0
  generalize w.2 k 1 = x1 at *
  generalize w.2 k 2 = x2 at *
  generalize w.2 k 3 = x3 at *
  have eX : ((fX5_cell (g (500 + m)) (nI k) (nI 0)).bind fun z5 => (fX5_cell (g (500 + m)) (nI k) (nI 1)).bind fun z6 => (fX5_cell (g (500 + m)) (nI k) (nI 2)).bind fun z7 => (fX5_cell (g (500 + m)) (nI k) (nI 3)).bind fun z8 => fX0_perform g z5 z6 z7 z8) = fX0_perform g (nI (d + 4)) x1 x2 x3 := by
    rw [c0, bd_some, c1, bd_some, c2, bd_some, c3, bd_some, L4, nI_add]
  have eM : fX10_doesDeed r (nI k) = (fX10_does r (nI d) x1 x2 x3).bind fun z5 => gd (isB z5.2) (some ((z5.1, z5.2))) := by
    unfold fX10_doesDeed
    rw [L0, L1, L2, L3, m0, bd_some, m1, bd_some, m2, bd_some, m3, bd_some]
  rw [eX, eM]
  suffices hh : ∀ X : Option (Gs × Int32), ∀ M : Option (Rec × Int32), StepOK g r n v X M → fX0_perform g (nI (d + 4)) x1 x2 x3 = X.bind (fun z => gd (isB z.2) (some ((z.1, z.2)))) → fX10_does r (nI d) x1 x2 x3 = M.bind (fun z => gd (isB z.2) (some ((z.1, z.2)))) → StepOK g r n v (fX0_perform g (nI (d + 4)) x1 x2 x3) ((fX10_does r (nI d) x1 x2 x3).bind fun z5 => gd (isB z5.2) (some ((z5.1, z5.2)))) by
    rcases (show d = 0 ∨ d = 1 ∨ d = 2 ∨ d = 3 ∨ d = 4 ∨ d = 5 by omega) with rfl | rfl | rfl | rfl | rfl | rfl
    · exact hh _ _ (tell_step ok h x1 x2) (by unfold fX0_perform; simp (disch := omega) only [Nat.reduceAdd, bd_some, gd_true, inR_nI, nI_clamp, nI_add, pk_mul, pk_sub, leT, leF, ltT, ltF, eqT, eqF, ite_true, ite_false, reduceIte, nz_nI, oc_s, oc_n, pk_div, pk_rem, m1F, L0, L1, L2, L3, L4, L5, L6, L7, L8, L9, L10, L11, L12, L19, L20, L24, L25, L27, L28, L30, L32, L37, L39, L40, L47, L48, L50, L55, L57, L60, L61, L63, L71, L80, L97, L99, L100, L120, L122, L128, L161, L17, L600, L1000000, L1024, L1408, isB0, isB1, subdm, inT, inFl, inFh]) (by unfold fX10_does; simp (disch := omega) only [bd_some, gd_true, inR_nI, nI_clamp, nI_add, pk_mul, pk_sub, leT, leF, ltT, ltF, eqT, eqF, ite_true, ite_false, reduceIte, nz_nI, oc_s, oc_n, pk_div, pk_rem, m1F, L0, L1, L2, L3, L4, L5, L6, L7, L8, L9, L10, L11, L12, L19, L20, L24, L25, L27, L28, L30, L32, L37, L39, L40, L47, L48, L50, L55, L57, L60, L61, L63, L71, L80, L97, L99, L100, L120, L122, L128, L161, L17, L600, L1000000, L1024, L1408, isB0, isB1, subdm, inT, inFl, inFh])
    · exact hh _ _ (both_step ok h x1 x2 x3) (by unfold fX0_perform; simp (disch := omega) only [Nat.reduceAdd, bd_some, gd_true, inR_nI, nI_clamp, nI_add, pk_mul, pk_sub, leT, leF, ltT, ltF, eqT, eqF, ite_true, ite_false, reduceIte, nz_nI, oc_s, oc_n, pk_div, pk_rem, m1F, L0, L1, L2, L3, L4, L5, L6, L7, L8, L9, L10, L11, L12, L19, L20, L24, L25, L27, L28, L30, L32, L37, L39, L40, L47, L48, L50, L55, L57, L60, L61, L63, L71, L80, L97, L99, L100, L120, L122, L128, L161, L17, L600, L1000000, L1024, L1408, isB0, isB1, subdm, inT, inFl, inFh]) (by unfold fX10_does; simp (disch := omega) only [bd_some, gd_true, inR_nI, nI_clamp, nI_add, pk_mul, pk_sub, leT, leF, ltT, ltF, eqT, eqF, ite_true, ite_false, reduceIte, nz_nI, oc_s, oc_n, pk_div, pk_rem, m1F, L0, L1, L2, L3, L4, L5, L6, L7, L8, L9, L10, L11, L12, L19, L20, L24, L25, L27, L28, L30, L32, L37, L39, L40, L47, L48, L50, L55, L57, L60, L61, L63, L71, L80, L97, L99, L100, L120, L122, L128, L161, L17, L600, L1000000, L1024, L1408, isB0, isB1, subdm, inT, inFl, inFh])
    · exact hh _ _ (pol_step ok h x1) (by unfold fX0_perform; simp (disch := omega) only [Nat.reduceAdd, bd_some, gd_true, inR_nI, nI_clamp, nI_add, pk_mul, pk_sub, leT, leF, ltT, ltF, eqT, eqF, ite_true, ite_false, reduceIte, nz_nI, oc_s, oc_n, pk_div, pk_rem, m1F, L0, L1, L2, L3, L4, L5, L6, L7, L8, L9, L10, L11, L12, L19, L20, L24, L25, L27, L28, L30, L32, L37, L39, L40, L47, L48, L50, L55, L57, L60, L61, L63, L71, L80, L97, L99, L100, L120, L122, L128, L161, L17, L600, L1000000, L1024, L1408, isB0, isB1, subdm, inT, inFl, inFh]) (by unfold fX10_does; simp (disch := omega) only [bd_some, gd_true, inR_nI, nI_clamp, nI_add, pk_mul, pk_sub, leT, leF, ltT, ltF, eqT, eqF, ite_true, ite_false, reduceIte, nz_nI, oc_s, oc_n, pk_div, pk_rem, m1F, L0, L1, L2, L3, L4, L5, L6, L7, L8, L9, L10, L11, L12, L19, L20, L24, L25, L27, L28, L30, L32, L37, L39, L40, L47, L48, L50, L55, L57, L60, L61, L63, L71, L80, L97, L99, L100, L120, L122, L128, L161, L17, L600, L1000000, L1024, L1408, isB0, isB1, subdm, inT, inFl, inFh])
    · exact hh _ _ (steal_step ok h x1) (by unfold fX0_perform; simp (disch := omega) only [Nat.reduceAdd, bd_some, gd_true, inR_nI, nI_clamp, nI_add, pk_mul, pk_sub, leT, leF, ltT, ltF, eqT, eqF, ite_true, ite_false, reduceIte, nz_nI, oc_s, oc_n, pk_div, pk_rem, m1F, L0, L1, L2, L3, L4, L5, L6, L7, L8, L9, L10, L11, L12, L19, L20, L24, L25, L27, L28, L30, L32, L37, L39, L40, L47, L48, L50, L55, L57, L60, L61, L63, L71, L80, L97, L99, L100, L120, L122, L128, L161, L17, L600, L1000000, L1024, L1408, isB0, isB1, subdm, inT, inFl, inFh]) (by unfold fX10_does bX10_does_67 bX10_does_79; simp (disch := omega) only [bd_some, gd_true, inR_nI, nI_clamp, nI_add, pk_mul, pk_sub, leT, leF, ltT, ltF, eqT, eqF, ite_true, ite_false, reduceIte, nz_nI, oc_s, oc_n, pk_div, pk_rem, m1F, L0, L1, L2, L3, L4, L5, L6, L7, L8, L9, L10, L11, L12, L19, L20, L24, L25, L27, L28, L30, L32, L37, L39, L40, L47, L48, L50, L55, L57, L60, L61, L63, L71, L80, L97, L99, L100, L120, L122, L128, L161, L17, L600, L1000000, L1024, L1408, isB0, isB1, subdm, inT, inFl, inFh])
    · exact hh _ _ (back_step ok h x1) (by unfold fX0_perform; simp (disch := omega) only [Nat.reduceAdd, bd_some, gd_true, inR_nI, nI_clamp, nI_add, pk_mul, pk_sub, leT, leF, ltT, ltF, eqT, eqF, ite_true, ite_false, reduceIte, nz_nI, oc_s, oc_n, pk_div, pk_rem, m1F, L0, L1, L2, L3, L4, L5, L6, L7, L8, L9, L10, L11, L12, L19, L20, L24, L25, L27, L28, L30, L32, L37, L39, L40, L47, L48, L50, L55, L57, L60, L61, L63, L71, L80, L97, L99, L100, L120, L122, L128, L161, L17, L600, L1000000, L1024, L1408, isB0, isB1, subdm, inT, inFl, inFh]) (by unfold fX10_does bX10_does_67 bX10_does_79; simp (disch := omega) only [bd_some, gd_true, inR_nI, nI_clamp, nI_add, pk_mul, pk_sub, leT, leF, ltT, ltF, eqT, eqF, ite_true, ite_false, reduceIte, nz_nI, oc_s, oc_n, pk_div, pk_rem, m1F, L0, L1, L2, L3, L4, L5, L6, L7, L8, L9, L10, L11, L12, L19, L20, L24, L25, L27, L28, L30, L32, L37, L39, L40, L47, L48, L50, L55, L57, L60, L61, L63, L71, L80, L97, L99, L100, L120, L122, L128, L161, L17, L600, L1000000, L1024, L1408, isB0, isB1, subdm, inT, inFl, inFh])
    · exact hh _ _ (hour_step ok h) (by unfold fX0_perform; simp (disch := omega) only [Nat.reduceAdd, bd_some, gd_true, inR_nI, nI_clamp, nI_add, pk_mul, pk_sub, leT, leF, ltT, ltF, eqT, eqF, ite_true, ite_false, reduceIte, nz_nI, oc_s, oc_n, pk_div, pk_rem, m1F, L0, L1, L2, L3, L4, L5, L6, L7, L8, L9, L10, L11, L12, L19, L20, L24, L25, L27, L28, L30, L32, L37, L39, L40, L47, L48, L50, L55, L57, L60, L61, L63, L71, L80, L97, L99, L100, L120, L122, L128, L161, L17, L600, L1000000, L1024, L1408, isB0, isB1, subdm, inT, inFl, inFh]) (by unfold fX10_does; simp (disch := omega) only [bd_some, gd_true, inR_nI, nI_clamp, nI_add, pk_mul, pk_sub, leT, leF, ltT, ltF, eqT, eqF, ite_true, ite_false, reduceIte, nz_nI, oc_s, oc_n, pk_div, pk_rem, m1F, L0, L1, L2, L3, L4, L5, L6, L7, L8, L9, L10, L11, L12, L19, L20, L24, L25, L27, L28, L30, L32, L37, L39, L40, L47, L48, L50, L55, L57, L60, L61, L63, L71, L80, L97, L99, L100, L120, L122, L128, L161, L17, L600, L1000000, L1024, L1408, isB0, isB1, subdm, inT, inFl, inFh])
  intro X M hs e1 e2
  obtain ⟨g', r', b, c', s1, s2, s3, s4⟩ := hs
  refine ⟨g', r', b, c', ?_, ?_, s3, s4⟩
  · rw [e1, s1]; rcases s3 with rfl | rfl <;> rfl
  · rw [e2, s2]; rcases s3 with rfl | rfl <;> rfl
/-! the brightest, dusk -/
def bv (f : Nat → Nat) : Option Nat → Nat
  | none => 0
  | some q => f q
theorem bv_s (f : Nat → Nat) (q : Nat) : bv f (some q) = f q := rfl
theorem bv_n (f : Nat → Nat) : bv f none = 0 := rfl
theorem eO_n : eO none = -nI 1 := rfl
def bst (f : Nat → Nat) (n : Nat) : Option Nat := fo (fun p b => if bv f b < f p then some p else b) none n
theorem bst_lt {f : Nat → Nat} : ∀ {n q}, bst f n = some q → q < n
  | 0, q, h => by cases h
  | n + 1, q, h => by
    have h : (if bv f (bst f n) < f n then some n else bst f n) = some q := h
    by_cases c : bv f (bst f n) < f n
    · rw [if_pos c] at h; cases h; omega
    · rw [if_neg c] at h; have := bst_lt h; omega
def sg (c : Cv) (p : Nat) : Nat := cs c p + cg c p
theorem sg_le {v : Hv} {c : Cv} (hC : cOK v c) {p : Nat} (hp : p < 8) : sg c p ≤ 65 := by have := hC.1 p hp; unfold sg; omega
theorem brightest_nI {g : Gs} {n : Nat} {v : Hv} {c : Cv} (ok : HvOK v) (hX : cX g n v c) (hC : cOK v c) : fX0_brightest g = some (eO (bst (sg c) (hP v))) := by
  have hP8 := ok.1
  unfold fX0_brightest
  refine loopO (step := fun st : Int32 × Int32 × Int32 => bX0_brightest_6 g st.1 st.2.1 st.2.2) (fun i => (eO (bst (sg c) i), nI (bv (sg c) (bst (sg c) i)), nI i)) (hP v) (fun i hi => ?_) ?_
  · show bX0_brightest_6 g (eO (bst (sg c) i)) (nI (bv (sg c) (bst (sg c) i))) (nI i) = some (.inl (eO (if bv (sg c) (bst (sg c) i) < sg c i then some i else bst (sg c) i), nI (bv (sg c) (if bv (sg c) (bst (sg c) i) < sg c i then some i else bst (sg c) i)), nI (i + 1)))
    have hb : bv (sg c) (bst (sg c) i) ≤ 65 := by
      cases e : bst (sg c) i with
      | none => show 0 ≤ 65; omega
      | some q => have := bst_lt e; exact sg_le hC (by omega)
    have hs := sg_le hC (p := i) (by omega)
    have es : cs c i + cg c i = sg c i := rfl
    unfold bX0_brightest_6 bX0_brightest_50
    by_cases cc : bv (sg c) (bst (sg c) i) < sg c i
    · rw [if_pos cc]
      simp (disch := omega) only [hX.h, hX.hm, hX.hx.P, hX.sh, hX.gl, es, eO_s, bv_s, bd_some, gd_true, inR_nI, nI_clamp, nI_add, pk_mul, pk_sub, leT, leF, ltT, ltF, eqT, eqF, ite_true, ite_false, reduceIte, nz_nI, oc_s, oc_n, pk_div, pk_rem, m1F, L0, L1, L2, L3, L4, L5, L6, L7, L8, L9, L10, L11, L12, L19, L20, L24, L25, L27, L28, L30, L32, L37, L39, L40, L47, L48, L50, L55, L57, L60, L61, L63, L71, L80, L97, L99, L100, L120, L122, L128, L161, L17, L600, L1000000, L1024, L1408, isB0, isB1, subdm, inT, inFl, inFh]
    · rw [if_neg cc]
      simp (disch := omega) only [hX.h, hX.hm, hX.hx.P, hX.sh, hX.gl, es, bd_some, gd_true, inR_nI, nI_clamp, nI_add, pk_mul, pk_sub, leT, leF, ltT, ltF, eqT, eqF, ite_true, ite_false, reduceIte, nz_nI, oc_s, oc_n, pk_div, pk_rem, m1F, L0, L1, L2, L3, L4, L5, L6, L7, L8, L9, L10, L11, L12, L19, L20, L24, L25, L27, L28, L30, L32, L37, L39, L40, L47, L48, L50, L55, L57, L60, L61, L63, L71, L80, L97, L99, L100, L120, L122, L128, L161, L17, L600, L1000000, L1024, L1408, isB0, isB1, subdm, inT, inFl, inFh]
  · show bX0_brightest_6 g _ _ (nI (hP v)) = _
    unfold bX0_brightest_6
    simp (disch := omega) only [hX.h, hX.hm, hX.hx.P, bd_some, gd_true, inR_nI, nI_clamp, nI_add, pk_mul, pk_sub, leT, leF, ltT, ltF, eqT, eqF, ite_true, ite_false, reduceIte, nz_nI, oc_s, oc_n, pk_div, pk_rem, m1F, L0, L1, L2, L3, L4, L5, L6, L7, L8, L9, L10, L11, L12, L19, L20, L24, L25, L27, L28, L30, L32, L37, L39, L40, L47, L48, L50, L55, L57, L60, L61, L63, L71, L80, L97, L99, L100, L120, L122, L128, L161, L17, L600, L1000000, L1024, L1408, isB0, isB1, subdm, inT, inFl, inFh]
    all_goals rfl
theorem bright_nI {r : Rec} {n : Nat} {v : Hv} {c : Cv} (ok : HvOK v) (hM : cM r n v c) (hC : cOK v c) : fX10_bright r = some (eO (bst (sg c) (hP v))) := by
  have hP8 := ok.1
  unfold fX10_bright
  refine loopO (step := fun st : Int32 × Int32 => bX10_bright_4 r st.1 st.2) (fun i => (eO (bst (sg c) i), nI i)) (hP v) (fun i hi => ?_) ?_
  · show bX10_bright_4 r (eO (bst (sg c) i)) (nI i) = some (.inl (eO (if bv (sg c) (bst (sg c) i) < sg c i then some i else bst (sg c) i), nI (i + 1)))
    have hs := sg_le hC (p := i) (by omega)
    have es : cs c i + cg c i = sg c i := rfl
    unfold bX10_bright_4 bX10_bright_47 bX10_bright_55
    cases e : bst (sg c) i with
    | none =>
      show _ = some (Sum.inl (eO (if 0 < sg c i then some i else none), nI (i + 1)))
      by_cases cc : 0 < sg c i
      · rw [if_pos cc]
        simp (disch := omega) only [hM.P, hM.sh, hM.gl, es, eO_s, eO_n, bd_some, gd_true, inR_nI, nI_clamp, nI_add, pk_mul, pk_sub, leT, leF, ltT, ltF, eqT, eqF, ite_true, ite_false, reduceIte, nz_nI, oc_s, oc_n, pk_div, pk_rem, m1F, L0, L1, L2, L3, L4, L5, L6, L7, L8, L9, L10, L11, L12, L19, L20, L24, L25, L27, L28, L30, L32, L37, L39, L40, L47, L48, L50, L55, L57, L60, L61, L63, L71, L80, L97, L99, L100, L120, L122, L128, L161, L17, L600, L1000000, L1024, L1408, isB0, isB1, subdm, inT, inFl, inFh]
      · rw [if_neg cc]
        simp (disch := omega) only [hM.P, hM.sh, hM.gl, es, eO_s, eO_n, bd_some, gd_true, inR_nI, nI_clamp, nI_add, pk_mul, pk_sub, leT, leF, ltT, ltF, eqT, eqF, ite_true, ite_false, reduceIte, nz_nI, oc_s, oc_n, pk_div, pk_rem, m1F, L0, L1, L2, L3, L4, L5, L6, L7, L8, L9, L10, L11, L12, L19, L20, L24, L25, L27, L28, L30, L32, L37, L39, L40, L47, L48, L50, L55, L57, L60, L61, L63, L71, L80, L97, L99, L100, L120, L122, L128, L161, L17, L600, L1000000, L1024, L1408, isB0, isB1, subdm, inT, inFl, inFh]
    | some q =>
      have hq := bst_lt e
      have hs2 := sg_le hC (p := q) (by omega)
      have es2 : cs c q + cg c q = sg c q := rfl
      show _ = some (Sum.inl (eO (if sg c q < sg c i then some i else some q), nI (i + 1)))
      by_cases cc : sg c q < sg c i
      · rw [if_pos cc]
        simp (disch := omega) only [hM.P, hM.sh, hM.gl, es, es2, eO_s, eO_n, bd_some, gd_true, inR_nI, nI_clamp, nI_add, pk_mul, pk_sub, leT, leF, ltT, ltF, eqT, eqF, ite_true, ite_false, reduceIte, nz_nI, oc_s, oc_n, pk_div, pk_rem, m1F, L0, L1, L2, L3, L4, L5, L6, L7, L8, L9, L10, L11, L12, L19, L20, L24, L25, L27, L28, L30, L32, L37, L39, L40, L47, L48, L50, L55, L57, L60, L61, L63, L71, L80, L97, L99, L100, L120, L122, L128, L161, L17, L600, L1000000, L1024, L1408, isB0, isB1, subdm, inT, inFl, inFh]
      · rw [if_neg cc]
        simp (disch := omega) only [hM.P, hM.sh, hM.gl, es, es2, eO_s, eO_n, bd_some, gd_true, inR_nI, nI_clamp, nI_add, pk_mul, pk_sub, leT, leF, ltT, ltF, eqT, eqF, ite_true, ite_false, reduceIte, nz_nI, oc_s, oc_n, pk_div, pk_rem, m1F, L0, L1, L2, L3, L4, L5, L6, L7, L8, L9, L10, L11, L12, L19, L20, L24, L25, L27, L28, L30, L32, L37, L39, L40, L47, L48, L50, L55, L57, L60, L61, L63, L71, L80, L97, L99, L100, L120, L122, L128, L161, L17, L600, L1000000, L1024, L1408, isB0, isB1, subdm, inT, inFl, inFh]
  · show bX10_bright_4 r _ (nI (hP v)) = _
    unfold bX10_bright_4
    simp (disch := omega) only [hM.P, bd_some, gd_true, inR_nI, nI_clamp, nI_add, pk_mul, pk_sub, leT, leF, ltT, ltF, eqT, eqF, ite_true, ite_false, reduceIte, nz_nI, oc_s, oc_n, pk_div, pk_rem, m1F, L0, L1, L2, L3, L4, L5, L6, L7, L8, L9, L10, L11, L12, L19, L20, L24, L25, L27, L28, L30, L32, L37, L39, L40, L47, L48, L50, L55, L57, L60, L61, L63, L71, L80, L97, L99, L100, L120, L122, L128, L161, L17, L600, L1000000, L1024, L1408, isB0, isB1, subdm, inT, inFl, inFh]
    all_goals rfl
def dq (c : Cv) (n : Nat) : Nat := sm (fun p => if 0 < sg c p then 1 else 0) n
theorem dq_le (c : Cv) (n : Nat) : dq c n ≤ n := by
  have := sm_le (f := fun p => if 0 < sg c p then 1 else 0) (c := 1) (n := n) (fun i _ => by split <;> omega)
  unfold dq
  omega
theorem duskX {g : Gs} {n : Nat} {v : Hv} {c : Cv} (ok : HvOK v) (hX : cX g n v c) (hC : cOK v c) : fX0_isDusk g = some (if dq c (hP v) ≤ 1 then nI 0 else nI 1) := by
  have hP8 := ok.1
  unfold fX0_isDusk
  refine loopO (step := fun st : Int32 × Int32 => bX0_isDusk_4 g st.1 st.2) (fun i => (nI (dq c i), nI i)) (hP v) (fun i hi => ?_) ?_
  · show bX0_isDusk_4 g (nI (dq c i)) (nI i) = some (.inl (nI (dq c i + if 0 < sg c i then 1 else 0), nI (i + 1)))
    have hs := sg_le hC (p := i) (by omega)
    have es : cs c i + cg c i = sg c i := rfl
    unfold bX0_isDusk_4 bX0_isDusk_37
    by_cases cc : 0 < sg c i
    · rw [if_pos cc]
      simp (disch := omega) only [hX.h, hX.hm, hX.hx.P, hX.sh, hX.gl, es, bd_some, gd_true, inR_nI, nI_clamp, nI_add, pk_mul, pk_sub, leT, leF, ltT, ltF, eqT, eqF, ite_true, ite_false, reduceIte, nz_nI, oc_s, oc_n, pk_div, pk_rem, m1F, L0, L1, L2, L3, L4, L5, L6, L7, L8, L9, L10, L11, L12, L19, L20, L24, L25, L27, L28, L30, L32, L37, L39, L40, L47, L48, L50, L55, L57, L60, L61, L63, L71, L80, L97, L99, L100, L120, L122, L128, L161, L17, L600, L1000000, L1024, L1408, isB0, isB1, subdm, inT, inFl, inFh]
    · rw [if_neg cc]
      simp (disch := omega) only [hX.h, hX.hm, hX.hx.P, hX.sh, hX.gl, es, bd_some, gd_true, inR_nI, nI_clamp, nI_add, pk_mul, pk_sub, leT, leF, ltT, ltF, eqT, eqF, ite_true, ite_false, reduceIte, nz_nI, oc_s, oc_n, pk_div, pk_rem, m1F, L0, L1, L2, L3, L4, L5, L6, L7, L8, L9, L10, L11, L12, L19, L20, L24, L25, L27, L28, L30, L32, L37, L39, L40, L47, L48, L50, L55, L57, L60, L61, L63, L71, L80, L97, L99, L100, L120, L122, L128, L161, L17, L600, L1000000, L1024, L1408, isB0, isB1, subdm, inT, inFl, inFh]
  · show bX0_isDusk_4 g _ (nI (hP v)) = _
    have hd := dq_le c (hP v)
    unfold bX0_isDusk_4 bX0_isDusk_45
    by_cases cc : dq c (hP v) ≤ 1
    · rw [if_pos cc]
      simp (disch := omega) only [hX.h, hX.hm, hX.hx.P, bd_some, gd_true, inR_nI, nI_clamp, nI_add, pk_mul, pk_sub, leT, leF, ltT, ltF, eqT, eqF, ite_true, ite_false, reduceIte, nz_nI, oc_s, oc_n, pk_div, pk_rem, m1F, L0, L1, L2, L3, L4, L5, L6, L7, L8, L9, L10, L11, L12, L19, L20, L24, L25, L27, L28, L30, L32, L37, L39, L40, L47, L48, L50, L55, L57, L60, L61, L63, L71, L80, L97, L99, L100, L120, L122, L128, L161, L17, L600, L1000000, L1024, L1408, isB0, isB1, subdm, inT, inFl, inFh]
    · rw [if_neg cc]
      simp (disch := omega) only [hX.h, hX.hm, hX.hx.P, bd_some, gd_true, inR_nI, nI_clamp, nI_add, pk_mul, pk_sub, leT, leF, ltT, ltF, eqT, eqF, ite_true, ite_false, reduceIte, nz_nI, oc_s, oc_n, pk_div, pk_rem, m1F, L0, L1, L2, L3, L4, L5, L6, L7, L8, L9, L10, L11, L12, L19, L20, L24, L25, L27, L28, L30, L32, L37, L39, L40, L47, L48, L50, L55, L57, L60, L61, L63, L71, L80, L97, L99, L100, L120, L122, L128, L161, L17, L600, L1000000, L1024, L1408, isB0, isB1, subdm, inT, inFl, inFh]
theorem duskM {r : Rec} {n : Nat} {v : Hv} {c : Cv} (ok : HvOK v) (hM : cM r n v c) (hC : cOK v c) : fX10_isDusk r = some (if dq c (hP v) ≤ 1 then nI 0 else nI 1) := by
  have hP8 := ok.1
  unfold fX10_isDusk
  refine loopO (step := fun st : Int32 × Int32 => bX10_isDusk_4 r st.1 st.2) (fun i => (nI (dq c i), nI i)) (hP v) (fun i hi => ?_) ?_
  · show bX10_isDusk_4 r (nI (dq c i)) (nI i) = some (.inl (nI (dq c i + if 0 < sg c i then 1 else 0), nI (i + 1)))
    have hs := sg_le hC (p := i) (by omega)
    have es : cs c i + cg c i = sg c i := rfl
    unfold bX10_isDusk_4 bX10_isDusk_34
    by_cases cc : 0 < sg c i
    · rw [if_pos cc]
      simp (disch := omega) only [hM.P, hM.sh, hM.gl, es, bd_some, gd_true, inR_nI, nI_clamp, nI_add, pk_mul, pk_sub, leT, leF, ltT, ltF, eqT, eqF, ite_true, ite_false, reduceIte, nz_nI, oc_s, oc_n, pk_div, pk_rem, m1F, L0, L1, L2, L3, L4, L5, L6, L7, L8, L9, L10, L11, L12, L19, L20, L24, L25, L27, L28, L30, L32, L37, L39, L40, L47, L48, L50, L55, L57, L60, L61, L63, L71, L80, L97, L99, L100, L120, L122, L128, L161, L17, L600, L1000000, L1024, L1408, isB0, isB1, subdm, inT, inFl, inFh]
    · rw [if_neg cc]
      simp (disch := omega) only [hM.P, hM.sh, hM.gl, es, bd_some, gd_true, inR_nI, nI_clamp, nI_add, pk_mul, pk_sub, leT, leF, ltT, ltF, eqT, eqF, ite_true, ite_false, reduceIte, nz_nI, oc_s, oc_n, pk_div, pk_rem, m1F, L0, L1, L2, L3, L4, L5, L6, L7, L8, L9, L10, L11, L12, L19, L20, L24, L25, L27, L28, L30, L32, L37, L39, L40, L47, L48, L50, L55, L57, L60, L61, L63, L71, L80, L97, L99, L100, L120, L122, L128, L161, L17, L600, L1000000, L1024, L1408, isB0, isB1, subdm, inT, inFl, inFh]
  · show bX10_isDusk_4 r _ (nI (hP v)) = _
    have hd := dq_le c (hP v)
    unfold bX10_isDusk_4 bX10_isDusk_42
    by_cases cc : dq c (hP v) ≤ 1
    · rw [if_pos cc]
      simp (disch := omega) only [hM.P, bd_some, gd_true, inR_nI, nI_clamp, nI_add, pk_mul, pk_sub, leT, leF, ltT, ltF, eqT, eqF, ite_true, ite_false, reduceIte, nz_nI, oc_s, oc_n, pk_div, pk_rem, m1F, L0, L1, L2, L3, L4, L5, L6, L7, L8, L9, L10, L11, L12, L19, L20, L24, L25, L27, L28, L30, L32, L37, L39, L40, L47, L48, L50, L55, L57, L60, L61, L63, L71, L80, L97, L99, L100, L120, L122, L128, L161, L17, L600, L1000000, L1024, L1408, isB0, isB1, subdm, inT, inFl, inFh]
    · rw [if_neg cc]
      simp (disch := omega) only [hM.P, bd_some, gd_true, inR_nI, nI_clamp, nI_add, pk_mul, pk_sub, leT, leF, ltT, ltF, eqT, eqF, ite_true, ite_false, reduceIte, nz_nI, oc_s, oc_n, pk_div, pk_rem, m1F, L0, L1, L2, L3, L4, L5, L6, L7, L8, L9, L10, L11, L12, L19, L20, L24, L25, L27, L28, L30, L32, L37, L39, L40, L47, L48, L50, L55, L57, L60, L61, L63, L71, L80, L97, L99, L100, L120, L122, L128, L161, L17, L600, L1000000, L1024, L1408, isB0, isB1, subdm, inT, inFl, inFh]
