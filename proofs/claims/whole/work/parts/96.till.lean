theorem month_cases {g : Gs} (hI : Inv g) (x : Int32) : (fX8_rowsAt (g 800) 800 (nI 1) x = some none ∧ ∀ r, MP (g 1001) r → fX10_hasMonth r x = some (si r 29 x, nI 0)) ∨ ∃ (m : Nat) (w : Rv), m < 2 ∧ x = nI m ∧ MvOK w ∧ MX (g (500 + m)) w ∧ MM (ga (g 1001) 7) (161 * m) w ∧ fX8_rowsAt (g 800) 800 (nI 1) x = some (some (500 + m)) ∧ isRw (500 + m) = true ∧ ∀ r, MP (g 1001) r → fX10_hasMonth r x = some (si r 29 (nI m), nI 1) := by
  rcases rows_cases hI (s := 1) (by decide) (by decide) x with ⟨h1, h2⟩ | ⟨m, hm, rfl, h1, h2, h3⟩
  · refine Or.inl ⟨h1, fun r hr => ?_⟩
    unfold fX10_hasMonth
    simp (disch := omega) only [h2 _ (hr.tr (MP.si _ _ _)), bd_some, gd_true, inR_nI, nI_clamp, nI_add, pk_mul, pk_sub, leT, leF, ltT, ltF, eqT, eqF, ite_true, ite_false, reduceIte, nz_nI, oc_s, oc_n, pk_div, pk_rem, m1F, L0, L1, L2, L3, L4, L5, L6, L7, L8, L9, L10, L11, L12, L19, L20, L24, L25, L27, L28, L30, L32, L37, L39, L40, L47, L48, L50, L55, L57, L60, L61, L63, L71, L80, L97, L99, L100, L120, L122, L128, L161, L17, L600, L1000000, L1024, L1408, isB0, isB1, subdm, inT, inFl, inFh]
  · obtain ⟨w, ok, hx, hmm⟩ := hI.2.1.2.2.2.2.2.2.1 m hm
    have hmm : MM (ga (g 1001) 7) (161 * m) w := by have := hmm; rw [show 161 * (2 * 0 + m) = 161 * m by omega] at this; exact this
    refine Or.inr ⟨m, w, hm, rfl, ok, hx, hmm, h1, h2, fun r hr => ?_⟩
    unfold fX10_hasMonth
    simp (disch := omega) only [h3 _ (hr.tr (MP.si _ _ _)), bd_some, gd_true, inR_nI, nI_clamp, nI_add, pk_mul, pk_sub, leT, leF, ltT, ltF, eqT, eqF, ite_true, ite_false, reduceIte, nz_nI, oc_s, oc_n, pk_div, pk_rem, m1F, L0, L1, L2, L3, L4, L5, L6, L7, L8, L9, L10, L11, L12, L19, L20, L24, L25, L27, L28, L30, L32, L37, L39, L40, L47, L48, L50, L55, L57, L60, L61, L63, L71, L80, L97, L99, L100, L120, L122, L128, L161, L17, L600, L1000000, L1024, L1408, isB0, isB1, subdm, inT, inFl, inFh]
theorem Hd.si {r : Rec} {n k : Nat} {v : Hv} {x : Int32} (hd : Hd r n v) (h1 : k ≠ 25) (h2 : k ≠ 26) (h3 : k ≠ 27) : Hd (si r k x) n v := hd.keep rfl rfl (gi_sin (by omega)) (gi_sin (by omega)) (gi_sin (by omega))
theorem XP.one {g g1 : Gs} (h1 : ∀ o, o ≠ 1 → g1 o = g o) (h : isHm (gr (g1 1) 0) = true) : XP g g1 :=
  ⟨fun o _ _ => h1 o (by omega), fun o _ _ => h1 o (by omega), fun o _ _ => h1 o (by omega), h1 _ (by omega), h1 _ (by omega), h⟩
theorem cX.hm1 {g : Gs} {n : Nat} {v : Hv} {c : Cv} (h : cX g n v c) : isHm (gr (g 1) 0) = true := by rw [h.h]; exact h.hm
/-- a house and a month, laid in the reference's hand -/
theorem lay_cases {g : Gs} (hI : Inv g) (x y : Int32) : (∃ r, fX10_layAll (si (g 1001) 0 (nI 0)) x y = some (r, nI 0) ∧ MP (g 1001) r ∧ (fX8_houseAt (g 800) 800 x = some none ∧ (fX8_rowsAt (g 800) 800 (nI 1) y = some none ∨ ∃ h, fX8_rowsAt (g 800) 800 (nI 1) y = some (some h) ∧ isRw h = true) ∨ ∃ h, fX8_houseAt (g 800) 800 x = some (some h) ∧ isHm h = true ∧ fX8_rowsAt (g 800) 800 (nI 1) y = some none)) ∨ ∃ n m v w r, n < 2 ∧ HvOK v ∧ HX (g (200 + n)) v ∧ fX8_houseAt (g 800) 800 x = some (some (200 + n)) ∧ isHm (200 + n) = true ∧ fX8_rowsAt (g 800) 800 (nI 1) y = some (some (500 + m)) ∧ isRw (500 + m) = true ∧ fX10_layAll (si (g 1001) 0 (nI 0)) x y = some (r, nI 1) ∧ MP (g 1001) r ∧ Hd r n v ∧ Mo g r m w := by
  have q0 := m0 (g 1001)
  rcases month_cases hI y with ⟨y1, y2⟩ | ⟨m, w, hm, rfl, wok, mx, mm, y1, y2, y3⟩
  · refine Or.inl ⟨si (si (g 1001) 0 (nI 0)) 29 y, ?_, q0.tr (MP.si _ _ _), ?_⟩
    · unfold fX10_layAll; simp (disch := omega) only [y2 _ q0, bd_some, gd_true, inR_nI, nI_clamp, nI_add, pk_mul, pk_sub, leT, leF, ltT, ltF, eqT, eqF, ite_true, ite_false, reduceIte, nz_nI, oc_s, oc_n, pk_div, pk_rem, m1F, L0, L1, L2, L3, L4, L5, L6, L7, L8, L9, L10, L11, L12, L19, L20, L24, L25, L27, L28, L30, L32, L37, L39, L40, L47, L48, L50, L55, L57, L60, L61, L63, L71, L80, L97, L99, L100, L120, L122, L128, L161, L17, L600, L1000000, L1024, L1408, isB0, isB1, subdm, inT, inFl, inFh]
    · rcases house_cases3 hI x with ⟨h1, h2⟩ | ⟨n, v, hn, rfl, ok, hx, h1, h2, h3⟩
      · exact Or.inl ⟨h1, Or.inl y1⟩
      · exact Or.inr ⟨_, h1, h2, y1⟩
  · have q1 : MP (g 1001) (si (si (g 1001) 0 (nI 0)) 29 (nI m)) := q0.tr (MP.si _ _ _)
    rcases house_cases3 hI x with ⟨h1, h2⟩ | ⟨n, v, hn, rfl, ok, hx, h1, h2, h3⟩
    · refine Or.inl ⟨si (si (g 1001) 0 (nI 0)) 29 (nI m), ?_, q1, Or.inl ⟨h1, Or.inr ⟨_, y1, y2⟩⟩⟩
      unfold fX10_layAll; simp (disch := omega) only [y3 _ q0, h2 _ q1, bd_some, gd_true, inR_nI, nI_clamp, nI_add, pk_mul, pk_sub, leT, leF, ltT, ltF, eqT, eqF, ite_true, ite_false, reduceIte, nz_nI, oc_s, oc_n, pk_div, pk_rem, m1F, L0, L1, L2, L3, L4, L5, L6, L7, L8, L9, L10, L11, L12, L19, L20, L24, L25, L27, L28, L30, L32, L37, L39, L40, L47, L48, L50, L55, L57, L60, L61, L63, L71, L80, L97, L99, L100, L120, L122, L128, L161, L17, L600, L1000000, L1024, L1408, isB0, isB1, subdm, inT, inFl, inFh]
    · obtain ⟨r', e1, hd, m1, e2, e3⟩ := h3 _ q1
      refine Or.inr ⟨n, m, v, w, r', hn, ok, hx, h1, h2, y1, y2, ?_, q1.tr m1, hd, hm, wok, mx, ?_, ?_⟩
      · unfold fX10_layAll; simp (disch := omega) only [y3 _ q0, e1, bd_some, gd_true, inR_nI, nI_clamp, nI_add, pk_mul, pk_sub, leT, leF, ltT, ltF, eqT, eqF, ite_true, ite_false, reduceIte, nz_nI, oc_s, oc_n, pk_div, pk_rem, m1F, L0, L1, L2, L3, L4, L5, L6, L7, L8, L9, L10, L11, L12, L19, L20, L24, L25, L27, L28, L30, L32, L37, L39, L40, L47, L48, L50, L55, L57, L60, L61, L63, L71, L80, L97, L99, L100, L120, L122, L128, L161, L17, L600, L1000000, L1024, L1408, isB0, isB1, subdm, inT, inFl, inFh]
      · rw [e3 29 (by decide) (by decide) (by decide)]; rfl
      · rw [e2 7 (by decide)]; exact mm
theorem ob_till : Ob_till Inv := by
  intro g a1 a2 hI
  rcases lay_cases hI a1 a2 with ⟨r, l1, l2, l3⟩ | ⟨n, m, v, w, r, hn, ok, hx, h1, h2, y1, y2, l1, l2, hd, hmo⟩
  · refine ⟨g, -1, r, ?_, ?_, rfl, hI.1, hI.keep (XP.rf hI.1) l2⟩
    · unfold fX9_till
      rcases l3 with ⟨k1, k2 | ⟨h, k2, k3⟩⟩ | ⟨h, k1, k2, k3⟩
      · simp (disch := omega) only [k1, k2, bd_some, gd_true, inR_nI, nI_clamp, nI_add, pk_mul, pk_sub, leT, leF, ltT, ltF, eqT, eqF, ite_true, ite_false, reduceIte, nz_nI, oc_s, oc_n, pk_div, pk_rem, m1F, L0, L1, L2, L3, L4, L5, L6, L7, L8, L9, L10, L11, L12, L19, L20, L24, L25, L27, L28, L30, L32, L37, L39, L40, L47, L48, L50, L55, L57, L60, L61, L63, L71, L80, L97, L99, L100, L120, L122, L128, L161, L17, L600, L1000000, L1024, L1408, isB0, isB1, subdm, inT, inFl, inFh]
      · simp (disch := omega) only [k1, k2, k3, bd_some, gd_true, inR_nI, nI_clamp, nI_add, pk_mul, pk_sub, leT, leF, ltT, ltF, eqT, eqF, ite_true, ite_false, reduceIte, nz_nI, oc_s, oc_n, pk_div, pk_rem, m1F, L0, L1, L2, L3, L4, L5, L6, L7, L8, L9, L10, L11, L12, L19, L20, L24, L25, L27, L28, L30, L32, L37, L39, L40, L47, L48, L50, L55, L57, L60, L61, L63, L71, L80, L97, L99, L100, L120, L122, L128, L161, L17, L600, L1000000, L1024, L1408, isB0, isB1, subdm, inT, inFl, inFh]
      · simp (disch := omega) only [k1, k2, k3, bd_some, gd_true, inR_nI, nI_clamp, nI_add, pk_mul, pk_sub, leT, leF, ltT, ltF, eqT, eqF, ite_true, ite_false, reduceIte, nz_nI, oc_s, oc_n, pk_div, pk_rem, m1F, L0, L1, L2, L3, L4, L5, L6, L7, L8, L9, L10, L11, L12, L19, L20, L24, L25, L27, L28, L30, L32, L37, L39, L40, L47, L48, L50, L55, L57, L60, L61, L63, L71, L80, L97, L99, L100, L120, L122, L128, L161, L17, L600, L1000000, L1024, L1408, isB0, isB1, subdm, inT, inFl, inFh]
    · unfold fX10_till; simp (disch := omega) only [l1, bd_some, gd_true, inR_nI, nI_clamp, nI_add, pk_mul, pk_sub, leT, leF, ltT, ltF, eqT, eqF, ite_true, ite_false, reduceIte, nz_nI, oc_s, oc_n, pk_div, pk_rem, m1F, L0, L1, L2, L3, L4, L5, L6, L7, L8, L9, L10, L11, L12, L19, L20, L24, L25, L27, L28, L30, L32, L37, L39, L40, L47, L48, L50, L55, L57, L60, L61, L63, L71, L80, L97, L99, L100, L120, L122, L128, L161, L17, L600, L1000000, L1024, L1408, isB0, isB1, subdm, inT, inFl, inFh]
  · obtain ⟨g', r', mm, c', f1, f2, f3, f4, f5, f6⟩ := follow_play (N := w.1) ok hx hd hmo (Nat.le_refl _)
    have hh := f4.1.hm1
    refine ⟨g', nI mm, r', ?_, ?_, by rw [f5 901 (by decide)], hh, hI.keep (XP.one f5 hh) (l2.tr f6.MP)⟩
    · unfold fX9_till; simp (disch := omega) only [h1, h2, y1, y2, hmo.size, f1, bd_some, gd_true, inR_nI, nI_clamp, nI_add, pk_mul, pk_sub, leT, leF, ltT, ltF, eqT, eqF, ite_true, ite_false, reduceIte, nz_nI, oc_s, oc_n, pk_div, pk_rem, m1F, L0, L1, L2, L3, L4, L5, L6, L7, L8, L9, L10, L11, L12, L19, L20, L24, L25, L27, L28, L30, L32, L37, L39, L40, L47, L48, L50, L55, L57, L60, L61, L63, L71, L80, L97, L99, L100, L120, L122, L128, L161, L17, L600, L1000000, L1024, L1408, isB0, isB1, subdm, inT, inFl, inFh]
    · rw [f5 1001 (by decide)]; unfold fX10_till; simp (disch := omega) only [l1, hmo.deeds, f2, bd_some, gd_true, inR_nI, nI_clamp, nI_add, pk_mul, pk_sub, leT, leF, ltT, ltF, eqT, eqF, ite_true, ite_false, reduceIte, nz_nI, oc_s, oc_n, pk_div, pk_rem, m1F, L0, L1, L2, L3, L4, L5, L6, L7, L8, L9, L10, L11, L12, L19, L20, L24, L25, L27, L28, L30, L32, L37, L39, L40, L47, L48, L50, L55, L57, L60, L61, L63, L71, L80, L97, L99, L100, L120, L122, L128, L161, L17, L600, L1000000, L1024, L1408, isB0, isB1, subdm, inT, inFl, inFh]
theorem ob_state : Ob_state Inv := by
  intro g a1 a2 a3 a4 hI
  rcases lay_cases hI a1 a2 with ⟨r, l1, l2, l3⟩ | ⟨n, m, v, w, r, hn, ok, hx, h1, h2, y1, y2, l1, l2, hd, hmo⟩
  · refine ⟨g, -2, r, ?_, ?_, rfl, hI.1, hI.keep (XP.rf hI.1) l2⟩
    · unfold fX9_state
      rcases l3 with ⟨k1, k2 | ⟨h, k2, k3⟩⟩ | ⟨h, k1, k2, k3⟩
      · simp (disch := omega) only [k1, k2, bd_some, gd_true, inR_nI, nI_clamp, nI_add, pk_mul, pk_sub, leT, leF, ltT, ltF, eqT, eqF, ite_true, ite_false, reduceIte, nz_nI, oc_s, oc_n, pk_div, pk_rem, m1F, L0, L1, L2, L3, L4, L5, L6, L7, L8, L9, L10, L11, L12, L19, L20, L24, L25, L27, L28, L30, L32, L37, L39, L40, L47, L48, L50, L55, L57, L60, L61, L63, L71, L80, L97, L99, L100, L120, L122, L128, L161, L17, L600, L1000000, L1024, L1408, isB0, isB1, subdm, inT, inFl, inFh]
      · simp (disch := omega) only [k1, k2, k3, bd_some, gd_true, inR_nI, nI_clamp, nI_add, pk_mul, pk_sub, leT, leF, ltT, ltF, eqT, eqF, ite_true, ite_false, reduceIte, nz_nI, oc_s, oc_n, pk_div, pk_rem, m1F, L0, L1, L2, L3, L4, L5, L6, L7, L8, L9, L10, L11, L12, L19, L20, L24, L25, L27, L28, L30, L32, L37, L39, L40, L47, L48, L50, L55, L57, L60, L61, L63, L71, L80, L97, L99, L100, L120, L122, L128, L161, L17, L600, L1000000, L1024, L1408, isB0, isB1, subdm, inT, inFl, inFh]
      · simp (disch := omega) only [k1, k2, k3, bd_some, gd_true, inR_nI, nI_clamp, nI_add, pk_mul, pk_sub, leT, leF, ltT, ltF, eqT, eqF, ite_true, ite_false, reduceIte, nz_nI, oc_s, oc_n, pk_div, pk_rem, m1F, L0, L1, L2, L3, L4, L5, L6, L7, L8, L9, L10, L11, L12, L19, L20, L24, L25, L27, L28, L30, L32, L37, L39, L40, L47, L48, L50, L55, L57, L60, L61, L63, L71, L80, L97, L99, L100, L120, L122, L128, L161, L17, L600, L1000000, L1024, L1408, isB0, isB1, subdm, inT, inFl, inFh]
    · unfold fX10_state; simp (disch := omega) only [l1, bd_some, gd_true, inR_nI, nI_clamp, nI_add, pk_mul, pk_sub, leT, leF, ltT, ltF, eqT, eqF, ite_true, ite_false, reduceIte, nz_nI, oc_s, oc_n, pk_div, pk_rem, m1F, L0, L1, L2, L3, L4, L5, L6, L7, L8, L9, L10, L11, L12, L19, L20, L24, L25, L27, L28, L30, L32, L37, L39, L40, L47, L48, L50, L55, L57, L60, L61, L63, L71, L80, L97, L99, L100, L120, L122, L128, L161, L17, L600, L1000000, L1024, L1408, isB0, isB1, subdm, inT, inFl, inFh]
  · have h40 := hmo.2.1.1
    rcases rng a3 w.1 with k | ⟨q, k, k2, rfl⟩ | ⟨q, k, k2, rfl⟩
    · refine ⟨g, -2, r, ?_, ?_, rfl, hI.1, hI.keep (XP.rf hI.1) l2⟩
      · unfold fX9_state; simp (disch := omega) only [h1, h2, y1, y2, neg0 k, bd_some, gd_true, inR_nI, nI_clamp, nI_add, pk_mul, pk_sub, leT, leF, ltT, ltF, eqT, eqF, ite_true, ite_false, reduceIte, nz_nI, oc_s, oc_n, pk_div, pk_rem, m1F, L0, L1, L2, L3, L4, L5, L6, L7, L8, L9, L10, L11, L12, L19, L20, L24, L25, L27, L28, L30, L32, L37, L39, L40, L47, L48, L50, L55, L57, L60, L61, L63, L71, L80, L97, L99, L100, L120, L122, L128, L161, L17, L600, L1000000, L1024, L1408, isB0, isB1, subdm, inT, inFl, inFh]
      · unfold fX10_state; simp (disch := omega) only [l1, hmo.deeds, in_neg k, bd_some, gd_true, inR_nI, nI_clamp, nI_add, pk_mul, pk_sub, leT, leF, ltT, ltF, eqT, eqF, ite_true, ite_false, reduceIte, nz_nI, oc_s, oc_n, pk_div, pk_rem, m1F, L0, L1, L2, L3, L4, L5, L6, L7, L8, L9, L10, L11, L12, L19, L20, L24, L25, L27, L28, L30, L32, L37, L39, L40, L47, L48, L50, L55, L57, L60, L61, L63, L71, L80, L97, L99, L100, L120, L122, L128, L161, L17, L600, L1000000, L1024, L1408, isB0, isB1, subdm, inT, inFl, inFh]
    · refine ⟨g, -2, r, ?_, ?_, rfl, hI.1, hI.keep (XP.rf hI.1) l2⟩
      · unfold fX9_state; simp (disch := omega) only [h1, h2, y1, y2, hmo.size, bd_some, gd_true, inR_nI, nI_clamp, nI_add, pk_mul, pk_sub, leT, leF, ltT, ltF, eqT, eqF, ite_true, ite_false, reduceIte, nz_nI, oc_s, oc_n, pk_div, pk_rem, m1F, L0, L1, L2, L3, L4, L5, L6, L7, L8, L9, L10, L11, L12, L19, L20, L24, L25, L27, L28, L30, L32, L37, L39, L40, L47, L48, L50, L55, L57, L60, L61, L63, L71, L80, L97, L99, L100, L120, L122, L128, L161, L17, L600, L1000000, L1024, L1408, isB0, isB1, subdm, inT, inFl, inFh]
      · unfold fX10_state; simp (disch := omega) only [l1, hmo.deeds, bd_some, gd_true, inR_nI, nI_clamp, nI_add, pk_mul, pk_sub, leT, leF, ltT, ltF, eqT, eqF, ite_true, ite_false, reduceIte, nz_nI, oc_s, oc_n, pk_div, pk_rem, m1F, L0, L1, L2, L3, L4, L5, L6, L7, L8, L9, L10, L11, L12, L19, L20, L24, L25, L27, L28, L30, L32, L37, L39, L40, L47, L48, L50, L55, L57, L60, L61, L63, L71, L80, L97, L99, L100, L120, L122, L128, L161, L17, L600, L1000000, L1024, L1408, isB0, isB1, subdm, inT, inFl, inFh]
    · obtain ⟨g', r', mm, c', f1, f2, f3, f4, f5, f6⟩ := follow_play (N := q) ok hx hd hmo k
      have hh := f4.1.hm1
      by_cases e : mm = q
      · subst e
        obtain ⟨y, t1, t2⟩ := look_eq ok f4 a4
        refine ⟨g', y, r', ?_, ?_, by rw [f5 901 (by decide)], hh, hI.keep (XP.one f5 hh) (l2.tr f6.MP)⟩
        · unfold fX9_state; simp (disch := omega) only [h1, h2, y1, y2, hmo.size, f1, t1, bd_some, gd_true, inR_nI, nI_clamp, nI_add, pk_mul, pk_sub, leT, leF, ltT, ltF, eqT, eqF, ite_true, ite_false, reduceIte, nz_nI, oc_s, oc_n, pk_div, pk_rem, m1F, L0, L1, L2, L3, L4, L5, L6, L7, L8, L9, L10, L11, L12, L19, L20, L24, L25, L27, L28, L30, L32, L37, L39, L40, L47, L48, L50, L55, L57, L60, L61, L63, L71, L80, L97, L99, L100, L120, L122, L128, L161, L17, L600, L1000000, L1024, L1408, isB0, isB1, subdm, inT, inFl, inFh]
        · rw [f5 1001 (by decide)]; unfold fX10_state; simp (disch := omega) only [l1, hmo.deeds, f2, t2, bd_some, gd_true, inR_nI, nI_clamp, nI_add, pk_mul, pk_sub, leT, leF, ltT, ltF, eqT, eqF, ite_true, ite_false, reduceIte, nz_nI, oc_s, oc_n, pk_div, pk_rem, m1F, L0, L1, L2, L3, L4, L5, L6, L7, L8, L9, L10, L11, L12, L19, L20, L24, L25, L27, L28, L30, L32, L37, L39, L40, L47, L48, L50, L55, L57, L60, L61, L63, L71, L80, L97, L99, L100, L120, L122, L128, L161, L17, L600, L1000000, L1024, L1408, isB0, isB1, subdm, inT, inFl, inFh]
      · refine ⟨g', -2, r', ?_, ?_, by rw [f5 901 (by decide)], hh, hI.keep (XP.one f5 hh) (l2.tr f6.MP)⟩
        · unfold fX9_state; simp (disch := omega) only [h1, h2, y1, y2, hmo.size, f1, bd_some, gd_true, inR_nI, nI_clamp, nI_add, pk_mul, pk_sub, leT, leF, ltT, ltF, eqT, eqF, ite_true, ite_false, reduceIte, nz_nI, oc_s, oc_n, pk_div, pk_rem, m1F, L0, L1, L2, L3, L4, L5, L6, L7, L8, L9, L10, L11, L12, L19, L20, L24, L25, L27, L28, L30, L32, L37, L39, L40, L47, L48, L50, L55, L57, L60, L61, L63, L71, L80, L97, L99, L100, L120, L122, L128, L161, L17, L600, L1000000, L1024, L1408, isB0, isB1, subdm, inT, inFl, inFh]
        · rw [f5 1001 (by decide)]; unfold fX10_state; simp (disch := omega) only [l1, hmo.deeds, f2, bd_some, gd_true, inR_nI, nI_clamp, nI_add, pk_mul, pk_sub, leT, leF, ltT, ltF, eqT, eqF, ite_true, ite_false, reduceIte, nz_nI, oc_s, oc_n, pk_div, pk_rem, m1F, L0, L1, L2, L3, L4, L5, L6, L7, L8, L9, L10, L11, L12, L19, L20, L24, L25, L27, L28, L30, L32, L37, L39, L40, L47, L48, L50, L55, L57, L60, L61, L63, L71, L80, L97, L99, L100, L120, L122, L128, L161, L17, L600, L1000000, L1024, L1408, isB0, isB1, subdm, inT, inFl, inFh]
/-! drawn -/
theorem drw_nI (x : Int32) : ∃ q, q < 65536 ∧ (x.toUInt32 >>> ((16 : Int32).toUInt32 &&& Int32.toUInt32 31)).toInt32 = nI q := by
  have e : ((16 : Int32).toUInt32 &&& Int32.toUInt32 31) = 16 := by decide
  rw [e]
  refine ⟨(x.toUInt32 >>> 16).toNat, ?_, ?_⟩
  · rw [UInt32.toNat_shiftRight]
    have := x.toUInt32.toNat_lt
    rw [Nat.shiftRight_eq_div_pow]
    have e2 : (16 : UInt32).toNat % 32 = 16 := by decide
    rw [e2]
    omega
  · apply Int32.toBitVec_inj.mp
    apply BitVec.eq_of_toNat_eq
    show (x.toUInt32 >>> 16).toNat = (x.toUInt32 >>> 16).toNat % 2 ^ 32
    exact (Nat.mod_eq_of_lt (x.toUInt32 >>> 16).toNat_lt).symm
def Dr (g : Gs) (r : Rec) (n : Nat) (v : Hv) : Prop := ∃ c, Co g r n v c ∧ gi (g 1) 8 = gi r 45
def DrS (g : Gs) (r : Rec) (n : Nat) (v : Hv) (X : Option Gs) (M : Option Rec) : Prop := ∃ g' r', X = some g' ∧ M = some r' ∧ Dr g' r' n v ∧ (∀ o, o ≠ 1 → g' o = g o) ∧ MP r r'
theorem draw_step {g : Gs} {r : Rec} {n : Nat} {v : Hv} (h : Dr g r n v) {k : Nat} (h0 : 0 < k) (hk : k ≤ 10) : ∃ g' r' q, fX0_drawBelow g (nI k) = some (g', nI q) ∧ fX10_draw r (nI k) = some (r', nI q) ∧ q < k ∧ Dr g' r' n v ∧ (∀ o, o ≠ 1 → g' o = g o) ∧ MP r r' := by
  obtain ⟨c, hco, hs⟩ := h
  obtain ⟨q, hq, eq⟩ := drw_nI (gi r 45 * 1103515245 + 12345)
  refine ⟨ug g 1 (si (g 1) 8 (gi r 45 * 1103515245 + 12345)), si r 45 (gi r 45 * 1103515245 + 12345), q % k, ?_, ?_, Nat.mod_lt _ h0, ⟨c, ⟨hco.1.acc rfl rfl rfl rfl rfl rfl rfl, ⟨hco.2.1.1, hco.2.1.2⟩, hco.2.2⟩, ?_⟩, fun o ho => ug_ne ho, MP.si _ _ _⟩
  · have hqk := Nat.div_mul_le_self q k
    unfold fX0_drawBelow
    rw [bd_some, hs, ug_same, gi_sie, eq]
    simp (disch := omega) only [bd_some, gd_true, inR_nI, nI_clamp, nI_add, pk_mul, pk_sub, leT, leF, ltT, ltF, eqT, eqF, ite_true, ite_false, reduceIte, nz_nI, oc_s, oc_n, pk_div, pk_rem, m1F, L0, L1, L2, L3, L4, L5, L6, L7, L8, L9, L10, L11, L12, L19, L20, L24, L25, L27, L28, L30, L32, L37, L39, L40, L47, L48, L50, L55, L57, L60, L61, L63, L71, L80, L97, L99, L100, L120, L122, L128, L161, L17, L600, L1000000, L1024, L1408, isB0, isB1, subdm, inT, inFl, inFh]
  · have hqk := Nat.div_mul_le_self q k
    unfold fX10_draw
    rw [bd_some, gi_sie, eq]
    simp (disch := omega) only [bd_some, gd_true, inR_nI, nI_clamp, nI_add, pk_mul, pk_sub, leT, leF, ltT, ltF, eqT, eqF, ite_true, ite_false, reduceIte, nz_nI, oc_s, oc_n, pk_div, pk_rem, m1F, L0, L1, L2, L3, L4, L5, L6, L7, L8, L9, L10, L11, L12, L19, L20, L24, L25, L27, L28, L30, L32, L37, L39, L40, L47, L48, L50, L55, L57, L60, L61, L63, L71, L80, L97, L99, L100, L120, L122, L128, L161, L17, L600, L1000000, L1024, L1408, isB0, isB1, subdm, inT, inFl, inFh]
  · rw [ug_same]; rfl
theorem StepOK.dr {g : Gs} {r : Rec} {n : Nat} {v : Hv} {X : Option (Gs × Int32)} {M : Option (Rec × Int32)} (h : StepOK g r n v X M) (hs : gi (g 1) 8 = gi r 45) : DrS g r n v (X.bind fun z => some z.1) (M.bind fun z => some z.1) := by
  obtain ⟨g', r', b, c', e1, e2, e3, e4, e5, e6⟩ := h
  refine ⟨g', r', by rw [e1]; rfl, by rw [e2]; rfl, ⟨c', e4, ?_⟩, e5.1, e6.MP⟩
  rw [e5.2.2.2 8 (by decide), hs, e6.2 45 (by decide) (by decide) (by decide)]
theorem DrS.tr {g g1 : Gs} {r r1 : Rec} {n : Nat} {v : Hv} {X : Option Gs} {M : Option Rec} (h1 : ∀ o, o ≠ 1 → g1 o = g o) (h2 : MP r r1) (h : DrS g1 r1 n v X M) : DrS g r n v X M := by
  obtain ⟨g', r', e1, e2, e3, e4, e5⟩ := h
  exact ⟨g', r', e1, e2, e3, fun o ho => (e4 o ho).trans (h1 o ho), h2.tr e5⟩
theorem telling_step {g : Gs} {r : Rec} {n : Nat} {v : Hv} (ok : HvOK v) (h : Dr g r n v) (hP0 : 0 < hP v) {q : Nat} (hq : q < 4 ∨ q = 7) (s : Int32) : DrS g r n v (bX0_drawTelling_20 g (nI q) s) (bX10_drawDeed_56 r (nI q) s) := by
  have hP8 := ok.1
  obtain ⟨c0, hc0, hs0⟩ := id h
  obtain ⟨g', r', p, e1, e2, e3, ⟨c, hco, hs⟩, e5, e6⟩ := draw_step h (k := hP v) hP0 (by omega)
  refine DrS.tr e5 e6 ?_
  obtain ⟨hX, hM, hC⟩ := id hco
  have hct := hC.2.1
  have hqk := Nat.div_mul_le_self (p + 1) (hP v)
  unfold bX0_drawTelling_20 bX10_drawDeed_56
  rcases hq with hq | hq
  · by_cases q2 : q < 2
    · have k := (tell_step ok hco s (nI p)).dr hs
      simp (disch := omega) only [hc0.1.h, hc0.1.hm, hc0.1.hx.P, hc0.2.1.P, e1, e2, bd_some, gd_true, inR_nI, nI_clamp, nI_add, pk_mul, pk_sub, leT, leF, ltT, ltF, eqT, eqF, ite_true, ite_false, reduceIte, nz_nI, oc_s, oc_n, pk_div, pk_rem, m1F, L0, L1, L2, L3, L4, L5, L6, L7, L8, L9, L10, L11, L12, L19, L20, L24, L25, L27, L28, L30, L32, L37, L39, L40, L47, L48, L50, L55, L57, L60, L61, L63, L71, L80, L97, L99, L100, L120, L122, L128, L161, L17, L600, L1000000, L1024, L1408, isB0, isB1, subdm, inT, inFl, inFh]
      exact k
    · by_cases q3 : q = 2
      · by_cases cp : p + 1 < hP v
        · have k := (both_step ok hco s (nI p) (nI (p + 1))).dr hs
          simp (disch := omega) only [hc0.1.h, hc0.1.hm, hc0.1.hx.P, hc0.2.1.P, e1, e2, hX.h, hX.hm, hX.hx.P, hM.P, bX0_drawTelling_76, Nat.mod_eq_of_lt, bd_some, gd_true, inR_nI, nI_clamp, nI_add, pk_mul, pk_sub, leT, leF, ltT, ltF, eqT, eqF, ite_true, ite_false, reduceIte, nz_nI, oc_s, oc_n, pk_div, pk_rem, m1F, L0, L1, L2, L3, L4, L5, L6, L7, L8, L9, L10, L11, L12, L19, L20, L24, L25, L27, L28, L30, L32, L37, L39, L40, L47, L48, L50, L55, L57, L60, L61, L63, L71, L80, L97, L99, L100, L120, L122, L128, L161, L17, L600, L1000000, L1024, L1408, isB0, isB1, subdm, inT, inFl, inFh]
          exact k
        · have k := (both_step ok hco s (nI p) (nI 0)).dr hs
          have em : (p + 1) % hP v = 0 := by rw [show p + 1 = hP v by omega, Nat.mod_self]
          simp (disch := omega) only [hc0.1.h, hc0.1.hm, hc0.1.hx.P, hc0.2.1.P, e1, e2, hX.h, hX.hm, hX.hx.P, hM.P, bX0_drawTelling_76, em, bd_some, gd_true, inR_nI, nI_clamp, nI_add, pk_mul, pk_sub, leT, leF, ltT, ltF, eqT, eqF, ite_true, ite_false, reduceIte, nz_nI, oc_s, oc_n, pk_div, pk_rem, m1F, L0, L1, L2, L3, L4, L5, L6, L7, L8, L9, L10, L11, L12, L19, L20, L24, L25, L27, L28, L30, L32, L37, L39, L40, L47, L48, L50, L55, L57, L60, L61, L63, L71, L80, L97, L99, L100, L120, L122, L128, L161, L17, L600, L1000000, L1024, L1408, isB0, isB1, subdm, inT, inFl, inFh]
          exact k
      · have k := (pol_step ok hco (nI p)).dr hs
        simp (disch := omega) only [hc0.1.h, hc0.1.hm, hc0.1.hx.P, hc0.2.1.P, e1, e2, bd_some, gd_true, inR_nI, nI_clamp, nI_add, pk_mul, pk_sub, leT, leF, ltT, ltF, eqT, eqF, ite_true, ite_false, reduceIte, nz_nI, oc_s, oc_n, pk_div, pk_rem, m1F, L0, L1, L2, L3, L4, L5, L6, L7, L8, L9, L10, L11, L12, L19, L20, L24, L25, L27, L28, L30, L32, L37, L39, L40, L47, L48, L50, L55, L57, L60, L61, L63, L71, L80, L97, L99, L100, L120, L122, L128, L161, L17, L600, L1000000, L1024, L1408, isB0, isB1, subdm, inT, inFl, inFh]
        exact k
  · rcases piece_cases hX.hx.P hM.P hP8 (nI p) with ⟨p1, p2⟩ | ⟨p', hp', ep, p1, p2⟩
    · exfalso
      unfold fX2_hasPiece at p1
      have p1 := p1
      simp (disch := omega) only [hX.hx.P, bd_some, gd_true, inR_nI, nI_clamp, nI_add, pk_mul, pk_sub, leT, leF, ltT, ltF, eqT, eqF, ite_true, ite_false, reduceIte, nz_nI, oc_s, oc_n, pk_div, pk_rem, m1F, L0, L1, L2, L3, L4, L5, L6, L7, L8, L9, L10, L11, L12, L19, L20, L24, L25, L27, L28, L30, L32, L37, L39, L40, L47, L48, L50, L55, L57, L60, L61, L63, L71, L80, L97, L99, L100, L120, L122, L128, L161, L17, L600, L1000000, L1024, L1408, isB0, isB1, subdm, inT, inFl, inFh] at p1
      exact absurd (Option.some.inj p1) (by decide)
    · have ep : p' = p := ((nI_eq (by omega) (by omega)).mp ep).symm
      subst ep
      cases b : (ct c).testBit p'
      · have k := (steal_step ok hco (nI p')).dr hs
        simp (disch := omega) only [hc0.1.h, hc0.1.hm, hc0.1.hx.P, hc0.2.1.P, e1, e2, bX10_drawDeed_136, fX0_isThere, hX.h, hX.hm, p1, hX.st, hM.st, hasBit_nI, has_nI, b, Bool.false_eq_true, bd_some, gd_true, inR_nI, nI_clamp, nI_add, pk_mul, pk_sub, leT, leF, ltT, ltF, eqT, eqF, ite_true, ite_false, reduceIte, nz_nI, oc_s, oc_n, pk_div, pk_rem, m1F, L0, L1, L2, L3, L4, L5, L6, L7, L8, L9, L10, L11, L12, L19, L20, L24, L25, L27, L28, L30, L32, L37, L39, L40, L47, L48, L50, L55, L57, L60, L61, L63, L71, L80, L97, L99, L100, L120, L122, L128, L161, L17, L600, L1000000, L1024, L1408, isB0, isB1, subdm, inT, inFl, inFh]
        exact k
      · have k := (back_step ok hco (nI p')).dr hs
        simp (disch := omega) only [hc0.1.h, hc0.1.hm, hc0.1.hx.P, hc0.2.1.P, e1, e2, bX10_drawDeed_136, fX0_isThere, hX.h, hX.hm, p1, hX.st, hM.st, hasBit_nI, has_nI, b, bd_some, gd_true, inR_nI, nI_clamp, nI_add, pk_mul, pk_sub, leT, leF, ltT, ltF, eqT, eqF, ite_true, ite_false, reduceIte, nz_nI, oc_s, oc_n, pk_div, pk_rem, m1F, L0, L1, L2, L3, L4, L5, L6, L7, L8, L9, L10, L11, L12, L19, L20, L24, L25, L27, L28, L30, L32, L37, L39, L40, L47, L48, L50, L55, L57, L60, L61, L63, L71, L80, L97, L99, L100, L120, L122, L128, L161, L17, L600, L1000000, L1024, L1408, isB0, isB1, subdm, inT, inFl, inFh]
        exact k
theorem drawDeed_step {g : Gs} {r : Rec} {n : Nat} {v : Hv} (ok : HvOK v) (h : Dr g r n v) : DrS g r n v (fX0_drawDeed g) (fX10_drawDeed r) := by
  have hP8 := ok.1
  have hS10 := ok.2.1
  obtain ⟨g', r', q, e1, e2, e3, hdr, e5, e6⟩ := draw_step h (k := 8) (by decide) (by decide)
  refine DrS.tr e5 e6 ?_
  obtain ⟨c, hco, hs⟩ := id hdr
  obtain ⟨hX, hM, hC⟩ := id hco
  unfold fX0_drawDeed fX10_drawDeed bX0_drawDeed_26
  by_cases c1 : 4 ≤ q ∧ q ≤ 6
  · have k := (hour_step ok hco).dr hs
    simp (disch := omega) only [e1, e2, bd_some, gd_true, inR_nI, nI_clamp, nI_add, pk_mul, pk_sub, leT, leF, ltT, ltF, eqT, eqF, ite_true, ite_false, reduceIte, nz_nI, oc_s, oc_n, pk_div, pk_rem, m1F, L0, L1, L2, L3, L4, L5, L6, L7, L8, L9, L10, L11, L12, L19, L20, L24, L25, L27, L28, L30, L32, L37, L39, L40, L47, L48, L50, L55, L57, L60, L61, L63, L71, L80, L97, L99, L100, L120, L122, L128, L161, L17, L600, L1000000, L1024, L1408, isB0, isB1, subdm, inT, inFl, inFh]
    exact k
  · have hq : q < 4 ∨ q = 7 := by omega
    have stay : DrS g' r' n v (some g') (some r') := ⟨g', r', rfl, rfl, hdr, fun _ _ => rfl, MP.rf _⟩
    have key : DrS g' r' n v ((some (gr (g' 1) 0)).bind fun h1 => gd (isHm h1) (if (gi (g' h1) 1) ≤ 0 then some (g') else (some (gr (g' 1) 0)).bind fun h3 => gd (isHm h3) (if (gi (g' h3) 0) ≤ 0 then some (g') else (fX0_drawTelling g' (nI q)).bind fun z5 => some (z5)))) (if (gi r' 27) ≤ 0 then some (r') else if (gi r' 26) ≤ 0 then some (r') else if 3 ≤ nI q then bX10_drawDeed_56 r' (nI q) (-1) else (fX10_draw r' (gi r' 27)).bind fun z16 => bX10_drawDeed_56 z16.1 (nI q) z16.2) := by
      by_cases cS : hS v = 0
      · simp (disch := omega) only [hX.h, hX.hm, hX.hx.S, hM.S, bd_some, gd_true, inR_nI, nI_clamp, nI_add, pk_mul, pk_sub, leT, leF, ltT, ltF, eqT, eqF, ite_true, ite_false, reduceIte, nz_nI, oc_s, oc_n, pk_div, pk_rem, m1F, L0, L1, L2, L3, L4, L5, L6, L7, L8, L9, L10, L11, L12, L19, L20, L24, L25, L27, L28, L30, L32, L37, L39, L40, L47, L48, L50, L55, L57, L60, L61, L63, L71, L80, L97, L99, L100, L120, L122, L128, L161, L17, L600, L1000000, L1024, L1408, isB0, isB1, subdm, inT, inFl, inFh]
        exact stay
      · by_cases cP : hP v = 0
        · simp (disch := omega) only [hX.h, hX.hm, hX.hx.S, hX.hx.P, hM.S, hM.P, bd_some, gd_true, inR_nI, nI_clamp, nI_add, pk_mul, pk_sub, leT, leF, ltT, ltF, eqT, eqF, ite_true, ite_false, reduceIte, nz_nI, oc_s, oc_n, pk_div, pk_rem, m1F, L0, L1, L2, L3, L4, L5, L6, L7, L8, L9, L10, L11, L12, L19, L20, L24, L25, L27, L28, L30, L32, L37, L39, L40, L47, L48, L50, L55, L57, L60, L61, L63, L71, L80, L97, L99, L100, L120, L122, L128, L161, L17, L600, L1000000, L1024, L1408, isB0, isB1, subdm, inT, inFl, inFh]
          exact stay
        · unfold fX0_drawTelling
          by_cases q3 : q < 3
          · obtain ⟨g2, r2, s, d1, d2, d3, hdr2, d5, d6⟩ := draw_step hdr (k := hS v) (by omega) (by omega)
            have k := DrS.tr d5 d6 (telling_step ok hdr2 (by omega) hq (nI s))
            obtain ⟨g3, r3, k1, k2, k3⟩ := k
            refine ⟨g3, r3, ?_, ?_, k3⟩
            · simp (disch := omega) only [hX.h, hX.hm, hX.hx.S, hX.hx.P, d1, k1, bd_some, gd_true, inR_nI, nI_clamp, nI_add, pk_mul, pk_sub, leT, leF, ltT, ltF, eqT, eqF, ite_true, ite_false, reduceIte, nz_nI, oc_s, oc_n, pk_div, pk_rem, m1F, L0, L1, L2, L3, L4, L5, L6, L7, L8, L9, L10, L11, L12, L19, L20, L24, L25, L27, L28, L30, L32, L37, L39, L40, L47, L48, L50, L55, L57, L60, L61, L63, L71, L80, L97, L99, L100, L120, L122, L128, L161, L17, L600, L1000000, L1024, L1408, isB0, isB1, subdm, inT, inFl, inFh]
            · simp (disch := omega) only [hM.S, hM.P, d2, k2, bd_some, gd_true, inR_nI, nI_clamp, nI_add, pk_mul, pk_sub, leT, leF, ltT, ltF, eqT, eqF, ite_true, ite_false, reduceIte, nz_nI, oc_s, oc_n, pk_div, pk_rem, m1F, L0, L1, L2, L3, L4, L5, L6, L7, L8, L9, L10, L11, L12, L19, L20, L24, L25, L27, L28, L30, L32, L37, L39, L40, L47, L48, L50, L55, L57, L60, L61, L63, L71, L80, L97, L99, L100, L120, L122, L128, L161, L17, L600, L1000000, L1024, L1408, isB0, isB1, subdm, inT, inFl, inFh]
          · have k := telling_step ok hdr (by omega) hq (-nI 1)
            obtain ⟨g3, r3, k1, k2, k3⟩ := k
            refine ⟨g3, r3, ?_, ?_, k3⟩
            · simp (disch := omega) only [hX.h, hX.hm, hX.hx.S, hX.hx.P, k1, bd_some, gd_true, inR_nI, nI_clamp, nI_add, pk_mul, pk_sub, leT, leF, ltT, ltF, eqT, eqF, ite_true, ite_false, reduceIte, nz_nI, oc_s, oc_n, pk_div, pk_rem, m1F, L0, L1, L2, L3, L4, L5, L6, L7, L8, L9, L10, L11, L12, L19, L20, L24, L25, L27, L28, L30, L32, L37, L39, L40, L47, L48, L50, L55, L57, L60, L61, L63, L71, L80, L97, L99, L100, L120, L122, L128, L161, L17, L600, L1000000, L1024, L1408, isB0, isB1, subdm, inT, inFl, inFh]
            · simp (disch := omega) only [hM.S, hM.P, k2, bd_some, gd_true, inR_nI, nI_clamp, nI_add, pk_mul, pk_sub, leT, leF, ltT, ltF, eqT, eqF, ite_true, ite_false, reduceIte, nz_nI, oc_s, oc_n, pk_div, pk_rem, m1F, L0, L1, L2, L3, L4, L5, L6, L7, L8, L9, L10, L11, L12, L19, L20, L24, L25, L27, L28, L30, L32, L37, L39, L40, L47, L48, L50, L55, L57, L60, L61, L63, L71, L80, L97, L99, L100, L120, L122, L128, L161, L17, L600, L1000000, L1024, L1408, isB0, isB1, subdm, inT, inFl, inFh]
    obtain ⟨g3, r3, k1, k2, k3⟩ := key
    refine ⟨g3, r3, ?_, ?_, k3⟩
    · rw [L8, e1, bd_some]
      dsimp only
      by_cases q4 : q < 4
      · rw [if_pos (show nI q < 4 from (nI_ltI (b := 4) (by omega) (by decide)).mpr q4)]
        exact k1
      · rw [if_neg (show ¬ nI q < 4 from fun hh => q4 ((nI_ltI (b := 4) (by omega) (by decide)).mp hh)), if_pos (show (6 : Int32) < nI q from (nI_ltI (a := 6) (by decide) (by omega)).mpr (by omega))]
        exact k1
    · rw [L8, e2, bd_some]
      dsimp only
      have ei : fX10_in (nI q) 4 6 = some (nI 0) := by
        by_cases q4 : q < 4
        · exact inFl (lo := 4) (k := 6) q4 (by decide)
        · exact inFh (lo := 4) (k := 6) (by omega) (by omega)
      rw [ei, bd_some, if_pos (show nI 0 = 0 from rfl)]
      exact k2
theorem drawn_loop {n : Nat} {v : Hv} (ok : HvOK v) {N : Nat} (hN : N ≤ 60) (x : Int32) : ∀ d k g r, k + d = N → Dr g r n v → ∃ g' r', iter (fun st : Int32 × Gs => bX0_draw_13 st.2 (nI N) st.1) (nI k, g) = some g' ∧ iter (fun st : Int32 × Rec => bX10_drawn_38 st.2 (nI N) x st.1) (nI k, r) = bX10_drawn_54 r' x ∧ Dr g' r' n v ∧ (∀ o, o ≠ 1 → g' o = g o) ∧ MP r r' := by
  intro d
  induction d with
  | zero =>
    intro k g r hk h
    have : k = N := by omega
    subst this
    refine ⟨g, r, iter_end ?_, iter_out ?_, h, fun _ _ => rfl, MP.rf _⟩
    · show bX0_draw_13 g (nI k) (nI k) = _
      unfold bX0_draw_13
      simp (disch := omega) only [bd_some, gd_true, inR_nI, nI_clamp, nI_add, pk_mul, pk_sub, leT, leF, ltT, ltF, eqT, eqF, ite_true, ite_false, reduceIte, nz_nI, oc_s, oc_n, pk_div, pk_rem, m1F, L0, L1, L2, L3, L4, L5, L6, L7, L8, L9, L10, L11, L12, L19, L20, L24, L25, L27, L28, L30, L32, L37, L39, L40, L47, L48, L50, L55, L57, L60, L61, L63, L71, L80, L97, L99, L100, L120, L122, L128, L161, L17, L600, L1000000, L1024, L1408, isB0, isB1, subdm, inT, inFl, inFh]
    · show bX10_drawn_38 r (nI k) x (nI k) = _
      unfold bX10_drawn_38
      simp (disch := omega) only [bd_some, gd_true, inR_nI, nI_clamp, nI_add, pk_mul, pk_sub, leT, leF, ltT, ltF, eqT, eqF, ite_true, ite_false, reduceIte, nz_nI, oc_s, oc_n, pk_div, pk_rem, m1F, L0, L1, L2, L3, L4, L5, L6, L7, L8, L9, L10, L11, L12, L19, L20, L24, L25, L27, L28, L30, L32, L37, L39, L40, L47, L48, L50, L55, L57, L60, L61, L63, L71, L80, L97, L99, L100, L120, L122, L128, L161, L17, L600, L1000000, L1024, L1408, isB0, isB1, subdm, inT, inFl, inFh]
  | succ d ih =>
    intro k g r hk h
    obtain ⟨g1, r1, e1, e2, e3, e4, e5⟩ := drawDeed_step ok h
    obtain ⟨g2, r2, i1, i2, i3, i4, i5⟩ := ih (k + 1) g1 r1 (by omega) e3
    refine ⟨g2, r2, ?_, ?_, i3, fun o ho => (i4 o ho).trans (e4 o ho), e5.tr i5⟩
    · rw [iter_step (s := (nI k, g)) (s' := (nI (k + 1), g1)) (by
        show bX0_draw_13 g (nI N) (nI k) = _
        unfold bX0_draw_13
        simp (disch := omega) only [e1, bd_some, gd_true, inR_nI, nI_clamp, nI_add, pk_mul, pk_sub, leT, leF, ltT, ltF, eqT, eqF, ite_true, ite_false, reduceIte, nz_nI, oc_s, oc_n, pk_div, pk_rem, m1F, L0, L1, L2, L3, L4, L5, L6, L7, L8, L9, L10, L11, L12, L19, L20, L24, L25, L27, L28, L30, L32, L37, L39, L40, L47, L48, L50, L55, L57, L60, L61, L63, L71, L80, L97, L99, L100, L120, L122, L128, L161, L17, L600, L1000000, L1024, L1408, isB0, isB1, subdm, inT, inFl, inFh])]
      exact i1
    · rw [iter_step (s := (nI k, r)) (s' := (nI (k + 1), r1)) (by
        show bX10_drawn_38 r (nI N) x (nI k) = _
        unfold bX10_drawn_38
        simp (disch := omega) only [e2, bd_some, gd_true, inR_nI, nI_clamp, nI_add, pk_mul, pk_sub, leT, leF, ltT, ltF, eqT, eqF, ite_true, ite_false, reduceIte, nz_nI, oc_s, oc_n, pk_div, pk_rem, m1F, L0, L1, L2, L3, L4, L5, L6, L7, L8, L9, L10, L11, L12, L19, L20, L24, L25, L27, L28, L30, L32, L37, L39, L40, L47, L48, L50, L55, L57, L60, L61, L63, L71, L80, L97, L99, L100, L120, L122, L128, L161, L17, L600, L1000000, L1024, L1408, isB0, isB1, subdm, inT, inFl, inFh])]
      exact i2
theorem ob_drawn : Ob_drawn Inv := by
  intro g a1 a2 a3 a4 hI
  rcases house_cases3 hI a1 with ⟨h1, h2⟩ | ⟨n, v, hn, rfl, ok, hx, h1, h2, h3⟩
  · have h2 := h2 _ (m0 _)
    refine ⟨g, -2, _, ?_, ?_, rfl, hI.1, hI.keep (XP.rf hI.1) (m0 _)⟩
    · unfold fX9_drawn; simp (disch := omega) only [h1, bd_some, gd_true, inR_nI, nI_clamp, nI_add, pk_mul, pk_sub, leT, leF, ltT, ltF, eqT, eqF, ite_true, ite_false, reduceIte, nz_nI, oc_s, oc_n, pk_div, pk_rem, m1F, L0, L1, L2, L3, L4, L5, L6, L7, L8, L9, L10, L11, L12, L19, L20, L24, L25, L27, L28, L30, L32, L37, L39, L40, L47, L48, L50, L55, L57, L60, L61, L63, L71, L80, L97, L99, L100, L120, L122, L128, L161, L17, L600, L1000000, L1024, L1408, isB0, isB1, subdm, inT, inFl, inFh]
    · unfold fX10_drawn
      rcases rng a3 60 with k | ⟨m, k, k2, rfl⟩ | ⟨m, k, k2, rfl⟩
      · simp (disch := omega) only [in_neg k, h2, bd_some, gd_true, inR_nI, nI_clamp, nI_add, pk_mul, pk_sub, leT, leF, ltT, ltF, eqT, eqF, ite_true, ite_false, reduceIte, nz_nI, oc_s, oc_n, pk_div, pk_rem, m1F, L0, L1, L2, L3, L4, L5, L6, L7, L8, L9, L10, L11, L12, L19, L20, L24, L25, L27, L28, L30, L32, L37, L39, L40, L47, L48, L50, L55, L57, L60, L61, L63, L71, L80, L97, L99, L100, L120, L122, L128, L161, L17, L600, L1000000, L1024, L1408, isB0, isB1, subdm, inT, inFl, inFh]
      · simp (disch := omega) only [h2, bd_some, gd_true, inR_nI, nI_clamp, nI_add, pk_mul, pk_sub, leT, leF, ltT, ltF, eqT, eqF, ite_true, ite_false, reduceIte, nz_nI, oc_s, oc_n, pk_div, pk_rem, m1F, L0, L1, L2, L3, L4, L5, L6, L7, L8, L9, L10, L11, L12, L19, L20, L24, L25, L27, L28, L30, L32, L37, L39, L40, L47, L48, L50, L55, L57, L60, L61, L63, L71, L80, L97, L99, L100, L120, L122, L128, L161, L17, L600, L1000000, L1024, L1408, isB0, isB1, subdm, inT, inFl, inFh]
      · simp (disch := omega) only [h2, bd_some, gd_true, inR_nI, nI_clamp, nI_add, pk_mul, pk_sub, leT, leF, ltT, ltF, eqT, eqF, ite_true, ite_false, reduceIte, nz_nI, oc_s, oc_n, pk_div, pk_rem, m1F, L0, L1, L2, L3, L4, L5, L6, L7, L8, L9, L10, L11, L12, L19, L20, L24, L25, L27, L28, L30, L32, L37, L39, L40, L47, L48, L50, L55, L57, L60, L61, L63, L71, L80, L97, L99, L100, L120, L122, L128, L161, L17, L600, L1000000, L1024, L1408, isB0, isB1, subdm, inT, inFl, inFh]
  · obtain ⟨r', e1, hd, m1, e2, e3⟩ := h3 _ (m0 _)
    rcases rng a3 60 with k | ⟨m, k, k2, rfl⟩ | ⟨m, k, k2, rfl⟩
    · refine ⟨g, -2, _, ?_, ?_, rfl, hI.1, hI.keep (XP.rf hI.1) (m0 _)⟩
      · unfold fX9_drawn; simp (disch := omega) only [h1, h2, neg0 k, bd_some, gd_true, inR_nI, nI_clamp, nI_add, pk_mul, pk_sub, leT, leF, ltT, ltF, eqT, eqF, ite_true, ite_false, reduceIte, nz_nI, oc_s, oc_n, pk_div, pk_rem, m1F, L0, L1, L2, L3, L4, L5, L6, L7, L8, L9, L10, L11, L12, L19, L20, L24, L25, L27, L28, L30, L32, L37, L39, L40, L47, L48, L50, L55, L57, L60, L61, L63, L71, L80, L97, L99, L100, L120, L122, L128, L161, L17, L600, L1000000, L1024, L1408, isB0, isB1, subdm, inT, inFl, inFh]
      · unfold fX10_drawn; simp (disch := omega) only [in_neg k, bd_some, gd_true, inR_nI, nI_clamp, nI_add, pk_mul, pk_sub, leT, leF, ltT, ltF, eqT, eqF, ite_true, ite_false, reduceIte, nz_nI, oc_s, oc_n, pk_div, pk_rem, m1F, L0, L1, L2, L3, L4, L5, L6, L7, L8, L9, L10, L11, L12, L19, L20, L24, L25, L27, L28, L30, L32, L37, L39, L40, L47, L48, L50, L55, L57, L60, L61, L63, L71, L80, L97, L99, L100, L120, L122, L128, L161, L17, L600, L1000000, L1024, L1408, isB0, isB1, subdm, inT, inFl, inFh]
    · refine ⟨g, -2, _, ?_, ?_, rfl, hI.1, hI.keep (XP.rf hI.1) (m0 _)⟩
      · unfold fX9_drawn; simp (disch := omega) only [h1, h2, bd_some, gd_true, inR_nI, nI_clamp, nI_add, pk_mul, pk_sub, leT, leF, ltT, ltF, eqT, eqF, ite_true, ite_false, reduceIte, nz_nI, oc_s, oc_n, pk_div, pk_rem, m1F, L0, L1, L2, L3, L4, L5, L6, L7, L8, L9, L10, L11, L12, L19, L20, L24, L25, L27, L28, L30, L32, L37, L39, L40, L47, L48, L50, L55, L57, L60, L61, L63, L71, L80, L97, L99, L100, L120, L122, L128, L161, L17, L600, L1000000, L1024, L1408, isB0, isB1, subdm, inT, inFl, inFh]
      · unfold fX10_drawn; simp (disch := omega) only [bd_some, gd_true, inR_nI, nI_clamp, nI_add, pk_mul, pk_sub, leT, leF, ltT, ltF, eqT, eqF, ite_true, ite_false, reduceIte, nz_nI, oc_s, oc_n, pk_div, pk_rem, m1F, L0, L1, L2, L3, L4, L5, L6, L7, L8, L9, L10, L11, L12, L19, L20, L24, L25, L27, L28, L30, L32, L37, L39, L40, L47, L48, L50, L55, L57, L60, L61, L63, L71, L80, L97, L99, L100, L120, L122, L128, L161, L17, L600, L1000000, L1024, L1408, isB0, isB1, subdm, inT, inFl, inFh]
    · obtain ⟨R, b1, b2, b3⟩ := begX hn hx
      obtain ⟨r1, f1, f2, f3⟩ := begM (hd.si (k := 45) (x := a2) (by decide) (by decide) (by decide))
      have hdr : Dr (ug g 1 (si R 8 a2)) r1 n v := ⟨begC v, ⟨by
        have := b2.acc (R := si R 8 a2) (by rw [ug_same]; rfl) (by rw [ug_same]; rfl) (by rw [ug_same]; rfl) (by rw [ug_same]; rfl) (by rw [ug_same]; rfl) (by rw [ug_same]; rfl) (by rw [ug_same]; rfl)
        rw [ug_ug] at this
        exact this, f2, begC_OK ok⟩, by
        rw [ug_same, f3.2 45 (by decide) (by decide) (by decide)]; rfl⟩
      obtain ⟨g2, r2, i1, i2, i3, i4, i5⟩ := drawn_loop (N := m) ok k a4 m 0 _ r1 (by omega) hdr
      obtain ⟨c, hco, hs⟩ := i3
      have hh := hco.1.hm1
      have f5 : ∀ o, o ≠ 1 → g2 o = g o := fun o ho => by rw [i4 o ho, ug_ne ho]
      obtain ⟨y, t1, t2⟩ := look_eq ok hco a4
      refine ⟨g2, y, r2, ?_, ?_, by rw [f5 901 (by decide)], hh, hI.keep (XP.one f5 hh) (((m0 _).tr m1).tr (((MP.si _ _ _).tr f3.MP).tr i5))⟩
      · unfold fX9_drawn fX0_draw
        simp (disch := omega) only [h1, h2, b1, i1, t1, bd_some, gd_true, inR_nI, nI_clamp, nI_add, pk_mul, pk_sub, leT, leF, ltT, ltF, eqT, eqF, ite_true, ite_false, reduceIte, nz_nI, oc_s, oc_n, pk_div, pk_rem, m1F, L0, L1, L2, L3, L4, L5, L6, L7, L8, L9, L10, L11, L12, L19, L20, L24, L25, L27, L28, L30, L32, L37, L39, L40, L47, L48, L50, L55, L57, L60, L61, L63, L71, L80, L97, L99, L100, L120, L122, L128, L161, L17, L600, L1000000, L1024, L1408, isB0, isB1, subdm, inT, inFl, inFh, ug_same, ug_ug, ug_ne, ga_sae, ga_san, gi_sie, gi_sin, ga_si, gi_sa, gr_si, gr_sa, ga_sr, gi_sr, gr_sre]
      · rw [f5 1001 (by decide)]
        unfold fX10_drawn
        simp (disch := omega) only [e1, f1, i2, bX10_drawn_54, t2, bd_some, gd_true, inR_nI, nI_clamp, nI_add, pk_mul, pk_sub, leT, leF, ltT, ltF, eqT, eqF, ite_true, ite_false, reduceIte, nz_nI, oc_s, oc_n, pk_div, pk_rem, m1F, L0, L1, L2, L3, L4, L5, L6, L7, L8, L9, L10, L11, L12, L19, L20, L24, L25, L27, L28, L30, L32, L37, L39, L40, L47, L48, L50, L55, L57, L60, L61, L63, L71, L80, L97, L99, L100, L120, L122, L128, L161, L17, L600, L1000000, L1024, L1408, isB0, isB1, subdm, inT, inFl, inFh]
