/-! depth -/
theorem rdX_in {h : Rec} {v : Hv} (ok : HvOK v) (hx : HX h v) {t : Nat} (ht : t < 2 ^ hS v) (x2 : Int32) (k : Nat) : iter (fun st : Int32 × Int32 => bX2_roundsTo_29 h x2 (nI t) (nI k) st.1 st.2) (nI t, nI 0) = some (.inl (nI (rnd v 8 t), nI (k + 1))) := by
  have hL8 := ok.2.2.1
  have hpS := pS ok
  refine loopO (step := fun st : Int32 × Int32 => bX2_roundsTo_29 h x2 (nI t) (nI k) st.1 st.2) (fun i => (nI (rndN v 8 t i), nI i)) (hL v) (fun i hi => ?_) ?_
  · show bX2_roundsTo_29 h x2 (nI t) (nI k) (nI (rndN v 8 t i)) (nI i) = some (.inl (nI (ln v 8 i t (rndN v 8 t i)), nI (i + 1)))
    have hb := rndN_lt ok (wo := 8) ht i (by omega)
    generalize rndN v 8 t i = u at hb ⊢
    have ha := a_lt ok hi
    unfold bX2_roundsTo_29 bX2_roundsTo_62
    by_cases c : t.testBit (hA1 v i) = true ∧ t.testBit (hA2 v i) = true
    · have e : ln v 8 i t u = u ||| 2 ^ hA3 v i := ln_pos ⟨by omega, c⟩
      simp (disch := omega) only [hx.L, makes_nI ok hx, if_pos c, hx.a3, L31, shl_T, or_nI, e, bd_some, gd_true, inR_nI, nI_clamp, nI_add, pk_mul, pk_sub, leT, leF, ltT, ltF, eqT, eqF, ite_true, ite_false, reduceIte, nz_nI, oc_s, oc_n, pk_div, pk_rem, m1F, L0, L1, L2, L3, L4, L5, L6, L7, L8, L9, L10, L11, L12, L19, L20, L24, L25, L27, L28, L30, L32, L37, L39, L40, L47, L48, L50, L55, L57, L60, L61, L63, L71, L80, L97, L99, L100, L120, L122, L128, L161, L17, L600, L1000000, L1024, L1408, isB0, isB1, subdm, inT, inFl, inFh]
    · have e : ln v 8 i t u = u := ln_neg (fun q => c q.2)
      simp (disch := omega) only [hx.L, makes_nI ok hx, if_neg c, e, bd_some, gd_true, inR_nI, nI_clamp, nI_add, pk_mul, pk_sub, leT, leF, ltT, ltF, eqT, eqF, ite_true, ite_false, reduceIte, nz_nI, oc_s, oc_n, pk_div, pk_rem, m1F, L0, L1, L2, L3, L4, L5, L6, L7, L8, L9, L10, L11, L12, L19, L20, L24, L25, L27, L28, L30, L32, L37, L39, L40, L47, L48, L50, L55, L57, L60, L61, L63, L71, L80, L97, L99, L100, L120, L122, L128, L161, L17, L600, L1000000, L1024, L1408, isB0, isB1, subdm, inT, inFl, inFh]
  · show bX2_roundsTo_29 h x2 (nI t) (nI k) (nI (rndN v 8 t (hL v))) (nI (hL v)) = _
    unfold bX2_roundsTo_29 bX2_roundsTo_68
    simp (disch := omega) only [hx.L, bd_some, gd_true, inR_nI, nI_clamp, nI_add, pk_mul, pk_sub, leT, leF, ltT, ltF, eqT, eqF, ite_true, ite_false, reduceIte, nz_nI, oc_s, oc_n, pk_div, pk_rem, m1F, L0, L1, L2, L3, L4, L5, L6, L7, L8, L9, L10, L11, L12, L19, L20, L24, L25, L27, L28, L30, L32, L37, L39, L40, L47, L48, L50, L55, L57, L60, L61, L63, L71, L80, L97, L99, L100, L120, L122, L128, L161, L17, L600, L1000000, L1024, L1408, isB0, isB1, subdm, inT, inFl, inFh]
    all_goals rfl
theorem depth_both {h r : Rec} {n : Nat} {v : Hv} (ok : HvOK v) (hx : HX h v) (hd : Hd r n v) {s : Nat} (hs : s < hS v) : ∀ m k t, k + m = 11 → t < 2 ^ hS v → ∃ y, iter (fun st : Int32 × Int32 => bX2_roundsTo_5 h (nI s) st.1 st.2) (nI t, nI k) = some y ∧ iter (fun st : Int32 × Int32 => bX10_depth_41 r (nI s) st.1 st.2) (nI t, nI k) = some (r, y) := by
  have hpS := pS ok
  have hS10 := ok.2.1
  intro m
  induction m with
  | zero =>
    intro k t hk ht
    refine ⟨-nI 1, iter_end ?_, iter_end ?_⟩
    · show bX2_roundsTo_5 h (nI s) (nI t) (nI k) = _
      unfold bX2_roundsTo_5
      simp (disch := omega) only [bd_some, gd_true, inR_nI, nI_clamp, nI_add, pk_mul, pk_sub, leT, leF, ltT, ltF, eqT, eqF, ite_true, ite_false, reduceIte, nz_nI, oc_s, oc_n, pk_div, pk_rem, m1F, L0, L1, L2, L3, L4, L5, L6, L7, L8, L9, L10, L11, L12, L19, L20, L24, L25, L27, L28, L30, L32, L37, L39, L40, L47, L48, L50, L55, L57, L60, L61, L63, L71, L80, L97, L99, L100, L120, L122, L128, L161, L17, L600, L1000000, L1024, L1408, isB0, isB1, subdm, inT, inFl, inFh]
    · show bX10_depth_41 r (nI s) (nI t) (nI k) = _
      unfold bX10_depth_41
      simp (disch := omega) only [bd_some, gd_true, inR_nI, nI_clamp, nI_add, pk_mul, pk_sub, leT, leF, ltT, ltF, eqT, eqF, ite_true, ite_false, reduceIte, nz_nI, oc_s, oc_n, pk_div, pk_rem, m1F, L0, L1, L2, L3, L4, L5, L6, L7, L8, L9, L10, L11, L12, L19, L20, L24, L25, L27, L28, L30, L32, L37, L39, L40, L47, L48, L50, L55, L57, L60, L61, L63, L71, L80, L97, L99, L100, L120, L122, L128, L161, L17, L600, L1000000, L1024, L1408, isB0, isB1, subdm, inT, inFl, inFh]
  | succ m ih =>
    intro k t hk ht
    cases c : t.testBit s
    · obtain ⟨y, e1, e2⟩ := ih (k + 1) (rnd v 8 t) (by omega) (rnd_lt ok ht)
      refine ⟨y, ?_, ?_⟩
      · rw [iter_step (s := (nI t, nI k)) (s' := (nI (rnd v 8 t), nI (k + 1))) (by
          show bX2_roundsTo_5 h (nI s) (nI t) (nI k) = _
          unfold bX2_roundsTo_5
          simp (disch := omega) only [hasBit_nI, c, Bool.false_eq_true, rdX_in ok hx ht, bd_some, gd_true, inR_nI, nI_clamp, nI_add, pk_mul, pk_sub, leT, leF, ltT, ltF, eqT, eqF, ite_true, ite_false, reduceIte, nz_nI, oc_s, oc_n, pk_div, pk_rem, m1F, L0, L1, L2, L3, L4, L5, L6, L7, L8, L9, L10, L11, L12, L19, L20, L24, L25, L27, L28, L30, L32, L37, L39, L40, L47, L48, L50, L55, L57, L60, L61, L63, L71, L80, L97, L99, L100, L120, L122, L128, L161, L17, L600, L1000000, L1024, L1408, isB0, isB1, subdm, inT, inFl, inFh])]
        exact e1
      · rw [iter_step (s := (nI t, nI k)) (s' := (nI (rnd v 8 t), nI (k + 1))) (by
          show bX10_depth_41 r (nI s) (nI t) (nI k) = _
          unfold bX10_depth_41
          simp (disch := omega) only [has_nI, c, Bool.false_eq_true, round_nI ok hd Lo.none ht, bd_some, gd_true, inR_nI, nI_clamp, nI_add, pk_mul, pk_sub, leT, leF, ltT, ltF, eqT, eqF, ite_true, ite_false, reduceIte, nz_nI, oc_s, oc_n, pk_div, pk_rem, m1F, L0, L1, L2, L3, L4, L5, L6, L7, L8, L9, L10, L11, L12, L19, L20, L24, L25, L27, L28, L30, L32, L37, L39, L40, L47, L48, L50, L55, L57, L60, L61, L63, L71, L80, L97, L99, L100, L120, L122, L128, L161, L17, L600, L1000000, L1024, L1408, isB0, isB1, subdm, inT, inFl, inFh])]
        exact e2
    · refine ⟨nI k, iter_end ?_, iter_end ?_⟩
      · show bX2_roundsTo_5 h (nI s) (nI t) (nI k) = _
        unfold bX2_roundsTo_5
        simp (disch := omega) only [hasBit_nI, c, bd_some, gd_true, inR_nI, nI_clamp, nI_add, pk_mul, pk_sub, leT, leF, ltT, ltF, eqT, eqF, ite_true, ite_false, reduceIte, nz_nI, oc_s, oc_n, pk_div, pk_rem, m1F, L0, L1, L2, L3, L4, L5, L6, L7, L8, L9, L10, L11, L12, L19, L20, L24, L25, L27, L28, L30, L32, L37, L39, L40, L47, L48, L50, L55, L57, L60, L61, L63, L71, L80, L97, L99, L100, L120, L122, L128, L161, L17, L600, L1000000, L1024, L1408, isB0, isB1, subdm, inT, inFl, inFh]
      · show bX10_depth_41 r (nI s) (nI t) (nI k) = _
        unfold bX10_depth_41
        simp (disch := omega) only [has_nI, c, bd_some, gd_true, inR_nI, nI_clamp, nI_add, pk_mul, pk_sub, leT, leF, ltT, ltF, eqT, eqF, ite_true, ite_false, reduceIte, nz_nI, oc_s, oc_n, pk_div, pk_rem, m1F, L0, L1, L2, L3, L4, L5, L6, L7, L8, L9, L10, L11, L12, L19, L20, L24, L25, L27, L28, L30, L32, L37, L39, L40, L47, L48, L50, L55, L57, L60, L61, L63, L71, L80, L97, L99, L100, L120, L122, L128, L161, L17, L600, L1000000, L1024, L1408, isB0, isB1, subdm, inT, inFl, inFh]
theorem ob_depth : Ob_depth Inv := by
  intro g a1 a2 a3 hI
  rcases house_cases hI a1 with ⟨h1, h2⟩ | ⟨n, v, hn, rfl, ok, hx, h1, h2, h3⟩
  · have h2 := h2 _ (m0 _)
    refine ⟨-1, _, ?_, ?_, hI.keep (XP.rf hI.1) (m0 _)⟩
    · unfold fX9_depth; simp (disch := omega) only [h1, bd_some, gd_true, inR_nI, nI_clamp, nI_add, pk_mul, pk_sub, leT, leF, ltT, ltF, eqT, eqF, ite_true, ite_false, reduceIte, nz_nI, oc_s, oc_n, pk_div, pk_rem, m1F, L0, L1, L2, L3, L4, L5, L6, L7, L8, L9, L10, L11, L12, L19, L20, L24, L25, L27, L28, L30, L32, L37, L39, L40, L47, L48, L50, L55, L57, L60, L61, L63, L71, L80, L97, L99, L100, L120, L122, L128, L161, L17, L600, L1000000, L1024, L1408, isB0, isB1, subdm, inT, inFl, inFh]
    · unfold fX10_depth; simp (disch := omega) only [h2, bd_some, gd_true, inR_nI, nI_clamp, nI_add, pk_mul, pk_sub, leT, leF, ltT, ltF, eqT, eqF, ite_true, ite_false, reduceIte, nz_nI, oc_s, oc_n, pk_div, pk_rem, m1F, L0, L1, L2, L3, L4, L5, L6, L7, L8, L9, L10, L11, L12, L19, L20, L24, L25, L27, L28, L30, L32, L37, L39, L40, L47, L48, L50, L55, L57, L60, L61, L63, L71, L80, L97, L99, L100, L120, L122, L128, L161, L17, L600, L1000000, L1024, L1408, isB0, isB1, subdm, inT, inFl, inFh]
  · obtain ⟨r', e1, hd, m1⟩ := h3 _ (m0 _)
    have hS10 := ok.2.1
    rcases set_cases ok hx hd a2 with ⟨k1, k2⟩ | ⟨t, ht, rfl, k1, k2⟩
    · refine ⟨-1, r', ?_, ?_, hI.keep (XP.rf hI.1) ((m0 _).tr m1)⟩
      · unfold fX9_depth; simp (disch := omega) only [h1, h2, k1, bd_some, gd_true, inR_nI, nI_clamp, nI_add, pk_mul, pk_sub, leT, leF, ltT, ltF, eqT, eqF, ite_true, ite_false, reduceIte, nz_nI, oc_s, oc_n, pk_div, pk_rem, m1F, L0, L1, L2, L3, L4, L5, L6, L7, L8, L9, L10, L11, L12, L19, L20, L24, L25, L27, L28, L30, L32, L37, L39, L40, L47, L48, L50, L55, L57, L60, L61, L63, L71, L80, L97, L99, L100, L120, L122, L128, L161, L17, L600, L1000000, L1024, L1408, isB0, isB1, subdm, inT, inFl, inFh]
      · unfold fX10_depth; simp (disch := omega) only [e1, everything_nI ok hd, k2, bd_some, gd_true, inR_nI, nI_clamp, nI_add, pk_mul, pk_sub, leT, leF, ltT, ltF, eqT, eqF, ite_true, ite_false, reduceIte, nz_nI, oc_s, oc_n, pk_div, pk_rem, m1F, L0, L1, L2, L3, L4, L5, L6, L7, L8, L9, L10, L11, L12, L19, L20, L24, L25, L27, L28, L30, L32, L37, L39, L40, L47, L48, L50, L55, L57, L60, L61, L63, L71, L80, L97, L99, L100, L120, L122, L128, L161, L17, L600, L1000000, L1024, L1408, isB0, isB1, subdm, inT, inFl, inFh]
    · rcases secret_cases hx.S hd.S hS10 a3 with ⟨s1, s2⟩ | ⟨s, hs, rfl, s1, s2⟩
      · refine ⟨-1, r', ?_, ?_, hI.keep (XP.rf hI.1) ((m0 _).tr m1)⟩
        · unfold fX9_depth; simp (disch := omega) only [h1, h2, k1, s1, bd_some, gd_true, inR_nI, nI_clamp, nI_add, pk_mul, pk_sub, leT, leF, ltT, ltF, eqT, eqF, ite_true, ite_false, reduceIte, nz_nI, oc_s, oc_n, pk_div, pk_rem, m1F, L0, L1, L2, L3, L4, L5, L6, L7, L8, L9, L10, L11, L12, L19, L20, L24, L25, L27, L28, L30, L32, L37, L39, L40, L47, L48, L50, L55, L57, L60, L61, L63, L71, L80, L97, L99, L100, L120, L122, L128, L161, L17, L600, L1000000, L1024, L1408, isB0, isB1, subdm, inT, inFl, inFh]
        · unfold fX10_depth; simp (disch := omega) only [e1, everything_nI ok hd, k2, s2, bd_some, gd_true, inR_nI, nI_clamp, nI_add, pk_mul, pk_sub, leT, leF, ltT, ltF, eqT, eqF, ite_true, ite_false, reduceIte, nz_nI, oc_s, oc_n, pk_div, pk_rem, m1F, L0, L1, L2, L3, L4, L5, L6, L7, L8, L9, L10, L11, L12, L19, L20, L24, L25, L27, L28, L30, L32, L37, L39, L40, L47, L48, L50, L55, L57, L60, L61, L63, L71, L80, L97, L99, L100, L120, L122, L128, L161, L17, L600, L1000000, L1024, L1408, isB0, isB1, subdm, inT, inFl, inFh]
      · obtain ⟨y, f1, f2⟩ := depth_both ok hx hd hs 11 0 t rfl ht
        refine ⟨y, r', ?_, ?_, hI.keep (XP.rf hI.1) ((m0 _).tr m1)⟩
        · unfold fX9_depth fX2_roundsTo; simp (disch := omega) only [h1, h2, k1, s1, f1, bd_some, gd_true, inR_nI, nI_clamp, nI_add, pk_mul, pk_sub, leT, leF, ltT, ltF, eqT, eqF, ite_true, ite_false, reduceIte, nz_nI, oc_s, oc_n, pk_div, pk_rem, m1F, L0, L1, L2, L3, L4, L5, L6, L7, L8, L9, L10, L11, L12, L19, L20, L24, L25, L27, L28, L30, L32, L37, L39, L40, L47, L48, L50, L55, L57, L60, L61, L63, L71, L80, L97, L99, L100, L120, L122, L128, L161, L17, L600, L1000000, L1024, L1408, isB0, isB1, subdm, inT, inFl, inFh]
        · unfold fX10_depth; simp (disch := omega) only [e1, everything_nI ok hd, k2, s2, f2, bd_some, gd_true, inR_nI, nI_clamp, nI_add, pk_mul, pk_sub, leT, leF, ltT, ltF, eqT, eqF, ite_true, ite_false, reduceIte, nz_nI, oc_s, oc_n, pk_div, pk_rem, m1F, L0, L1, L2, L3, L4, L5, L6, L7, L8, L9, L10, L11, L12, L19, L20, L24, L25, L27, L28, L30, L32, L37, L39, L40, L47, L48, L50, L55, L57, L60, L61, L63, L71, L80, L97, L99, L100, L120, L122, L128, L161, L17, L600, L1000000, L1024, L1408, isB0, isB1, subdm, inT, inFl, inFh]
/-! spare -/
noncomputable def spN (v : Hv) (n : Nat) : Nat := fo (fun l u => if (clo v l (2 ^ hA1 v l ||| 2 ^ hA2 v l)).testBit (hA3 v l) then u ||| 2 ^ l else u) 0 n
theorem two_lt {v : Hv} (ok : HvOK v) {l : Nat} (hl : l < hL v) : 2 ^ hA1 v l ||| 2 ^ hA2 v l < 2 ^ hS v := by
  have h := ok.2.2.2.2.2.2.2 l hl
  exact Nat.or_lt_two_pow (Nat.pow_lt_pow_right (by decide) h.1) (Nat.pow_lt_pow_right (by decide) h.2.1)
theorem spareX {h : Rec} {v : Hv} (ok : HvOK v) (hx : HX h v) : fX2_spareLinks h = some (nI (spN v (hL v))) := by
  have hL8 := ok.2.2.1
  have hpS := pS ok
  unfold fX2_spareLinks
  refine loopO (step := fun st : Int32 × Int32 => bX2_spareLinks_4 h st.1 st.2) (fun i => (nI (spN v i), nI i)) (hL v) (fun i hi => ?_) ?_
  · show bX2_spareLinks_4 h (nI (spN v i)) (nI i) = some (.inl (nI (if (clo v i (2 ^ hA1 v i ||| 2 ^ hA2 v i)).testBit (hA3 v i) then spN v i ||| 2 ^ i else spN v i), nI (i + 1)))
    have ha := a_lt ok hi
    have hb := clo_lt ok (wo := i) (two_lt ok hi)
    generalize spN v i = u
    unfold bX2_spareLinks_4 bX2_spareLinks_54
    cases c : (clo v i (2 ^ hA1 v i ||| 2 ^ hA2 v i)).testBit (hA3 v i)
    · simp (disch := omega) only [hx.L, hx.a1, hx.a2, hx.a3, L31, shl_T, or_nI, closure_nI ok hx (Lo.some (l := i) (by omega)) (two_lt ok hi), hasBit_nI, c, Bool.false_eq_true, bd_some, gd_true, inR_nI, nI_clamp, nI_add, pk_mul, pk_sub, leT, leF, ltT, ltF, eqT, eqF, ite_true, ite_false, reduceIte, nz_nI, oc_s, oc_n, pk_div, pk_rem, m1F, L0, L1, L2, L3, L4, L5, L6, L7, L8, L9, L10, L11, L12, L19, L20, L24, L25, L27, L28, L30, L32, L37, L39, L40, L47, L48, L50, L55, L57, L60, L61, L63, L71, L80, L97, L99, L100, L120, L122, L128, L161, L17, L600, L1000000, L1024, L1408, isB0, isB1, subdm, inT, inFl, inFh]
    · simp (disch := omega) only [hx.L, hx.a1, hx.a2, hx.a3, L31, shl_T, or_nI, closure_nI ok hx (Lo.some (l := i) (by omega)) (two_lt ok hi), hasBit_nI, c, bd_some, gd_true, inR_nI, nI_clamp, nI_add, pk_mul, pk_sub, leT, leF, ltT, ltF, eqT, eqF, ite_true, ite_false, reduceIte, nz_nI, oc_s, oc_n, pk_div, pk_rem, m1F, L0, L1, L2, L3, L4, L5, L6, L7, L8, L9, L10, L11, L12, L19, L20, L24, L25, L27, L28, L30, L32, L37, L39, L40, L47, L48, L50, L55, L57, L60, L61, L63, L71, L80, L97, L99, L100, L120, L122, L128, L161, L17, L600, L1000000, L1024, L1408, isB0, isB1, subdm, inT, inFl, inFh]
  · show bX2_spareLinks_4 h _ (nI (hL v)) = _
    unfold bX2_spareLinks_4
    simp (disch := omega) only [hx.L, bd_some, gd_true, inR_nI, nI_clamp, nI_add, pk_mul, pk_sub, leT, leF, ltT, ltF, eqT, eqF, ite_true, ite_false, reduceIte, nz_nI, oc_s, oc_n, pk_div, pk_rem, m1F, L0, L1, L2, L3, L4, L5, L6, L7, L8, L9, L10, L11, L12, L19, L20, L24, L25, L27, L28, L30, L32, L37, L39, L40, L47, L48, L50, L55, L57, L60, L61, L63, L71, L80, L97, L99, L100, L120, L122, L128, L161, L17, L600, L1000000, L1024, L1408, isB0, isB1, subdm, inT, inFl, inFh]
    all_goals rfl
theorem spareM {r : Rec} {n : Nat} {v : Hv} (ok : HvOK v) (hd : Hd r n v) : iter (fun st : Int32 × Int32 => bX10_spare_19 r st.1 st.2) (nI 0, nI 0) = some (r, nI (spN v (hL v))) := by
  have hL8 := ok.2.2.1
  have hpS := pS ok
  refine loopO (step := fun st : Int32 × Int32 => bX10_spare_19 r st.1 st.2) (fun i => (nI (spN v i), nI i)) (hL v) (fun i hi => ?_) ?_
  · show bX10_spare_19 r (nI (spN v i)) (nI i) = some (.inl (nI (if (clo v i (2 ^ hA1 v i ||| 2 ^ hA2 v i)).testBit (hA3 v i) then spN v i ||| 2 ^ i else spN v i), nI (i + 1)))
    have ha := a_lt ok hi
    have hb := clo_lt ok (wo := i) (two_lt ok hi)
    generalize spN v i = u
    unfold bX10_spare_19 bX10_spare_74
    cases c : (clo v i (2 ^ hA1 v i ||| 2 ^ hA2 v i)).testBit (hA3 v i)
    · simp (disch := omega) only [hd.lk, link0_nI ok hd, link1_nI ok hd, link2_nI ok hd, L31, shl_T, or_nI, comesOf_nI ok hd (Lo.some (l := i) (by omega)) (two_lt ok hi), has_nI, c, Bool.false_eq_true, Nat.or_zero, bd_some, gd_true, inR_nI, nI_clamp, nI_add, pk_mul, pk_sub, leT, leF, ltT, ltF, eqT, eqF, ite_true, ite_false, reduceIte, nz_nI, oc_s, oc_n, pk_div, pk_rem, m1F, L0, L1, L2, L3, L4, L5, L6, L7, L8, L9, L10, L11, L12, L19, L20, L24, L25, L27, L28, L30, L32, L37, L39, L40, L47, L48, L50, L55, L57, L60, L61, L63, L71, L80, L97, L99, L100, L120, L122, L128, L161, L17, L600, L1000000, L1024, L1408, isB0, isB1, subdm, inT, inFl, inFh]
    · simp (disch := omega) only [hd.lk, link0_nI ok hd, link1_nI ok hd, link2_nI ok hd, L31, shl_T, or_nI, comesOf_nI ok hd (Lo.some (l := i) (by omega)) (two_lt ok hi), has_nI, c, bd_some, gd_true, inR_nI, nI_clamp, nI_add, pk_mul, pk_sub, leT, leF, ltT, ltF, eqT, eqF, ite_true, ite_false, reduceIte, nz_nI, oc_s, oc_n, pk_div, pk_rem, m1F, L0, L1, L2, L3, L4, L5, L6, L7, L8, L9, L10, L11, L12, L19, L20, L24, L25, L27, L28, L30, L32, L37, L39, L40, L47, L48, L50, L55, L57, L60, L61, L63, L71, L80, L97, L99, L100, L120, L122, L128, L161, L17, L600, L1000000, L1024, L1408, isB0, isB1, subdm, inT, inFl, inFh]
  · show bX10_spare_19 r _ (nI (hL v)) = _
    unfold bX10_spare_19
    simp (disch := omega) only [hd.lk, bd_some, gd_true, inR_nI, nI_clamp, nI_add, pk_mul, pk_sub, leT, leF, ltT, ltF, eqT, eqF, ite_true, ite_false, reduceIte, nz_nI, oc_s, oc_n, pk_div, pk_rem, m1F, L0, L1, L2, L3, L4, L5, L6, L7, L8, L9, L10, L11, L12, L19, L20, L24, L25, L27, L28, L30, L32, L37, L39, L40, L47, L48, L50, L55, L57, L60, L61, L63, L71, L80, L97, L99, L100, L120, L122, L128, L161, L17, L600, L1000000, L1024, L1408, isB0, isB1, subdm, inT, inFl, inFh]
    all_goals rfl
theorem ob_spare : Ob_spare Inv := by
  intro g a1 hI
  rcases house_cases hI a1 with ⟨h1, h2⟩ | ⟨n, v, hn, rfl, ok, hx, h1, h2, h3⟩
  · have h2 := h2 _ (m0 _)
    refine ⟨-1, _, ?_, ?_, hI.keep (XP.rf hI.1) (m0 _)⟩
    · unfold fX9_spare; simp (disch := omega) only [h1, bd_some, gd_true, inR_nI, nI_clamp, nI_add, pk_mul, pk_sub, leT, leF, ltT, ltF, eqT, eqF, ite_true, ite_false, reduceIte, nz_nI, oc_s, oc_n, pk_div, pk_rem, m1F, L0, L1, L2, L3, L4, L5, L6, L7, L8, L9, L10, L11, L12, L19, L20, L24, L25, L27, L28, L30, L32, L37, L39, L40, L47, L48, L50, L55, L57, L60, L61, L63, L71, L80, L97, L99, L100, L120, L122, L128, L161, L17, L600, L1000000, L1024, L1408, isB0, isB1, subdm, inT, inFl, inFh]
    · unfold fX10_spare; simp (disch := omega) only [h2, bd_some, gd_true, inR_nI, nI_clamp, nI_add, pk_mul, pk_sub, leT, leF, ltT, ltF, eqT, eqF, ite_true, ite_false, reduceIte, nz_nI, oc_s, oc_n, pk_div, pk_rem, m1F, L0, L1, L2, L3, L4, L5, L6, L7, L8, L9, L10, L11, L12, L19, L20, L24, L25, L27, L28, L30, L32, L37, L39, L40, L47, L48, L50, L55, L57, L60, L61, L63, L71, L80, L97, L99, L100, L120, L122, L128, L161, L17, L600, L1000000, L1024, L1408, isB0, isB1, subdm, inT, inFl, inFh]
  · obtain ⟨r', e1, hd, m1⟩ := h3 _ (m0 _)
    refine ⟨nI (spN v (hL v)), r', ?_, ?_, hI.keep (XP.rf hI.1) ((m0 _).tr m1)⟩
    · unfold fX9_spare; simp (disch := omega) only [h1, h2, spareX ok hx, bd_some, gd_true, inR_nI, nI_clamp, nI_add, pk_mul, pk_sub, leT, leF, ltT, ltF, eqT, eqF, ite_true, ite_false, reduceIte, nz_nI, oc_s, oc_n, pk_div, pk_rem, m1F, L0, L1, L2, L3, L4, L5, L6, L7, L8, L9, L10, L11, L12, L19, L20, L24, L25, L27, L28, L30, L32, L37, L39, L40, L47, L48, L50, L55, L57, L60, L61, L63, L71, L80, L97, L99, L100, L120, L122, L128, L161, L17, L600, L1000000, L1024, L1408, isB0, isB1, subdm, inT, inFl, inFh]
    · unfold fX10_spare; simp (disch := omega) only [e1, spareM ok hd, bd_some, gd_true, inR_nI, nI_clamp, nI_add, pk_mul, pk_sub, leT, leF, ltT, ltF, eqT, eqF, ite_true, ite_false, reduceIte, nz_nI, oc_s, oc_n, pk_div, pk_rem, m1F, L0, L1, L2, L3, L4, L5, L6, L7, L8, L9, L10, L11, L12, L19, L20, L24, L25, L27, L28, L30, L32, L37, L39, L40, L47, L48, L50, L55, L57, L60, L61, L63, L71, L80, L97, L99, L100, L120, L122, L128, L161, L17, L600, L1000000, L1024, L1408, isB0, isB1, subdm, inT, inFl, inFh]
/-! one set without another -/
def andn (a b : Nat) : Nat := a &&& (a ^^^ b)
theorem andn_nI (a b : Nat) : nI a &&& (nI b ^^^ (-nI 1)) = nI (andn a b) := by
  apply Int32.toBitVec_inj.mp
  apply BitVec.eq_of_getLsbD_eq
  intro i hi
  show ((BitVec.ofNat 32 a) &&& ((BitVec.ofNat 32 b) ^^^ (-nI 1 : Int32).toBitVec)).getLsbD i = (BitVec.ofNat 32 (andn a b)).getLsbD i
  have e : (-nI 1 : Int32).toBitVec = BitVec.allOnes 32 := by decide
  rw [e]
  unfold andn
  simp only [BitVec.getLsbD_and, BitVec.getLsbD_xor, BitVec.getLsbD_allOnes, BitVec.getLsbD_ofNat, Nat.testBit_and, Nat.testBit_xor, hi, decide_true, Bool.true_and]
  cases a.testBit i <;> cases b.testBit i <;> rfl
theorem andn_bit (a b k : Nat) : (andn a b).testBit k = (a.testBit k && !b.testBit k) := by
  unfold andn
  rw [Nat.testBit_and, Nat.testBit_xor]
  cases a.testBit k <;> cases b.testBit k <;> rfl
theorem andn_lt {a b S : Nat} (h : a < 2 ^ S) : andn a b < 2 ^ S := Nat.lt_of_le_of_lt Nat.and_le_left h
theorem all_lt {v : Hv} : 2 ^ hS v - 1 < 2 ^ hS v := by have := p1 (hS v); omega
/-! keep -/
def eO : Option Nat → Int32
  | none => -nI 1
  | some b => nI b
def fw : Option Nat → Nat
  | none => 11
  | some b => pc b
/-- whether a set will do -/
noncomputable def kpC (v : Hv) (s : Nat) (f : Bool) (k : Nat) : Bool := if f then !k.testBit s && (clo v 8 k).testBit s else k.testBit s && !(clo v 8 (andn (2 ^ hS v - 1) k)).testBit s
noncomputable def kpN (v : Hv) (s : Nat) (f : Bool) (n : Nat) : Option Nat := fo (fun k c => if pc k < fw c ∧ kpC v s f k = true then some k else c) none n
theorem fw_le (c : Option Nat) : fw c ≤ 11 := by
  cases c with
  | none => exact Nat.le_refl _
  | some b => have := pc_le b; show pc b ≤ 11; omega
theorem kpN_lt {v : Hv} {s : Nat} {f : Bool} : ∀ n b, kpN v s f n = some b → b < n
  | 0, b, h => by cases h
  | n + 1, b, h => by
    have h : (if pc n < fw (kpN v s f n) ∧ kpC v s f n = true then some n else kpN v s f n) = some b := h
    by_cases c : pc n < fw (kpN v s f n) ∧ kpC v s f n = true
    · rw [if_pos c] at h
      have := Option.some.inj h
      omega
    · rw [if_neg c] at h
      have := kpN_lt n b h
      omega
