theorem shl_T {s : Nat} (h : s < 31) : nI 1 <<< (nI s &&& nI 31) = nI (2 ^ s) := shl_nI s h
theorem L31 : (31 : Int32) = nI 31 := rfl
theorem secretSets_nI {h : Rec} {v : Hv} (ok : HvOK v) (hx : HX h v) : fX2_secretSets h = some (nI (2 ^ hS v)) := by
  have := ok.2.1
  unfold fX2_secretSets
  simp (disch := omega) only [hx.S, L31, shl_T, bd_some, gd_true, inR_nI, nI_clamp, nI_add, pk_mul, pk_sub, leT, leF, ltT, ltF, eqT, eqF, ite_true, ite_false, reduceIte, nz_nI, oc_s, oc_n, pk_div, pk_rem, m1F, L0, L1, L2, L3, L4, L5, L6, L7, L8, L9, L10, L11, L12, L19, L20, L24, L25, L27, L28, L30, L32, L37, L39, L40, L47, L48, L50, L55, L57, L60, L61, L63, L71, L80, L97, L99, L100, L120, L122, L128, L161, L17, L600, L1000000, L1024, L1408, isB0, isB1, subdm, inT, inFl, inFh]
theorem allSecrets_nI {h : Rec} {v : Hv} (ok : HvOK v) (hx : HX h v) : fX2_allSecrets h = some (nI (2 ^ hS v - 1)) := by
  have := p1 (hS v)
  unfold fX2_allSecrets
  simp (disch := omega) only [secretSets_nI ok hx, bd_some, gd_true, inR_nI, nI_clamp, nI_add, pk_mul, pk_sub, leT, leF, ltT, ltF, eqT, eqF, ite_true, ite_false, reduceIte, nz_nI, oc_s, oc_n, pk_div, pk_rem, m1F, L0, L1, L2, L3, L4, L5, L6, L7, L8, L9, L10, L11, L12, L19, L20, L24, L25, L27, L28, L30, L32, L37, L39, L40, L47, L48, L50, L55, L57, L60, L61, L63, L71, L80, L97, L99, L100, L120, L122, L128, L161, L17, L600, L1000000, L1024, L1408, isB0, isB1, subdm, inT, inFl, inFh]
theorem allPieces_nI {h : Rec} {v : Hv} (ok : HvOK v) (hx : HX h v) : fX2_allPieces h = some (nI (2 ^ hP v - 1)) := by
  have := p1 (hP v)
  have := ok.1
  unfold fX2_allPieces
  simp (disch := omega) only [hx.P, L31, shl_T, bd_some, gd_true, inR_nI, nI_clamp, nI_add, pk_mul, pk_sub, leT, leF, ltT, ltF, eqT, eqF, ite_true, ite_false, reduceIte, nz_nI, oc_s, oc_n, pk_div, pk_rem, m1F, L0, L1, L2, L3, L4, L5, L6, L7, L8, L9, L10, L11, L12, L19, L20, L24, L25, L27, L28, L30, L32, L37, L39, L40, L47, L48, L50, L55, L57, L60, L61, L63, L71, L80, L97, L99, L100, L120, L122, L128, L161, L17, L600, L1000000, L1024, L1408, isB0, isB1, subdm, inT, inFl, inFh]
theorem everything_nI {r : Rec} {n : Nat} {v : Hv} (ok : HvOK v) (hd : Hd r n v) : fX10_everything r = some (nI (2 ^ hS v - 1)) := by
  have := p1 (hS v)
  have := ok.2.1
  unfold fX10_everything
  simp (disch := omega) only [hd.S, L31, shl_T, bd_some, gd_true, inR_nI, nI_clamp, nI_add, pk_mul, pk_sub, leT, leF, ltT, ltF, eqT, eqF, ite_true, ite_false, reduceIte, nz_nI, oc_s, oc_n, pk_div, pk_rem, m1F, L0, L1, L2, L3, L4, L5, L6, L7, L8, L9, L10, L11, L12, L19, L20, L24, L25, L27, L28, L30, L32, L37, L39, L40, L47, L48, L50, L55, L57, L60, L61, L63, L71, L80, L97, L99, L100, L120, L122, L128, L161, L17, L600, L1000000, L1024, L1408, isB0, isB1, subdm, inT, inFl, inFh]
theorem a_lt {v : Hv} (ok : HvOK v) {l : Nat} (hl : l < hL v) : hA1 v l < 10 ∧ hA2 v l < 10 ∧ hA3 v l < 10 := by
  have h1 := ok.2.2.2.2.2.2.2 l hl
  have h2 := ok.2.1
  omega
theorem makes_nI {h : Rec} {v : Hv} (ok : HvOK v) (hx : HX h v) {l t : Nat} (hl : l < hL v) (ht : t < 2 ^ 31) : fX2_makes h (nI l) (nI t) = some (if t.testBit (hA1 v l) = true ∧ t.testBit (hA2 v l) = true then nI 1 else nI 0) := by
  have hL8 := ok.2.2.1
  have ha := a_lt ok hl
  unfold fX2_makes
  cases c1 : t.testBit (hA1 v l)
  · simp (disch := omega) only [hx.a1, hasBit_nI, c1, Bool.false_eq_true, false_and, bd_some, gd_true, inR_nI, nI_clamp, nI_add, pk_mul, pk_sub, leT, leF, ltT, ltF, eqT, eqF, ite_true, ite_false, reduceIte, nz_nI, oc_s, oc_n, pk_div, pk_rem, m1F, L0, L1, L2, L3, L4, L5, L6, L7, L8, L9, L10, L11, L12, L19, L20, L24, L25, L27, L28, L30, L32, L37, L39, L40, L47, L48, L50, L55, L57, L60, L61, L63, L71, L80, L97, L99, L100, L120, L122, L128, L161, L17, L600, L1000000, L1024, L1408, isB0, isB1, subdm, inT, inFl, inFh]
  · cases c2 : t.testBit (hA2 v l)
    · simp (disch := omega) only [hx.a1, hx.a2, hasBit_nI, c1, c2, Bool.false_eq_true, and_false, bd_some, gd_true, inR_nI, nI_clamp, nI_add, pk_mul, pk_sub, leT, leF, ltT, ltF, eqT, eqF, ite_true, ite_false, reduceIte, nz_nI, oc_s, oc_n, pk_div, pk_rem, m1F, L0, L1, L2, L3, L4, L5, L6, L7, L8, L9, L10, L11, L12, L19, L20, L24, L25, L27, L28, L30, L32, L37, L39, L40, L47, L48, L50, L55, L57, L60, L61, L63, L71, L80, L97, L99, L100, L120, L122, L128, L161, L17, L600, L1000000, L1024, L1408, isB0, isB1, subdm, inT, inFl, inFh]
    · simp (disch := omega) only [hx.a1, hx.a2, hasBit_nI, c1, c2, and_self, bd_some, gd_true, inR_nI, nI_clamp, nI_add, pk_mul, pk_sub, leT, leF, ltT, ltF, eqT, eqF, ite_true, ite_false, reduceIte, nz_nI, oc_s, oc_n, pk_div, pk_rem, m1F, L0, L1, L2, L3, L4, L5, L6, L7, L8, L9, L10, L11, L12, L19, L20, L24, L25, L27, L28, L30, L32, L37, L39, L40, L47, L48, L50, L55, L57, L60, L61, L63, L71, L80, L97, L99, L100, L120, L122, L128, L161, L17, L600, L1000000, L1024, L1408, isB0, isB1, subdm, inT, inFl, inFh]
theorem link0_nI {r : Rec} {n : Nat} {v : Hv} (ok : HvOK v) (hd : Hd r n v) {l : Nat} (hl : l < hL v) : fX10_linkOf r (nI l) (nI 0) = some (nI (hA1 v l)) := by
  unfold fX10_linkOf
  simp (disch := omega) only [Nat.reduceMul, Nat.reduceAdd, hd.a1 ok, bd_some, gd_true, inR_nI, nI_clamp, nI_add, pk_mul, pk_sub, leT, leF, ltT, ltF, eqT, eqF, ite_true, ite_false, reduceIte, nz_nI, oc_s, oc_n, pk_div, pk_rem, m1F, L0, L1, L2, L3, L4, L5, L6, L7, L8, L9, L10, L11, L12, L19, L20, L24, L25, L27, L28, L30, L32, L37, L39, L40, L47, L48, L50, L55, L57, L60, L61, L63, L71, L80, L97, L99, L100, L120, L122, L128, L161, L17, L600, L1000000, L1024, L1408, isB0, isB1, subdm, inT, inFl, inFh]
theorem link1_nI {r : Rec} {n : Nat} {v : Hv} (ok : HvOK v) (hd : Hd r n v) {l : Nat} (hl : l < hL v) : fX10_linkOf r (nI l) (nI 1) = some (nI (hA2 v l)) := by
  unfold fX10_linkOf
  simp (disch := omega) only [Nat.reduceMul, Nat.reduceAdd, hd.a2 ok, bd_some, gd_true, inR_nI, nI_clamp, nI_add, pk_mul, pk_sub, leT, leF, ltT, ltF, eqT, eqF, ite_true, ite_false, reduceIte, nz_nI, oc_s, oc_n, pk_div, pk_rem, m1F, L0, L1, L2, L3, L4, L5, L6, L7, L8, L9, L10, L11, L12, L19, L20, L24, L25, L27, L28, L30, L32, L37, L39, L40, L47, L48, L50, L55, L57, L60, L61, L63, L71, L80, L97, L99, L100, L120, L122, L128, L161, L17, L600, L1000000, L1024, L1408, isB0, isB1, subdm, inT, inFl, inFh]
theorem link2_nI {r : Rec} {n : Nat} {v : Hv} (ok : HvOK v) (hd : Hd r n v) {l : Nat} (hl : l < hL v) : fX10_linkOf r (nI l) (nI 2) = some (nI (hA3 v l)) := by
  unfold fX10_linkOf
  simp (disch := omega) only [Nat.reduceMul, Nat.reduceAdd, hd.a3 ok, bd_some, gd_true, inR_nI, nI_clamp, nI_add, pk_mul, pk_sub, leT, leF, ltT, ltF, eqT, eqF, ite_true, ite_false, reduceIte, nz_nI, oc_s, oc_n, pk_div, pk_rem, m1F, L0, L1, L2, L3, L4, L5, L6, L7, L8, L9, L10, L11, L12, L19, L20, L24, L25, L27, L28, L30, L32, L37, L39, L40, L47, L48, L50, L55, L57, L60, L61, L63, L71, L80, L97, L99, L100, L120, L122, L128, L161, L17, L600, L1000000, L1024, L1408, isB0, isB1, subdm, inT, inFl, inFh]
theorem makesM_nI {r : Rec} {n : Nat} {v : Hv} (ok : HvOK v) (hd : Hd r n v) {l t : Nat} (hl : l < hL v) (ht : t < 2 ^ 31) : fX10_makes r (nI l) (nI t) = some (if t.testBit (hA1 v l) = true ∧ t.testBit (hA2 v l) = true then nI 1 else nI 0) := by
  have hL8 := ok.2.2.1
  have ha := a_lt ok hl
  unfold fX10_makes
  cases c1 : t.testBit (hA1 v l)
  · simp (disch := omega) only [link0_nI ok hd, has_nI, c1, Bool.false_eq_true, false_and, bd_some, gd_true, inR_nI, nI_clamp, nI_add, pk_mul, pk_sub, leT, leF, ltT, ltF, eqT, eqF, ite_true, ite_false, reduceIte, nz_nI, oc_s, oc_n, pk_div, pk_rem, m1F, L0, L1, L2, L3, L4, L5, L6, L7, L8, L9, L10, L11, L12, L19, L20, L24, L25, L27, L28, L30, L32, L37, L39, L40, L47, L48, L50, L55, L57, L60, L61, L63, L71, L80, L97, L99, L100, L120, L122, L128, L161, L17, L600, L1000000, L1024, L1408, isB0, isB1, subdm, inT, inFl, inFh]
  · cases c2 : t.testBit (hA2 v l)
    · simp (disch := omega) only [link0_nI ok hd, link1_nI ok hd, has_nI, c1, c2, Bool.false_eq_true, and_false, bd_some, gd_true, inR_nI, nI_clamp, nI_add, pk_mul, pk_sub, leT, leF, ltT, ltF, eqT, eqF, ite_true, ite_false, reduceIte, nz_nI, oc_s, oc_n, pk_div, pk_rem, m1F, L0, L1, L2, L3, L4, L5, L6, L7, L8, L9, L10, L11, L12, L19, L20, L24, L25, L27, L28, L30, L32, L37, L39, L40, L47, L48, L50, L55, L57, L60, L61, L63, L71, L80, L97, L99, L100, L120, L122, L128, L161, L17, L600, L1000000, L1024, L1408, isB0, isB1, subdm, inT, inFl, inFh]
    · simp (disch := omega) only [link0_nI ok hd, link1_nI ok hd, has_nI, c1, c2, and_self, bd_some, gd_true, inR_nI, nI_clamp, nI_add, pk_mul, pk_sub, leT, leF, ltT, ltF, eqT, eqF, ite_true, ite_false, reduceIte, nz_nI, oc_s, oc_n, pk_div, pk_rem, m1F, L0, L1, L2, L3, L4, L5, L6, L7, L8, L9, L10, L11, L12, L19, L20, L24, L25, L27, L28, L30, L32, L37, L39, L40, L47, L48, L50, L55, L57, L60, L61, L63, L71, L80, L97, L99, L100, L120, L122, L128, L161, L17, L600, L1000000, L1024, L1408, isB0, isB1, subdm, inT, inFl, inFh]
/-- which link is left out -/
def Lo (w : Int32) (wo : Nat) : Prop := ∀ l, l < 8 → (nI l = w ↔ l = wo)
theorem Lo.none : Lo (-nI 1) 8 := fun l hl => ⟨fun h => absurd h (m1_ne (by omega)), fun h => by omega⟩
theorem Lo.some {l : Nat} (hl : l < 8) : Lo (nI l) l := fun k hk => nI_eq (by omega) (by omega)
theorem clX_in {h : Rec} {v : Hv} (ok : HvOK v) (hx : HX h v) {w : Int32} {wo : Nat} (hw : Lo w wo) {t : Nat} (ht : t < 2 ^ hS v) (x4 x5 : Int32) : iter (fun st : Int32 × Int32 => bX2_closure_18 h w st.1 x4 x5 st.2) (nI t, nI 0) = bX2_closure_61 h w (nI (sq v wo t)) x4 x5 := by
  have hL8 := ok.2.2.1
  have hpS := pS ok
  refine loopO (step := fun st : Int32 × Int32 => bX2_closure_18 h w st.1 x4 x5 st.2) (fun i => (nI (sqN v wo t i), nI i)) (hL v) (fun i hi => ?_) ?_
  · show bX2_closure_18 h w (nI (sqN v wo t i)) x4 x5 (nI i) = some (.inl (nI (ln v wo i (sqN v wo t i) (sqN v wo t i)), nI (i + 1)))
    have hb := sqN_lt ok (wo := wo) ht i (by omega)
    generalize sqN v wo t i = u at hb ⊢
    have ha := a_lt ok hi
    unfold bX2_closure_18 bX2_closure_55
    by_cases c0 : i = wo
    · have e : ln v wo i u u = u := ln_neg (fun q => q.1 c0)
      simp (disch := omega) only [hx.L, eq_true ((hw i (by omega)).mpr c0), e, bd_some, gd_true, inR_nI, nI_clamp, nI_add, pk_mul, pk_sub, leT, leF, ltT, ltF, eqT, eqF, ite_true, ite_false, reduceIte, nz_nI, oc_s, oc_n, pk_div, pk_rem, m1F, L0, L1, L2, L3, L4, L5, L6, L7, L8, L9, L10, L11, L12, L19, L20, L24, L25, L27, L28, L30, L32, L37, L39, L40, L47, L48, L50, L55, L57, L60, L61, L63, L71, L80, L97, L99, L100, L120, L122, L128, L161, L17, L600, L1000000, L1024, L1408, isB0, isB1, subdm, inT, inFl, inFh]
    · have c0' := eq_false (fun q => c0 ((hw i (by omega)).mp q))
      by_cases c : u.testBit (hA1 v i) = true ∧ u.testBit (hA2 v i) = true
      · have e : ln v wo i u u = u ||| 2 ^ hA3 v i := ln_pos ⟨c0, c⟩
        simp (disch := omega) only [hx.L, c0', makes_nI ok hx, if_pos c, hx.a3, L31, shl_T, or_nI, e, bd_some, gd_true, inR_nI, nI_clamp, nI_add, pk_mul, pk_sub, leT, leF, ltT, ltF, eqT, eqF, ite_true, ite_false, reduceIte, nz_nI, oc_s, oc_n, pk_div, pk_rem, m1F, L0, L1, L2, L3, L4, L5, L6, L7, L8, L9, L10, L11, L12, L19, L20, L24, L25, L27, L28, L30, L32, L37, L39, L40, L47, L48, L50, L55, L57, L60, L61, L63, L71, L80, L97, L99, L100, L120, L122, L128, L161, L17, L600, L1000000, L1024, L1408, isB0, isB1, subdm, inT, inFl, inFh]
      · have e : ln v wo i u u = u := ln_neg (fun q => c q.2)
        simp (disch := omega) only [hx.L, c0', makes_nI ok hx, if_neg c, e, bd_some, gd_true, inR_nI, nI_clamp, nI_add, pk_mul, pk_sub, leT, leF, ltT, ltF, eqT, eqF, ite_true, ite_false, reduceIte, nz_nI, oc_s, oc_n, pk_div, pk_rem, m1F, L0, L1, L2, L3, L4, L5, L6, L7, L8, L9, L10, L11, L12, L19, L20, L24, L25, L27, L28, L30, L32, L37, L39, L40, L47, L48, L50, L55, L57, L60, L61, L63, L71, L80, L97, L99, L100, L120, L122, L128, L161, L17, L600, L1000000, L1024, L1408, isB0, isB1, subdm, inT, inFl, inFh]
  · show bX2_closure_18 h w (nI (sqN v wo t (hL v))) x4 x5 (nI (hL v)) = _
    unfold bX2_closure_18
    simp (disch := omega) only [hx.L, bd_some, gd_true, inR_nI, nI_clamp, nI_add, pk_mul, pk_sub, leT, leF, ltT, ltF, eqT, eqF, ite_true, ite_false, reduceIte, nz_nI, oc_s, oc_n, pk_div, pk_rem, m1F, L0, L1, L2, L3, L4, L5, L6, L7, L8, L9, L10, L11, L12, L19, L20, L24, L25, L27, L28, L30, L32, L37, L39, L40, L47, L48, L50, L55, L57, L60, L61, L63, L71, L80, L97, L99, L100, L120, L122, L128, L161, L17, L600, L1000000, L1024, L1408, isB0, isB1, subdm, inT, inFl, inFh]
    all_goals rfl
theorem sq_lt {v : Hv} (ok : HvOK v) {wo t : Nat} (ht : t < 2 ^ hS v) : sq v wo t < 2 ^ hS v := sqN_lt ok ht _ (Nat.le_refl _)
theorem rnd_lt {v : Hv} (ok : HvOK v) {wo t : Nat} (ht : t < 2 ^ hS v) : rnd v wo t < 2 ^ hS v := rndN_lt ok ht _ (Nat.le_refl _)
theorem closure_nI {h : Rec} {v : Hv} (ok : HvOK v) (hx : HX h v) {w : Int32} {wo : Nat} (hw : Lo w wo) {t : Nat} (ht : t < 2 ^ hS v) : fX2_closure h (nI t) w = some (nI (clo v wo t)) := by
  have hpS := pS ok
  have key : ∀ n k t, k + n = 11 → t < 2 ^ hS v → iter (fun st : Int32 × Int32 => bX2_closure_5 h w st.1 st.2) (nI t, nI k) = some (nI (itF (sq v wo) n t)) := by
    intro n
    induction n with
    | zero =>
      intro k t hk ht
      refine iter_end ?_
      show bX2_closure_5 h w (nI t) (nI k) = _
      unfold bX2_closure_5
      simp (disch := omega) only [itF, bd_some, gd_true, inR_nI, nI_clamp, nI_add, pk_mul, pk_sub, leT, leF, ltT, ltF, eqT, eqF, ite_true, ite_false, reduceIte, nz_nI, oc_s, oc_n, pk_div, pk_rem, m1F, L0, L1, L2, L3, L4, L5, L6, L7, L8, L9, L10, L11, L12, L19, L20, L24, L25, L27, L28, L30, L32, L37, L39, L40, L47, L48, L50, L55, L57, L60, L61, L63, L71, L80, L97, L99, L100, L120, L122, L128, L161, L17, L600, L1000000, L1024, L1408, isB0, isB1, subdm, inT, inFl, inFh]
    | succ n ih =>
      intro k t hk ht
      have hb := sq_lt ok (wo := wo) ht
      by_cases e : sq v wo t = t
      · refine iter_end ?_
        show bX2_closure_5 h w (nI t) (nI k) = _
        unfold bX2_closure_5
        simp (disch := omega) only [clX_in ok hx hw ht, bX2_closure_61, bX2_closure_67, itF, e, bd_some, gd_true, inR_nI, nI_clamp, nI_add, pk_mul, pk_sub, leT, leF, ltT, ltF, eqT, eqF, ite_true, ite_false, reduceIte, nz_nI, oc_s, oc_n, pk_div, pk_rem, m1F, L0, L1, L2, L3, L4, L5, L6, L7, L8, L9, L10, L11, L12, L19, L20, L24, L25, L27, L28, L30, L32, L37, L39, L40, L47, L48, L50, L55, L57, L60, L61, L63, L71, L80, L97, L99, L100, L120, L122, L128, L161, L17, L600, L1000000, L1024, L1408, isB0, isB1, subdm, inT, inFl, inFh]
        all_goals rfl
      · rw [iter_step (s := (nI t, nI k)) (s' := (nI (sq v wo t), nI (k + 1))) (by
          show bX2_closure_5 h w (nI t) (nI k) = _
          unfold bX2_closure_5
          simp (disch := omega) only [clX_in ok hx hw ht, bX2_closure_61, bd_some, gd_true, inR_nI, nI_clamp, nI_add, pk_mul, pk_sub, leT, leF, ltT, ltF, eqT, eqF, ite_true, ite_false, reduceIte, nz_nI, oc_s, oc_n, pk_div, pk_rem, m1F, L0, L1, L2, L3, L4, L5, L6, L7, L8, L9, L10, L11, L12, L19, L20, L24, L25, L27, L28, L30, L32, L37, L39, L40, L47, L48, L50, L55, L57, L60, L61, L63, L71, L80, L97, L99, L100, L120, L122, L128, L161, L17, L600, L1000000, L1024, L1408, isB0, isB1, subdm, inT, inFl, inFh]), ih (k + 1) _ (by omega) hb]
        simp (disch := omega) only [itF, e, bd_some, gd_true, inR_nI, nI_clamp, nI_add, pk_mul, pk_sub, leT, leF, ltT, ltF, eqT, eqF, ite_true, ite_false, reduceIte, nz_nI, oc_s, oc_n, pk_div, pk_rem, m1F, L0, L1, L2, L3, L4, L5, L6, L7, L8, L9, L10, L11, L12, L19, L20, L24, L25, L27, L28, L30, L32, L37, L39, L40, L47, L48, L50, L55, L57, L60, L61, L63, L71, L80, L97, L99, L100, L120, L122, L128, L161, L17, L600, L1000000, L1024, L1408, isB0, isB1, subdm, inT, inFl, inFh]
  rw [← clS_clo ok ht]
  exact key 11 0 t rfl ht
theorem round_nI {r : Rec} {n : Nat} {v : Hv} (ok : HvOK v) (hd : Hd r n v) {w : Int32} {wo : Nat} (hw : Lo w wo) {t : Nat} (ht : t < 2 ^ hS v) : fX10_round r (nI t) w = some (nI (rnd v wo t)) := by
  have hL8 := ok.2.2.1
  have hpS := pS ok
  unfold fX10_round
  refine loopO (step := fun st : Int32 × Int32 => bX10_round_5 r (nI t) w st.1 st.2) (fun i => (nI (rndN v wo t i), nI i)) (hL v) (fun i hi => ?_) ?_
  · show bX10_round_5 r (nI t) w (nI (rndN v wo t i)) (nI i) = some (.inl (nI (ln v wo i t (rndN v wo t i)), nI (i + 1)))
    have hb := rndN_lt ok (wo := wo) ht i (by omega)
    generalize rndN v wo t i = u at hb ⊢
    have ha := a_lt ok hi
    unfold bX10_round_5 bX10_round_44 bX10_round_45
    by_cases c0 : i = wo
    · have e : ln v wo i t u = u := ln_neg (fun q => q.1 c0)
      simp (disch := omega) only [hd.lk, eq_true ((hw i (by omega)).mpr c0), or_nI, Nat.or_zero, e, bd_some, gd_true, inR_nI, nI_clamp, nI_add, pk_mul, pk_sub, leT, leF, ltT, ltF, eqT, eqF, ite_true, ite_false, reduceIte, nz_nI, oc_s, oc_n, pk_div, pk_rem, m1F, L0, L1, L2, L3, L4, L5, L6, L7, L8, L9, L10, L11, L12, L19, L20, L24, L25, L27, L28, L30, L32, L37, L39, L40, L47, L48, L50, L55, L57, L60, L61, L63, L71, L80, L97, L99, L100, L120, L122, L128, L161, L17, L600, L1000000, L1024, L1408, isB0, isB1, subdm, inT, inFl, inFh]
    · have c0' := eq_false (fun q => c0 ((hw i (by omega)).mp q))
      by_cases c : t.testBit (hA1 v i) = true ∧ t.testBit (hA2 v i) = true
      · have e : ln v wo i t u = u ||| 2 ^ hA3 v i := ln_pos ⟨c0, c⟩
        simp (disch := omega) only [hd.lk, c0', makesM_nI ok hd, if_pos c, link2_nI ok hd, L31, shl_T, or_nI, e, bd_some, gd_true, inR_nI, nI_clamp, nI_add, pk_mul, pk_sub, leT, leF, ltT, ltF, eqT, eqF, ite_true, ite_false, reduceIte, nz_nI, oc_s, oc_n, pk_div, pk_rem, m1F, L0, L1, L2, L3, L4, L5, L6, L7, L8, L9, L10, L11, L12, L19, L20, L24, L25, L27, L28, L30, L32, L37, L39, L40, L47, L48, L50, L55, L57, L60, L61, L63, L71, L80, L97, L99, L100, L120, L122, L128, L161, L17, L600, L1000000, L1024, L1408, isB0, isB1, subdm, inT, inFl, inFh]
      · have e : ln v wo i t u = u := ln_neg (fun q => c q.2)
        simp (disch := omega) only [hd.lk, c0', makesM_nI ok hd, if_neg c, or_nI, Nat.or_zero, e, bd_some, gd_true, inR_nI, nI_clamp, nI_add, pk_mul, pk_sub, leT, leF, ltT, ltF, eqT, eqF, ite_true, ite_false, reduceIte, nz_nI, oc_s, oc_n, pk_div, pk_rem, m1F, L0, L1, L2, L3, L4, L5, L6, L7, L8, L9, L10, L11, L12, L19, L20, L24, L25, L27, L28, L30, L32, L37, L39, L40, L47, L48, L50, L55, L57, L60, L61, L63, L71, L80, L97, L99, L100, L120, L122, L128, L161, L17, L600, L1000000, L1024, L1408, isB0, isB1, subdm, inT, inFl, inFh]
  · show bX10_round_5 r (nI t) w _ (nI (hL v)) = _
    unfold bX10_round_5
    simp (disch := omega) only [hd.lk, bd_some, gd_true, inR_nI, nI_clamp, nI_add, pk_mul, pk_sub, leT, leF, ltT, ltF, eqT, eqF, ite_true, ite_false, reduceIte, nz_nI, oc_s, oc_n, pk_div, pk_rem, m1F, L0, L1, L2, L3, L4, L5, L6, L7, L8, L9, L10, L11, L12, L19, L20, L24, L25, L27, L28, L30, L32, L37, L39, L40, L47, L48, L50, L55, L57, L60, L61, L63, L71, L80, L97, L99, L100, L120, L122, L128, L161, L17, L600, L1000000, L1024, L1408, isB0, isB1, subdm, inT, inFl, inFh]
    all_goals rfl
theorem comesOf_nI {r : Rec} {n : Nat} {v : Hv} (ok : HvOK v) (hd : Hd r n v) {w : Int32} {wo : Nat} (hw : Lo w wo) {t : Nat} (ht : t < 2 ^ hS v) : fX10_comesOf r (nI t) w = some (nI (clo v wo t)) := by
  have hpS := pS ok
  have key : ∀ n t, t < 2 ^ hS v → rnd v wo (itF (rnd v wo) n t) = itF (rnd v wo) n t → iter (fun st : Int32 × Int32 => bX10_comesOf_5 r w st.1 st.2) (nI t, nI (rnd v wo t)) = some (nI (itF (rnd v wo) n t)) := by
    intro n
    induction n with
    | zero =>
      intro t ht hf
      have hf : rnd v wo t = t := hf
      refine iter_end ?_
      show bX10_comesOf_5 r w (nI t) (nI (rnd v wo t)) = _
      unfold bX10_comesOf_5
      simp (disch := omega) only [itF, hf, bd_some, gd_true, inR_nI, nI_clamp, nI_add, pk_mul, pk_sub, leT, leF, ltT, ltF, eqT, eqF, ite_true, ite_false, reduceIte, nz_nI, oc_s, oc_n, pk_div, pk_rem, m1F, L0, L1, L2, L3, L4, L5, L6, L7, L8, L9, L10, L11, L12, L19, L20, L24, L25, L27, L28, L30, L32, L37, L39, L40, L47, L48, L50, L55, L57, L60, L61, L63, L71, L80, L97, L99, L100, L120, L122, L128, L161, L17, L600, L1000000, L1024, L1408, isB0, isB1, subdm, inT, inFl, inFh]
    | succ n ih =>
      intro t ht hf
      have hb := rnd_lt ok (wo := wo) ht
      by_cases e : rnd v wo t = t
      · refine iter_end ?_
        show bX10_comesOf_5 r w (nI t) (nI (rnd v wo t)) = _
        unfold bX10_comesOf_5
        simp (disch := omega) only [itF, e, bd_some, gd_true, inR_nI, nI_clamp, nI_add, pk_mul, pk_sub, leT, leF, ltT, ltF, eqT, eqF, ite_true, ite_false, reduceIte, nz_nI, oc_s, oc_n, pk_div, pk_rem, m1F, L0, L1, L2, L3, L4, L5, L6, L7, L8, L9, L10, L11, L12, L19, L20, L24, L25, L27, L28, L30, L32, L37, L39, L40, L47, L48, L50, L55, L57, L60, L61, L63, L71, L80, L97, L99, L100, L120, L122, L128, L161, L17, L600, L1000000, L1024, L1408, isB0, isB1, subdm, inT, inFl, inFh]
      · rw [iter_step (s := (nI t, nI (rnd v wo t))) (s' := (nI (rnd v wo t), nI (rnd v wo (rnd v wo t)))) (by
          show bX10_comesOf_5 r w (nI t) (nI (rnd v wo t)) = _
          unfold bX10_comesOf_5
          simp (disch := omega) only [round_nI ok hd hw hb, bd_some, gd_true, inR_nI, nI_clamp, nI_add, pk_mul, pk_sub, leT, leF, ltT, ltF, eqT, eqF, ite_true, ite_false, reduceIte, nz_nI, oc_s, oc_n, pk_div, pk_rem, m1F, L0, L1, L2, L3, L4, L5, L6, L7, L8, L9, L10, L11, L12, L19, L20, L24, L25, L27, L28, L30, L32, L37, L39, L40, L47, L48, L50, L55, L57, L60, L61, L63, L71, L80, L97, L99, L100, L120, L122, L128, L161, L17, L600, L1000000, L1024, L1408, isB0, isB1, subdm, inT, inFl, inFh])]
        have e2 : itF (rnd v wo) (n + 1) t = itF (rnd v wo) n (rnd v wo t) := by unfold itF; rw [if_neg e]; cases n <;> rfl
        rw [e2] at hf ⊢
        exact ih _ hb hf
  unfold fX10_comesOf
  rw [iter_step (s := (-1, nI t)) (s' := (nI t, nI (rnd v wo t))) (by
    show bX10_comesOf_5 r w (-1) (nI t) = _
    unfold bX10_comesOf_5
    simp (disch := omega) only [round_nI ok hd hw ht, bd_some, gd_true, inR_nI, nI_clamp, nI_add, pk_mul, pk_sub, leT, leF, ltT, ltF, eqT, eqF, ite_true, ite_false, reduceIte, nz_nI, oc_s, oc_n, pk_div, pk_rem, m1F, L0, L1, L2, L3, L4, L5, L6, L7, L8, L9, L10, L11, L12, L19, L20, L24, L25, L27, L28, L30, L32, L37, L39, L40, L47, L48, L50, L55, L57, L60, L61, L63, L71, L80, L97, L99, L100, L120, L122, L128, L161, L17, L600, L1000000, L1024, L1408, isB0, isB1, subdm, inT, inFl, inFh])]
  exact key 11 t ht (itF_fix ok.2.1 (fun t h => rndN_lt ok h _ (Nat.le_refl _)) (fun t => rndN_sub v wo t _) 11 t ht (by omega))
/-! weights -/
def wof (v : Hv) (t : Nat) : Nat := sm (fun s => if t.testBit s then hWt v s else 0) (hS v)
theorem wof_le {v : Hv} (ok : HvOK v) (t : Nat) : wof v t ≤ 300 := by
  have hS10 := ok.2.1
  have := sm_le (f := fun s => if t.testBit s then hWt v s else 0) (c := 30) (n := hS v) (fun i hi => by have := (ok.2.2.2.2.2.2.1 i hi).2.2; split <;> omega)
  unfold wof
  omega
theorem weightOf_nI {h : Rec} {v : Hv} (ok : HvOK v) (hx : HX h v) {t : Nat} (ht : t < 2 ^ 31) : fX2_weightOf h (nI t) = some (nI (wof v t)) := by
  have hS10 := ok.2.1
  unfold fX2_weightOf
  refine loopO (step := fun st : Int32 × Int32 => bX2_weightOf_4 h (nI t) st.1 st.2) (fun i => (nI (sm (fun s => if t.testBit s then hWt v s else 0) i), nI i)) (hS v) (fun i hi => ?_) ?_
  · show bX2_weightOf_4 h (nI t) (nI (sm (fun s => if t.testBit s then hWt v s else 0) i)) (nI i) = some (.inl (nI (sm (fun s => if t.testBit s then hWt v s else 0) i + if t.testBit i then hWt v i else 0), nI (i + 1)))
    generalize sm (fun s => if t.testBit s then hWt v s else 0) i = a
    unfold bX2_weightOf_4 bX2_weightOf_31
    cases c : t.testBit i
    · simp (disch := omega) only [hx.S, hasBit_nI, c, Bool.false_eq_true, bd_some, gd_true, inR_nI, nI_clamp, nI_add, pk_mul, pk_sub, leT, leF, ltT, ltF, eqT, eqF, ite_true, ite_false, reduceIte, nz_nI, oc_s, oc_n, pk_div, pk_rem, m1F, L0, L1, L2, L3, L4, L5, L6, L7, L8, L9, L10, L11, L12, L19, L20, L24, L25, L27, L28, L30, L32, L37, L39, L40, L47, L48, L50, L55, L57, L60, L61, L63, L71, L80, L97, L99, L100, L120, L122, L128, L161, L17, L600, L1000000, L1024, L1408, isB0, isB1, subdm, inT, inFl, inFh]
    · simp (disch := omega) only [hx.S, hasBit_nI, c, hx.wt, bd_some, gd_true, inR_nI, nI_clamp, nI_add, pk_mul, pk_sub, leT, leF, ltT, ltF, eqT, eqF, ite_true, ite_false, reduceIte, nz_nI, oc_s, oc_n, pk_div, pk_rem, m1F, L0, L1, L2, L3, L4, L5, L6, L7, L8, L9, L10, L11, L12, L19, L20, L24, L25, L27, L28, L30, L32, L37, L39, L40, L47, L48, L50, L55, L57, L60, L61, L63, L71, L80, L97, L99, L100, L120, L122, L128, L161, L17, L600, L1000000, L1024, L1408, isB0, isB1, subdm, inT, inFl, inFh]
  · show bX2_weightOf_4 h (nI t) _ (nI (hS v)) = _
    unfold bX2_weightOf_4
    simp (disch := omega) only [hx.S, bd_some, gd_true, inR_nI, nI_clamp, nI_add, pk_mul, pk_sub, leT, leF, ltT, ltF, eqT, eqF, ite_true, ite_false, reduceIte, nz_nI, oc_s, oc_n, pk_div, pk_rem, m1F, L0, L1, L2, L3, L4, L5, L6, L7, L8, L9, L10, L11, L12, L19, L20, L24, L25, L27, L28, L30, L32, L37, L39, L40, L47, L48, L50, L55, L57, L60, L61, L63, L71, L80, L97, L99, L100, L120, L122, L128, L161, L17, L600, L1000000, L1024, L1408, isB0, isB1, subdm, inT, inFl, inFh]
    all_goals rfl
theorem weightM_nI {r : Rec} {n : Nat} {v : Hv} (ok : HvOK v) (hd : Hd r n v) {t : Nat} (ht : t < 2 ^ 31) : fX10_weightOf r (nI t) = some (nI (wof v t)) := by
  have hS10 := ok.2.1
  unfold fX10_weightOf
  refine loopO (step := fun st : Int32 × Int32 => bX10_weightOf_4 r (nI t) st.1 st.2) (fun i => (nI (sm (fun s => if t.testBit s then hWt v s else 0) i), nI i)) (hS v) (fun i hi => ?_) ?_
  · show bX10_weightOf_4 r (nI t) (nI (sm (fun s => if t.testBit s then hWt v s else 0) i)) (nI i) = some (.inl (nI (sm (fun s => if t.testBit s then hWt v s else 0) i + if t.testBit i then hWt v i else 0), nI (i + 1)))
    generalize sm (fun s => if t.testBit s then hWt v s else 0) i = a
    unfold bX10_weightOf_4 bX10_weightOf_33
    cases c : t.testBit i
    · simp (disch := omega) only [hd.S, has_nI, c, Bool.false_eq_true, bd_some, gd_true, inR_nI, nI_clamp, nI_add, pk_mul, pk_sub, leT, leF, ltT, ltF, eqT, eqF, ite_true, ite_false, reduceIte, nz_nI, oc_s, oc_n, pk_div, pk_rem, m1F, L0, L1, L2, L3, L4, L5, L6, L7, L8, L9, L10, L11, L12, L19, L20, L24, L25, L27, L28, L30, L32, L37, L39, L40, L47, L48, L50, L55, L57, L60, L61, L63, L71, L80, L97, L99, L100, L120, L122, L128, L161, L17, L600, L1000000, L1024, L1408, isB0, isB1, subdm, inT, inFl, inFh]
    · simp (disch := omega) only [hd.S, has_nI, c, hd.wt ok, bd_some, gd_true, inR_nI, nI_clamp, nI_add, pk_mul, pk_sub, leT, leF, ltT, ltF, eqT, eqF, ite_true, ite_false, reduceIte, nz_nI, oc_s, oc_n, pk_div, pk_rem, m1F, L0, L1, L2, L3, L4, L5, L6, L7, L8, L9, L10, L11, L12, L19, L20, L24, L25, L27, L28, L30, L32, L37, L39, L40, L47, L48, L50, L55, L57, L60, L61, L63, L71, L80, L97, L99, L100, L120, L122, L128, L161, L17, L600, L1000000, L1024, L1408, isB0, isB1, subdm, inT, inFl, inFh]
  · show bX10_weightOf_4 r (nI t) _ (nI (hS v)) = _
    unfold bX10_weightOf_4
    simp (disch := omega) only [hd.S, bd_some, gd_true, inR_nI, nI_clamp, nI_add, pk_mul, pk_sub, leT, leF, ltT, ltF, eqT, eqF, ite_true, ite_false, reduceIte, nz_nI, oc_s, oc_n, pk_div, pk_rem, m1F, L0, L1, L2, L3, L4, L5, L6, L7, L8, L9, L10, L11, L12, L19, L20, L24, L25, L27, L28, L30, L32, L37, L39, L40, L47, L48, L50, L55, L57, L60, L61, L63, L71, L80, L97, L99, L100, L120, L122, L128, L161, L17, L600, L1000000, L1024, L1408, isB0, isB1, subdm, inT, inFl, inFh]
    all_goals rfl
/-- a set of secrets as told -/
theorem set_cases {h r : Rec} {n : Nat} {v : Hv} (ok : HvOK v) (hx : HX h v) (hd : Hd r n v) (x : Int32) : (fX2_hasSecrets h x = some (nI 0) ∧ fX10_in x (nI 0) (nI (2 ^ hS v - 1)) = some (nI 0)) ∨ ∃ t, t < 2 ^ hS v ∧ x = nI t ∧ fX2_hasSecrets h x = some (nI 1) ∧ fX10_in x (nI 0) (nI (2 ^ hS v - 1)) = some (nI 1) := by
  have hpS := pS ok
  have h1 := p1 (hS v)
  unfold fX2_hasSecrets
  rcases i32_cases x with k | ⟨t, ht, rfl⟩
  · refine Or.inl ⟨?_, in_neg k (by decide)⟩
    simp (disch := omega) only [neg0 k, bd_some, gd_true, inR_nI, nI_clamp, nI_add, pk_mul, pk_sub, leT, leF, ltT, ltF, eqT, eqF, ite_true, ite_false, reduceIte, nz_nI, oc_s, oc_n, pk_div, pk_rem, m1F, L0, L1, L2, L3, L4, L5, L6, L7, L8, L9, L10, L11, L12, L19, L20, L24, L25, L27, L28, L30, L32, L37, L39, L40, L47, L48, L50, L55, L57, L60, L61, L63, L71, L80, L97, L99, L100, L120, L122, L128, L161, L17, L600, L1000000, L1024, L1408, isB0, isB1, subdm, inT, inFl, inFh]
  · by_cases c : t < 2 ^ hS v
    · refine Or.inr ⟨t, c, rfl, ?_, ?_⟩
      · simp (disch := omega) only [secretSets_nI ok hx, bd_some, gd_true, inR_nI, nI_clamp, nI_add, pk_mul, pk_sub, leT, leF, ltT, ltF, eqT, eqF, ite_true, ite_false, reduceIte, nz_nI, oc_s, oc_n, pk_div, pk_rem, m1F, L0, L1, L2, L3, L4, L5, L6, L7, L8, L9, L10, L11, L12, L19, L20, L24, L25, L27, L28, L30, L32, L37, L39, L40, L47, L48, L50, L55, L57, L60, L61, L63, L71, L80, L97, L99, L100, L120, L122, L128, L161, L17, L600, L1000000, L1024, L1408, isB0, isB1, subdm, inT, inFl, inFh]
      · simp (disch := omega) only [bd_some, gd_true, inR_nI, nI_clamp, nI_add, pk_mul, pk_sub, leT, leF, ltT, ltF, eqT, eqF, ite_true, ite_false, reduceIte, nz_nI, oc_s, oc_n, pk_div, pk_rem, m1F, L0, L1, L2, L3, L4, L5, L6, L7, L8, L9, L10, L11, L12, L19, L20, L24, L25, L27, L28, L30, L32, L37, L39, L40, L47, L48, L50, L55, L57, L60, L61, L63, L71, L80, L97, L99, L100, L120, L122, L128, L161, L17, L600, L1000000, L1024, L1408, isB0, isB1, subdm, inT, inFl, inFh]
    · refine Or.inl ⟨?_, ?_⟩
      · simp (disch := omega) only [secretSets_nI ok hx, bd_some, gd_true, inR_nI, nI_clamp, nI_add, pk_mul, pk_sub, leT, leF, ltT, ltF, eqT, eqF, ite_true, ite_false, reduceIte, nz_nI, oc_s, oc_n, pk_div, pk_rem, m1F, L0, L1, L2, L3, L4, L5, L6, L7, L8, L9, L10, L11, L12, L19, L20, L24, L25, L27, L28, L30, L32, L37, L39, L40, L47, L48, L50, L55, L57, L60, L61, L63, L71, L80, L97, L99, L100, L120, L122, L128, L161, L17, L600, L1000000, L1024, L1408, isB0, isB1, subdm, inT, inFl, inFh]
      · simp (disch := omega) only [bd_some, gd_true, inR_nI, nI_clamp, nI_add, pk_mul, pk_sub, leT, leF, ltT, ltF, eqT, eqF, ite_true, ite_false, reduceIte, nz_nI, oc_s, oc_n, pk_div, pk_rem, m1F, L0, L1, L2, L3, L4, L5, L6, L7, L8, L9, L10, L11, L12, L19, L20, L24, L25, L27, L28, L30, L32, L37, L39, L40, L47, L48, L50, L55, L57, L60, L61, L63, L71, L80, L97, L99, L100, L120, L122, L128, L161, L17, L600, L1000000, L1024, L1408, isB0, isB1, subdm, inT, inFl, inFh]
theorem ob_comes : Ob_comes Inv := by
  intro g a1 a2 hI
  rcases house_cases hI a1 with ⟨h1, h2⟩ | ⟨n, v, hn, rfl, ok, hx, h1, h2, h3⟩
  · have h2 := h2 _ (m0 _)
    refine ⟨-1, _, ?_, ?_, hI.keep (XP.rf hI.1) (m0 _)⟩
    · unfold fX9_comes; simp (disch := omega) only [h1, bd_some, gd_true, inR_nI, nI_clamp, nI_add, pk_mul, pk_sub, leT, leF, ltT, ltF, eqT, eqF, ite_true, ite_false, reduceIte, nz_nI, oc_s, oc_n, pk_div, pk_rem, m1F, L0, L1, L2, L3, L4, L5, L6, L7, L8, L9, L10, L11, L12, L19, L20, L24, L25, L27, L28, L30, L32, L37, L39, L40, L47, L48, L50, L55, L57, L60, L61, L63, L71, L80, L97, L99, L100, L120, L122, L128, L161, L17, L600, L1000000, L1024, L1408, isB0, isB1, subdm, inT, inFl, inFh]
    · unfold fX10_comes; simp (disch := omega) only [h2, bd_some, gd_true, inR_nI, nI_clamp, nI_add, pk_mul, pk_sub, leT, leF, ltT, ltF, eqT, eqF, ite_true, ite_false, reduceIte, nz_nI, oc_s, oc_n, pk_div, pk_rem, m1F, L0, L1, L2, L3, L4, L5, L6, L7, L8, L9, L10, L11, L12, L19, L20, L24, L25, L27, L28, L30, L32, L37, L39, L40, L47, L48, L50, L55, L57, L60, L61, L63, L71, L80, L97, L99, L100, L120, L122, L128, L161, L17, L600, L1000000, L1024, L1408, isB0, isB1, subdm, inT, inFl, inFh]
  · obtain ⟨r', e1, hd, m1⟩ := h3 _ (m0 _)
    rcases set_cases ok hx hd a2 with ⟨k1, k2⟩ | ⟨t, ht, rfl, k1, k2⟩
    · refine ⟨-1, r', ?_, ?_, hI.keep (XP.rf hI.1) ((m0 _).tr m1)⟩
      · unfold fX9_comes; simp (disch := omega) only [h1, h2, k1, bd_some, gd_true, inR_nI, nI_clamp, nI_add, pk_mul, pk_sub, leT, leF, ltT, ltF, eqT, eqF, ite_true, ite_false, reduceIte, nz_nI, oc_s, oc_n, pk_div, pk_rem, m1F, L0, L1, L2, L3, L4, L5, L6, L7, L8, L9, L10, L11, L12, L19, L20, L24, L25, L27, L28, L30, L32, L37, L39, L40, L47, L48, L50, L55, L57, L60, L61, L63, L71, L80, L97, L99, L100, L120, L122, L128, L161, L17, L600, L1000000, L1024, L1408, isB0, isB1, subdm, inT, inFl, inFh]
      · unfold fX10_comes; simp (disch := omega) only [e1, everything_nI ok hd, k2, bd_some, gd_true, inR_nI, nI_clamp, nI_add, pk_mul, pk_sub, leT, leF, ltT, ltF, eqT, eqF, ite_true, ite_false, reduceIte, nz_nI, oc_s, oc_n, pk_div, pk_rem, m1F, L0, L1, L2, L3, L4, L5, L6, L7, L8, L9, L10, L11, L12, L19, L20, L24, L25, L27, L28, L30, L32, L37, L39, L40, L47, L48, L50, L55, L57, L60, L61, L63, L71, L80, L97, L99, L100, L120, L122, L128, L161, L17, L600, L1000000, L1024, L1408, isB0, isB1, subdm, inT, inFl, inFh]
    · refine ⟨nI (clo v 8 t), r', ?_, ?_, hI.keep (XP.rf hI.1) ((m0 _).tr m1)⟩
      · unfold fX9_comes; simp (disch := omega) only [h1, h2, k1, closure_nI ok hx Lo.none ht, bd_some, gd_true, inR_nI, nI_clamp, nI_add, pk_mul, pk_sub, leT, leF, ltT, ltF, eqT, eqF, ite_true, ite_false, reduceIte, nz_nI, oc_s, oc_n, pk_div, pk_rem, m1F, L0, L1, L2, L3, L4, L5, L6, L7, L8, L9, L10, L11, L12, L19, L20, L24, L25, L27, L28, L30, L32, L37, L39, L40, L47, L48, L50, L55, L57, L60, L61, L63, L71, L80, L97, L99, L100, L120, L122, L128, L161, L17, L600, L1000000, L1024, L1408, isB0, isB1, subdm, inT, inFl, inFh]
      · unfold fX10_comes; simp (disch := omega) only [e1, everything_nI ok hd, k2, comesOf_nI ok hd Lo.none ht, bd_some, gd_true, inR_nI, nI_clamp, nI_add, pk_mul, pk_sub, leT, leF, ltT, ltF, eqT, eqF, ite_true, ite_false, reduceIte, nz_nI, oc_s, oc_n, pk_div, pk_rem, m1F, L0, L1, L2, L3, L4, L5, L6, L7, L8, L9, L10, L11, L12, L19, L20, L24, L25, L27, L28, L30, L32, L37, L39, L40, L47, L48, L50, L55, L57, L60, L61, L63, L71, L80, L97, L99, L100, L120, L122, L128, L161, L17, L600, L1000000, L1024, L1408, isB0, isB1, subdm, inT, inFl, inFh]
