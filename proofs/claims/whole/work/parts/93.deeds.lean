/-! told to two -/
def bothC (v : Hv) (s a b : Nat) (c : Cv) : Cv := (fun q => if q = a ∨ q = b then wk v (ck c q) s q / 2 else 0, cg c, fun q => if q = a ∨ q = b then ck c q ||| 2 ^ s else ck c q, ct c, ch c, cv c + nI (wk v (ck c a) s a / 2) + nI (wk v (ck c b) s b / 2))
def rBoth (R : Rec) (s a b : Nat) (x y : Int32) : Rec := rGive (rGive (rZero R 1) s a x) s b y
theorem bothX {g : Gs} {n : Nat} {v : Hv} {c : Cv} (ok : HvOK v) (hX : cX g n v c) (hC : cOK v c) {s a b : Nat} (hs : s < hS v) (ha : a < hP v) (hb : b < hP v) (hab : a ≠ b) (ha1 : fX0_isThere g (nI a) = some (nI 1)) (hb1 : fX0_isThere g (nI b) = some (nI 1)) (h1 : fX2_hasSecret (g (200 + n)) (nI s) = some (nI 1)) : fX0_tellTwo g (nI s) (nI a) (nI b) = some (ug g 1 (rBoth (g 1) s a b (nI (wk v (ck c a) s a / 2)) (nI (wk v (ck c b) s b / 2))), nI 1) := by
  have hn := hX.1
  have hP8 := ok.1
  have hS10 := ok.2.1
  have hka := ck_lt ok hC (p := a) (by omega)
  have hkb := ck_lt ok hC (p := b) (by omega)
  have la := wk_le ok hs (p := a) (k := ck c a)
  have lb := wk_le ok hs (p := b) (k := ck c b)
  have hw := worthX_nI (g := ug g 1 (rZero (g 1) 1)) ok hn (by rw [ug_same]; exact hX.h) (by rw [ug_ne (by omega)]; exact hX.hx) hs ha (k := ck c a) (by rw [ug_same]; exact hX.kn (by omega)) (by omega)
  have hg := give_nI (g := ug g 1 (rZero (g 1) 1)) (s := s) (p := a) (z := nI (wk v (ck c a) s a / 2)) (by omega) (by omega)
  rw [ug_same, ug_ug] at hg
  have hw2 := worthX_nI (g := ug g 1 (rGive (rZero (g 1) 1) s a (nI (wk v (ck c a) s a / 2)))) ok hn (by rw [ug_same]; exact hX.h) (by rw [ug_ne (by omega)]; exact hX.hx) hs hb (k := ck c b) (by
    rw [ug_same]
    show upd (ga (g 1) 3) a _ b = _
    rw [upd_if, if_neg (by omega)]; exact hX.kn (by omega)) (by omega)
  have hg2 := give_nI (g := ug g 1 (rGive (rZero (g 1) 1) s a (nI (wk v (ck c a) s a / 2)))) (s := s) (p := b) (z := nI (wk v (ck c b) s b / 2)) (by omega) (by omega)
  rw [ug_same, ug_ug] at hg2
  unfold fX0_tellTwo
  simp (disch := omega) only [hX.h, hX.hm, h1, ha1, hb1, bd_some, gd_true, inR_nI, nI_clamp, nI_add, pk_mul, pk_sub, leT, leF, ltT, ltF, eqT, eqF, ite_true, ite_false, reduceIte, nz_nI, oc_s, oc_n, pk_div, pk_rem, m1F, L0, L1, L2, L3, L4, L5, L6, L7, L8, L9, L10, L11, L12, L19, L20, L24, L25, L27, L28, L30, L32, L37, L39, L40, L47, L48, L50, L55, L57, L60, L61, L63, L71, L80, L97, L99, L100, L120, L122, L128, L161, L17, L600, L1000000, L1024, L1408, isB0, isB1, subdm, inT, inFl, inFh]
  show (fX0_worthNow (ug g 1 (rZero (g 1) 1)) (nI s) (nI a)).bind _ = _
  rw [hw, bd_some, pk_div (by omega) (by omega) (by omega)]
  show (fX0_give (ug g 1 (rZero (g 1) 1)) (nI s) (nI a) _).bind _ = _
  rw [hg, bd_some, hw2, bd_some, pk_div (by omega) (by omega) (by omega), hg2, bd_some]
  rfl
theorem bothX_c {g : Gs} {n : Nat} {v : Hv} {c : Cv} (hX : cX g n v c) {s a b : Nat} (ha : a < 8) (hb : b < 8) (hab : a ≠ b) : cX (ug g 1 (rBoth (g 1) s a b (nI (wk v (ck c a) s a / 2)) (nI (wk v (ck c b) s b / 2)))) n v (bothC v s a b c) ∧ FrX g (ug g 1 (rBoth (g 1) s a b (nI (wk v (ck c a) s a / 2)) (nI (wk v (ck c b) s b / 2)))) := by
  refine ⟨hX.put rfl (fun q hq => ?_) (fun q hq => hX.gl hq) (fun q hq => ?_) hX.st hX.ho ?_, FrX.put rfl rfl (fun k hk => ?_)⟩
  · show upd (upd (fl 8 (nI 0) (ga (g 1) 1)) a _) b _ q = nI (if q = a ∨ q = b then wk v (ck c q) s q / 2 else 0)
    rw [upd_if, upd_if]
    by_cases e : q = b
    · rw [if_pos e, if_pos (Or.inr e), e]
    · rw [if_neg e]
      by_cases e2 : q = a
      · rw [if_pos e2, if_pos (Or.inl e2), e2]
      · rw [if_neg e2, if_neg (fun h => h.elim e2 e)]
        show (if q < 8 then nI 0 else _) = _
        rw [if_pos hq]
  · show upd (upd (ga (g 1) 3) a (ga (g 1) 3 a ||| nI (2 ^ s))) b (upd (ga (g 1) 3) a (ga (g 1) 3 a ||| nI (2 ^ s)) b ||| nI (2 ^ s)) q = nI (if q = a ∨ q = b then ck c q ||| 2 ^ s else ck c q)
    rw [upd_if, upd_if, upd_if, if_neg (show ¬ b = a by omega)]
    by_cases e : q = b
    · rw [if_pos e, if_pos (Or.inr e), hX.kn hb, or_nI, e]
    · rw [if_neg e]
      by_cases e2 : q = a
      · rw [if_pos e2, if_pos (Or.inl e2), hX.kn ha, or_nI, e2]
      · rw [if_neg e2, if_neg (fun h => h.elim e2 e), hX.kn hq]
  · show gi (g 1) 7 + _ + _ = _
    rw [hX.gv]; rfl
  · show gi (si _ 7 _) k = _
    rw [gi_sin (by omega)]
    show gi (si _ 7 _) k = _
    rw [gi_sin (by omega)]; rfl
theorem bothM {r : Rec} {n : Nat} {v : Hv} {c : Cv} (ok : HvOK v) (hM : cM r n v c) (hC : cOK v c) {s a b : Nat} (hs : s < hS v) (ha : a < hP v) (hb : b < hP v) (hab : a ≠ b) (ha1 : fX10_isThere r (nI a) = some (nI 1)) (hb1 : fX10_isThere r (nI b) = some (nI 1)) (h1 : fX10_isSecret r (nI s) = some (nI 1)) : ∃ r', fX10_tellsBoth r (nI s) (nI a) (nI b) = some (r', nI 1) ∧ cM r' n v (bothC v s a b c) ∧ FrM r r' := by
  have hn := hM.1
  have hP8 := ok.1
  have hS10 := ok.2.1
  unfold fX10_tellsBoth
  simp (disch := omega) only [h1, ha1, hb1, bd_some, gd_true, inR_nI, nI_clamp, nI_add, pk_mul, pk_sub, leT, leF, ltT, ltF, eqT, eqF, ite_true, ite_false, reduceIte, nz_nI, oc_s, oc_n, pk_div, pk_rem, m1F, L0, L1, L2, L3, L4, L5, L6, L7, L8, L9, L10, L11, L12, L19, L20, L24, L25, L27, L28, L30, L32, L37, L39, L40, L47, L48, L50, L55, L57, L60, L61, L63, L71, L80, L97, L99, L100, L120, L122, L128, L161, L17, L600, L1000000, L1024, L1408, isB0, isB1, subdm, inT, inFl, inFh]
  obtain ⟨x, h1, h2⟩ := iter_loop (step := fun st : Int32 × Rec => bX10_tellsBoth_34 st.2 (nI s) (nI a) (nI b) st.1) (fun i st => st.1 = nI i ∧ (∀ q, q < i → ga st.2 33 q = nI (if q = a ∨ q = b then wk v (ck c q) s q / 2 else 0)) ∧ (∀ k, k ≠ 33 → ga st.2 k = ga r k) ∧ (∀ k, gi st.2 k = gi r k)) (fun x => x.2 = nI 1 ∧ cM x.1 n v (bothC v s a b c) ∧ FrM r x.1) 8 (by
    rintro i ⟨k, q⟩ hi ⟨e, a1, a2, a3⟩
    dsimp only at e a1 a2 a3
    subst e
    refine ⟨(nI (i + 1), sa q 33 (upd (ga q 33) i (nI (if i = a ∨ i = b then wk v (ck c i) s i / 2 else 0)))), ?_, rfl, fun t ht => ?_, fun k hk => ?_, a3⟩
    · show bX10_tellsBoth_34 q (nI s) (nI a) (nI b) (nI i) = _
      unfold bX10_tellsBoth_34 bX10_tellsBoth_59 bX10_tellsBoth_72
      have hk := ck_lt ok hC (p := i) hi
      have lw := wk_le ok hs (p := i) (k := ck c i)
      have hw : i < hP v → fX10_worthNow q (nI s) (nI i) = some (nI (wk v (ck c i) s i)) := fun hiP => worthM_nI (r := q) ok hn (by rw [a3]; exact hM.2.1) (by rw [a2 6 (by decide)]; exact hM.hm) hs hiP (k := ck c i) (by rw [a2 28 (by decide)]; exact hM.kn (by omega)) (by omega)
      by_cases e : i = a
      · subst e
        have hw := hw ha
        simp (disch := omega) only [hw, true_or, bd_some, gd_true, inR_nI, nI_clamp, nI_add, pk_mul, pk_sub, leT, leF, ltT, ltF, eqT, eqF, ite_true, ite_false, reduceIte, nz_nI, oc_s, oc_n, pk_div, pk_rem, m1F, L0, L1, L2, L3, L4, L5, L6, L7, L8, L9, L10, L11, L12, L19, L20, L24, L25, L27, L28, L30, L32, L37, L39, L40, L47, L48, L50, L55, L57, L60, L61, L63, L71, L80, L97, L99, L100, L120, L122, L128, L161, L17, L600, L1000000, L1024, L1408, isB0, isB1, subdm, inT, inFl, inFh]
      · by_cases e2 : i = b
        · subst e2
          have hw := hw hb
          simp (disch := omega) only [hw, or_true, bd_some, gd_true, inR_nI, nI_clamp, nI_add, pk_mul, pk_sub, leT, leF, ltT, ltF, eqT, eqF, ite_true, ite_false, reduceIte, nz_nI, oc_s, oc_n, pk_div, pk_rem, m1F, L0, L1, L2, L3, L4, L5, L6, L7, L8, L9, L10, L11, L12, L19, L20, L24, L25, L27, L28, L30, L32, L37, L39, L40, L47, L48, L50, L55, L57, L60, L61, L63, L71, L80, L97, L99, L100, L120, L122, L128, L161, L17, L600, L1000000, L1024, L1408, isB0, isB1, subdm, inT, inFl, inFh]
        · simp (disch := omega) only [if_neg (fun h : i = a ∨ i = b => h.elim e e2), bd_some, gd_true, inR_nI, nI_clamp, nI_add, pk_mul, pk_sub, leT, leF, ltT, ltF, eqT, eqF, ite_true, ite_false, reduceIte, nz_nI, oc_s, oc_n, pk_div, pk_rem, m1F, L0, L1, L2, L3, L4, L5, L6, L7, L8, L9, L10, L11, L12, L19, L20, L24, L25, L27, L28, L30, L32, L37, L39, L40, L47, L48, L50, L55, L57, L60, L61, L63, L71, L80, L97, L99, L100, L120, L122, L128, L161, L17, L600, L1000000, L1024, L1408, isB0, isB1, subdm, inT, inFl, inFh]
    · show upd (ga q 33) i _ t = _
      rw [upd_if]
      by_cases e : t = i
      · rw [if_pos e, e]
      · rw [if_neg e]; exact a1 t (by omega)
    · show ga (sa q 33 _) k = _
      rw [ga_san hk]; exact a2 k hk) (by
    rintro ⟨k, q⟩ ⟨e, a1, a2, a3⟩
    dsimp only at e a1 a2 a3
    subst e
    have ea : ga q 33 a = nI (wk v (ck c a) s a / 2) := by rw [a1 a (by omega), if_pos (Or.inl rfl)]
    have eb : ga q 33 b = nI (wk v (ck c b) s b / 2) := by rw [a1 b (by omega), if_pos (Or.inr rfl)]
    have ka : ga q 28 a = nI (ck c a) := by rw [a2 28 (by decide)]; exact hM.kn (by omega)
    have kb : ga q 28 b = nI (ck c b) := by rw [a2 28 (by decide)]; exact hM.kn (by omega)
    have kb2 : upd (ga q 28) a (nI (ck c a ||| 2 ^ s)) b = nI (ck c b) := by rw [upd_if, if_neg (by omega)]; exact kb
    refine ⟨(sa (sa (si q 32 (gi q 32 + nI (wk v (ck c a) s a / 2 + wk v (ck c b) s b / 2))) 28 (upd (ga q 28) a (nI (ck c a ||| 2 ^ s)))) 28 (upd (upd (ga q 28) a (nI (ck c a ||| 2 ^ s))) b (nI (ck c b ||| 2 ^ s))), nI 1), ?_, rfl, ⟨hn, ?_, ?_, ?_, ?_, ?_, ?_, ?_, ?_, ?_, ?_⟩, ⟨fun k k1 k2 k3 => ?_, fun k k1 k2 k3 => ?_⟩⟩
    · show bX10_tellsBoth_34 q (nI s) (nI a) (nI b) (nI 8) = _
      unfold bX10_tellsBoth_34 bX10_tellsBoth_79
      simp (disch := omega) only [ea, eb, ka, kb2, L31, shl_T, or_nI, bd_some, gd_true, inR_nI, nI_clamp, nI_add, pk_mul, pk_sub, leT, leF, ltT, ltF, eqT, eqF, ite_true, ite_false, reduceIte, nz_nI, oc_s, oc_n, pk_div, pk_rem, m1F, L0, L1, L2, L3, L4, L5, L6, L7, L8, L9, L10, L11, L12, L19, L20, L24, L25, L27, L28, L30, L32, L37, L39, L40, L47, L48, L50, L55, L57, L60, L61, L63, L71, L80, L97, L99, L100, L120, L122, L128, L161, L17, L600, L1000000, L1024, L1408, isB0, isB1, subdm, inT, inFl, inFh, ug_same, ug_ug, ug_ne, ga_sae, ga_san, gi_sie, gi_sin, ga_si, gi_sa, gr_si, gr_sa, ga_sr, gi_sr, gr_sre]
      rfl
    · show gi q 25 = _; rw [a3]; exact hM.2.1
    · show gi q 26 = _; rw [a3]; exact hM.P
    · show gi q 27 = _; rw [a3]; exact hM.S
    · show HM (ga q 6) _ _; rw [a2 6 (by decide)]; exact hM.hm
    · exact a1
    · intro t ht; show ga q 34 t = _; rw [a2 34 (by decide)]; exact hM.gl ht
    · intro t ht
      show upd (upd (ga q 28) a (nI (ck c a ||| 2 ^ s))) b (nI (ck c b ||| 2 ^ s)) t = nI (if t = a ∨ t = b then ck c t ||| 2 ^ s else ck c t)
      rw [upd_if, upd_if]
      by_cases e : t = b
      · rw [if_pos e, if_pos (Or.inr e), e]
      · rw [if_neg e]
        by_cases e2 : t = a
        · rw [if_pos e2, if_pos (Or.inl e2), e2]
        · rw [if_neg e2, if_neg (fun h => h.elim e2 e), a2 28 (by decide)]; exact hM.kn ht
    · show gi q 31 = _; rw [a3]; exact hM.st
    · show gi q 30 = _; rw [a3]; exact hM.ho
    · show gi q 32 + _ = cv c + nI (wk v (ck c a) s a / 2) + nI (wk v (ck c b) s b / 2); rw [a3, hM.gv, Int32.add_assoc, nI_add]
    · show ga (sa (sa (si q 32 _) 28 _) 28 _) k = _
      rw [ga_san k1, ga_san k1, ga_si]; exact a2 k k2
    · show gi (si q 32 _) k = _
      rw [gi_sin k3]; exact a3 k) (s0 := (nI 0, r)) ⟨rfl, fun q hq => by omega, fun _ _ => rfl, fun _ => rfl⟩
  obtain ⟨x1, x2⟩ := x
  obtain ⟨b0, b1, b2⟩ := h2
  dsimp only at b0 b1 b2
  subst b0
  exact ⟨x1, h1, b1, b2⟩
theorem bothC_OK {v : Hv} {c : Cv} (ok : HvOK v) (hC : cOK v c) {s a b : Nat} (hs : s < hS v) (ha : (ct c).testBit a = false) (hb : (ct c).testBit b = false) : cOK v (bothC v s a b c) := by
  refine ⟨fun q hq => ⟨?_, (hC.1 q hq).2.1, ?_⟩, hC.2.1, hC.2.2.1, fun q hq ht => ⟨?_, (hC.2.2.2 q hq ht).2⟩⟩
  · show (if q = a ∨ q = b then wk v (ck c q) s q / 2 else 0) ≤ 60
    have := wk_le ok hs (p := q) (k := ck c q)
    split <;> omega
  · show (if q = a ∨ q = b then ck c q ||| 2 ^ s else ck c q) < 2 ^ hS v
    split
    · exact or_two_lt (hC.1 q hq).2.2 hs
    · exact (hC.1 q hq).2.2
  · show (if q = a ∨ q = b then wk v (ck c q) s q / 2 else 0) = 0
    have h2 : (ct c).testBit q = true := ht
    rw [if_neg (fun e => e.elim (fun e => by rw [e, ha] at h2; cases h2) (fun e => by rw [e, hb] at h2; cases h2))]
theorem both_step {g : Gs} {r : Rec} {n : Nat} {v : Hv} {c : Cv} (ok : HvOK v) (h : Co g r n v c) (x y z : Int32) : StepOK g r n v (fX0_tellTwo g x y z) (fX10_tellsBoth r x y z) := by
  obtain ⟨hX, hM, hC⟩ := id h
  have hS10 := ok.2.1
  have hP8 := ok.1
  rcases secret_cases hX.hx.S hM.S hS10 x with ⟨s1, s2⟩ | ⟨s, hs, rfl, s1, s2⟩
  · refine StepOK.no h ?_ ?_
    · unfold fX0_tellTwo; simp (disch := omega) only [hX.h, hX.hm, s1, bd_some, gd_true, inR_nI, nI_clamp, nI_add, pk_mul, pk_sub, leT, leF, ltT, ltF, eqT, eqF, ite_true, ite_false, reduceIte, nz_nI, oc_s, oc_n, pk_div, pk_rem, m1F, L0, L1, L2, L3, L4, L5, L6, L7, L8, L9, L10, L11, L12, L19, L20, L24, L25, L27, L28, L30, L32, L37, L39, L40, L47, L48, L50, L55, L57, L60, L61, L63, L71, L80, L97, L99, L100, L120, L122, L128, L161, L17, L600, L1000000, L1024, L1408, isB0, isB1, subdm, inT, inFl, inFh]
    · unfold fX10_tellsBoth; simp (disch := omega) only [s2, bd_some, gd_true, inR_nI, nI_clamp, nI_add, pk_mul, pk_sub, leT, leF, ltT, ltF, eqT, eqF, ite_true, ite_false, reduceIte, nz_nI, oc_s, oc_n, pk_div, pk_rem, m1F, L0, L1, L2, L3, L4, L5, L6, L7, L8, L9, L10, L11, L12, L19, L20, L24, L25, L27, L28, L30, L32, L37, L39, L40, L47, L48, L50, L55, L57, L60, L61, L63, L71, L80, L97, L99, L100, L120, L122, L128, L161, L17, L600, L1000000, L1024, L1408, isB0, isB1, subdm, inT, inFl, inFh]
  · rcases there_cases ok h y with ⟨t1, t2⟩ | ⟨a, ha, rfl, ta, t1, t2⟩
    · refine StepOK.no h ?_ ?_
      · unfold fX0_tellTwo; simp (disch := omega) only [hX.h, hX.hm, s1, t1, bd_some, gd_true, inR_nI, nI_clamp, nI_add, pk_mul, pk_sub, leT, leF, ltT, ltF, eqT, eqF, ite_true, ite_false, reduceIte, nz_nI, oc_s, oc_n, pk_div, pk_rem, m1F, L0, L1, L2, L3, L4, L5, L6, L7, L8, L9, L10, L11, L12, L19, L20, L24, L25, L27, L28, L30, L32, L37, L39, L40, L47, L48, L50, L55, L57, L60, L61, L63, L71, L80, L97, L99, L100, L120, L122, L128, L161, L17, L600, L1000000, L1024, L1408, isB0, isB1, subdm, inT, inFl, inFh]
      · unfold fX10_tellsBoth; simp (disch := omega) only [s2, t2, bd_some, gd_true, inR_nI, nI_clamp, nI_add, pk_mul, pk_sub, leT, leF, ltT, ltF, eqT, eqF, ite_true, ite_false, reduceIte, nz_nI, oc_s, oc_n, pk_div, pk_rem, m1F, L0, L1, L2, L3, L4, L5, L6, L7, L8, L9, L10, L11, L12, L19, L20, L24, L25, L27, L28, L30, L32, L37, L39, L40, L47, L48, L50, L55, L57, L60, L61, L63, L71, L80, L97, L99, L100, L120, L122, L128, L161, L17, L600, L1000000, L1024, L1408, isB0, isB1, subdm, inT, inFl, inFh]
    · rcases there_cases ok h z with ⟨u1, u2⟩ | ⟨b, hb, rfl, tb, u1, u2⟩
      · refine StepOK.no h ?_ ?_
        · unfold fX0_tellTwo; simp (disch := omega) only [hX.h, hX.hm, s1, t1, u1, bd_some, gd_true, inR_nI, nI_clamp, nI_add, pk_mul, pk_sub, leT, leF, ltT, ltF, eqT, eqF, ite_true, ite_false, reduceIte, nz_nI, oc_s, oc_n, pk_div, pk_rem, m1F, L0, L1, L2, L3, L4, L5, L6, L7, L8, L9, L10, L11, L12, L19, L20, L24, L25, L27, L28, L30, L32, L37, L39, L40, L47, L48, L50, L55, L57, L60, L61, L63, L71, L80, L97, L99, L100, L120, L122, L128, L161, L17, L600, L1000000, L1024, L1408, isB0, isB1, subdm, inT, inFl, inFh]
        · unfold fX10_tellsBoth; simp (disch := omega) only [s2, t2, u2, bd_some, gd_true, inR_nI, nI_clamp, nI_add, pk_mul, pk_sub, leT, leF, ltT, ltF, eqT, eqF, ite_true, ite_false, reduceIte, nz_nI, oc_s, oc_n, pk_div, pk_rem, m1F, L0, L1, L2, L3, L4, L5, L6, L7, L8, L9, L10, L11, L12, L19, L20, L24, L25, L27, L28, L30, L32, L37, L39, L40, L47, L48, L50, L55, L57, L60, L61, L63, L71, L80, L97, L99, L100, L120, L122, L128, L161, L17, L600, L1000000, L1024, L1408, isB0, isB1, subdm, inT, inFl, inFh]
      · by_cases hab : a = b
        · refine StepOK.no h ?_ ?_
          · unfold fX0_tellTwo; simp (disch := omega) only [hX.h, hX.hm, s1, t1, u1, bd_some, gd_true, inR_nI, nI_clamp, nI_add, pk_mul, pk_sub, leT, leF, ltT, ltF, eqT, eqF, ite_true, ite_false, reduceIte, nz_nI, oc_s, oc_n, pk_div, pk_rem, m1F, L0, L1, L2, L3, L4, L5, L6, L7, L8, L9, L10, L11, L12, L19, L20, L24, L25, L27, L28, L30, L32, L37, L39, L40, L47, L48, L50, L55, L57, L60, L61, L63, L71, L80, L97, L99, L100, L120, L122, L128, L161, L17, L600, L1000000, L1024, L1408, isB0, isB1, subdm, inT, inFl, inFh]
          · unfold fX10_tellsBoth; simp (disch := omega) only [s2, t2, u2, bd_some, gd_true, inR_nI, nI_clamp, nI_add, pk_mul, pk_sub, leT, leF, ltT, ltF, eqT, eqF, ite_true, ite_false, reduceIte, nz_nI, oc_s, oc_n, pk_div, pk_rem, m1F, L0, L1, L2, L3, L4, L5, L6, L7, L8, L9, L10, L11, L12, L19, L20, L24, L25, L27, L28, L30, L32, L37, L39, L40, L47, L48, L50, L55, L57, L60, L61, L63, L71, L80, L97, L99, L100, L120, L122, L128, L161, L17, L600, L1000000, L1024, L1408, isB0, isB1, subdm, inT, inFl, inFh]
        · obtain ⟨r', m1, m2, m3⟩ := bothM ok hM hC hs ha hb hab t2 u2 s2
          have hc := bothX_c hX (s := s) (a := a) (b := b) (by omega) (by omega) hab
          exact ⟨_, r', nI 1, bothC v s a b c, bothX ok hX hC hs ha hb hab t1 u1 s1, m1, Or.inr rfl, ⟨hc.1, m2, bothC_OK ok hC hs ta tb⟩, hc.2, m3⟩
/-! polished -/
def polC (p : Nat) (c : Cv) : Cv := (cs c, fun q => if q = p then 5 else 0, ck c, ct c, ch c, cv c)
theorem pol_step {g : Gs} {r : Rec} {n : Nat} {v : Hv} {c : Cv} (ok : HvOK v) (h : Co g r n v c) (y : Int32) : StepOK g r n v (fX0_polishOne g y) (fX10_polishes r y) := by
  obtain ⟨hX, hM, hC⟩ := id h
  have hP8 := ok.1
  rcases there_cases ok h y with ⟨t1, t2⟩ | ⟨p, hp, rfl, hb, t1, t2⟩
  · refine StepOK.no h ?_ ?_
    · unfold fX0_polishOne; simp (disch := omega) only [t1, bd_some, gd_true, inR_nI, nI_clamp, nI_add, pk_mul, pk_sub, leT, leF, ltT, ltF, eqT, eqF, ite_true, ite_false, reduceIte, nz_nI, oc_s, oc_n, pk_div, pk_rem, m1F, L0, L1, L2, L3, L4, L5, L6, L7, L8, L9, L10, L11, L12, L19, L20, L24, L25, L27, L28, L30, L32, L37, L39, L40, L47, L48, L50, L55, L57, L60, L61, L63, L71, L80, L97, L99, L100, L120, L122, L128, L161, L17, L600, L1000000, L1024, L1408, isB0, isB1, subdm, inT, inFl, inFh]
    · unfold fX10_polishes; simp (disch := omega) only [t2, bd_some, gd_true, inR_nI, nI_clamp, nI_add, pk_mul, pk_sub, leT, leF, ltT, ltF, eqT, eqF, ite_true, ite_false, reduceIte, nz_nI, oc_s, oc_n, pk_div, pk_rem, m1F, L0, L1, L2, L3, L4, L5, L6, L7, L8, L9, L10, L11, L12, L19, L20, L24, L25, L27, L28, L30, L32, L37, L39, L40, L47, L48, L50, L55, L57, L60, L61, L63, L71, L80, L97, L99, L100, L120, L122, L128, L161, L17, L600, L1000000, L1024, L1408, isB0, isB1, subdm, inT, inFl, inFh]
  · obtain ⟨x, h1, h2⟩ := iter_loop (step := fun st : Int32 × Rec => bX10_polishes_12 st.2 (nI p) st.1) (fun i st => st.1 = nI i ∧ (∀ q, q < i → ga st.2 34 q = nI (if q = p then 5 else 0)) ∧ (∀ k, k ≠ 34 → ga st.2 k = ga r k) ∧ (∀ k, gi st.2 k = gi r k)) (fun x => x.2 = nI 1 ∧ cM x.1 n v (polC p c) ∧ FrM r x.1) 8 (by
      rintro i ⟨k, q⟩ hi ⟨e, a1, a2, a3⟩
      dsimp only at e a1 a2 a3
      subst e
      refine ⟨(nI (i + 1), sa q 34 (upd (ga q 34) i (nI (if i = p then 5 else 0)))), ?_, rfl, fun t ht => ?_, fun k hk => ?_, a3⟩
      · show bX10_polishes_12 q (nI p) (nI i) = _
        unfold bX10_polishes_12 bX10_polishes_33
        by_cases e : i = p
        · subst e
          simp (disch := omega) only [bd_some, gd_true, inR_nI, nI_clamp, nI_add, pk_mul, pk_sub, leT, leF, ltT, ltF, eqT, eqF, ite_true, ite_false, reduceIte, nz_nI, oc_s, oc_n, pk_div, pk_rem, m1F, L0, L1, L2, L3, L4, L5, L6, L7, L8, L9, L10, L11, L12, L19, L20, L24, L25, L27, L28, L30, L32, L37, L39, L40, L47, L48, L50, L55, L57, L60, L61, L63, L71, L80, L97, L99, L100, L120, L122, L128, L161, L17, L600, L1000000, L1024, L1408, isB0, isB1, subdm, inT, inFl, inFh]
        · simp (disch := omega) only [if_neg e, bd_some, gd_true, inR_nI, nI_clamp, nI_add, pk_mul, pk_sub, leT, leF, ltT, ltF, eqT, eqF, ite_true, ite_false, reduceIte, nz_nI, oc_s, oc_n, pk_div, pk_rem, m1F, L0, L1, L2, L3, L4, L5, L6, L7, L8, L9, L10, L11, L12, L19, L20, L24, L25, L27, L28, L30, L32, L37, L39, L40, L47, L48, L50, L55, L57, L60, L61, L63, L71, L80, L97, L99, L100, L120, L122, L128, L161, L17, L600, L1000000, L1024, L1408, isB0, isB1, subdm, inT, inFl, inFh]
      · show upd (ga q 34) i _ t = _
        rw [upd_if]
        by_cases e : t = i
        · rw [if_pos e, e]
        · rw [if_neg e]; exact a1 t (by omega)
      · show ga (sa q 34 _) k = _
        rw [ga_san hk]; exact a2 k hk) (by
      rintro ⟨k, q⟩ ⟨e, a1, a2, a3⟩
      dsimp only at e a1 a2 a3
      subst e
      refine ⟨(q, nI 1), ?_, rfl, ⟨hM.1, ?_, ?_, ?_, ?_, ?_, ?_, ?_, ?_, ?_, ?_⟩, ⟨fun k k1 k2 k3 => a2 k k3, fun k k1 k2 k3 => a3 k⟩⟩
      · show bX10_polishes_12 q (nI p) (nI 8) = _
        unfold bX10_polishes_12
        simp (disch := omega) only [bd_some, gd_true, inR_nI, nI_clamp, nI_add, pk_mul, pk_sub, leT, leF, ltT, ltF, eqT, eqF, ite_true, ite_false, reduceIte, nz_nI, oc_s, oc_n, pk_div, pk_rem, m1F, L0, L1, L2, L3, L4, L5, L6, L7, L8, L9, L10, L11, L12, L19, L20, L24, L25, L27, L28, L30, L32, L37, L39, L40, L47, L48, L50, L55, L57, L60, L61, L63, L71, L80, L97, L99, L100, L120, L122, L128, L161, L17, L600, L1000000, L1024, L1408, isB0, isB1, subdm, inT, inFl, inFh]
      · show gi q 25 = _; rw [a3]; exact hM.2.1
      · show gi q 26 = _; rw [a3]; exact hM.P
      · show gi q 27 = _; rw [a3]; exact hM.S
      · show HM (ga q 6) _ _; rw [a2 6 (by decide)]; exact hM.hm
      · intro t ht; show ga q 33 t = _; rw [a2 33 (by decide)]; exact hM.sh ht
      · exact a1
      · intro t ht; show ga q 28 t = _; rw [a2 28 (by decide)]; exact hM.kn ht
      · show gi q 31 = _; rw [a3]; exact hM.st
      · show gi q 30 = _; rw [a3]; exact hM.ho
      · show gi q 32 = _; rw [a3]; exact hM.gv) (s0 := (nI 0, r)) ⟨rfl, fun q hq => by omega, fun _ _ => rfl, fun _ => rfl⟩
    obtain ⟨x1, x2⟩ := x
    obtain ⟨b0, b1, b2⟩ := h2
    dsimp only at b0 b1 b2
    subst b0
    refine ⟨ug g 1 (sa (rZero (g 1) 2) 2 (upd (fl 8 (nI 0) (ga (g 1) 2)) p (nI 5))), x1, nI 1, polC p c, ?_, ?_, Or.inr rfl, ⟨hX.put rfl (fun q hq => hX.sh hq) (fun q hq => ?_) (fun q hq => hX.kn hq) hX.st hX.ho hX.gv, b1, ⟨fun q hq => ⟨(hC.1 q hq).1, ?_, (hC.1 q hq).2.2⟩, hC.2.1, hC.2.2.1, fun q hq ht => ⟨(hC.2.2.2 q hq ht).1, ?_⟩⟩⟩, FrX.put rfl rfl (fun k hk => rfl), b2⟩
    · unfold fX0_polishOne rZero
      simp (disch := omega) only [t1, bd_some, gd_true, inR_nI, nI_clamp, nI_add, pk_mul, pk_sub, leT, leF, ltT, ltF, eqT, eqF, ite_true, ite_false, reduceIte, nz_nI, oc_s, oc_n, pk_div, pk_rem, m1F, L0, L1, L2, L3, L4, L5, L6, L7, L8, L9, L10, L11, L12, L19, L20, L24, L25, L27, L28, L30, L32, L37, L39, L40, L47, L48, L50, L55, L57, L60, L61, L63, L71, L80, L97, L99, L100, L120, L122, L128, L161, L17, L600, L1000000, L1024, L1408, isB0, isB1, subdm, inT, inFl, inFh, ug_same, ug_ug, ug_ne, ga_sae, ga_san, gi_sie, gi_sin, ga_si, gi_sa, gr_si, gr_sa, ga_sr, gi_sr, gr_sre]
    · unfold fX10_polishes
      simp (disch := omega) only [t2, bd_some, gd_true, inR_nI, nI_clamp, nI_add, pk_mul, pk_sub, leT, leF, ltT, ltF, eqT, eqF, ite_true, ite_false, reduceIte, nz_nI, oc_s, oc_n, pk_div, pk_rem, m1F, L0, L1, L2, L3, L4, L5, L6, L7, L8, L9, L10, L11, L12, L19, L20, L24, L25, L27, L28, L30, L32, L37, L39, L40, L47, L48, L50, L55, L57, L60, L61, L63, L71, L80, L97, L99, L100, L120, L122, L128, L161, L17, L600, L1000000, L1024, L1408, isB0, isB1, subdm, inT, inFl, inFh]
      exact h1
    · show upd (fl 8 (nI 0) (ga (g 1) 2)) p (nI 5) q = nI (if q = p then 5 else 0)
      rw [upd_if]
      by_cases e : q = p
      · rw [if_pos e, if_pos e]
      · rw [if_neg e, if_neg e]
        show (if q < 8 then nI 0 else _) = _
        rw [if_pos hq]
    · show (if q = p then 5 else 0) ≤ 5
      split <;> omega
    · show (if q = p then 5 else 0) = 0
      rw [if_neg (fun e => by have h2 : (ct c).testBit q = true := ht; rw [e, hb] at h2; cases h2)]
/-! an hour -/
def hourC (v : Hv) (c : Cv) : Cv := (fun q => cs c q - hWe v q, fun _ => 0, ck c, ct c, ch c + 1, cv c)
theorem hour_step {g : Gs} {r : Rec} {n : Nat} {v : Hv} {c : Cv} (ok : HvOK v) (h : Co g r n v c) : StepOK g r n v (fX0_passHour g) (fX10_goesOn r) := by
  obtain ⟨hX, hM, hC⟩ := id h
  have hP8 := ok.1
  have hn := hX.1
  have hc99 := hC.2.2.1
  by_cases c99 : ch c = 99
  · refine StepOK.no h ?_ ?_
    · unfold fX0_passHour; simp (disch := omega) only [hX.ho, bd_some, gd_true, inR_nI, nI_clamp, nI_add, pk_mul, pk_sub, leT, leF, ltT, ltF, eqT, eqF, ite_true, ite_false, reduceIte, nz_nI, oc_s, oc_n, pk_div, pk_rem, m1F, L0, L1, L2, L3, L4, L5, L6, L7, L8, L9, L10, L11, L12, L19, L20, L24, L25, L27, L28, L30, L32, L37, L39, L40, L47, L48, L50, L55, L57, L60, L61, L63, L71, L80, L97, L99, L100, L120, L122, L128, L161, L17, L600, L1000000, L1024, L1408, isB0, isB1, subdm, inT, inFl, inFh]
    · unfold fX10_goesOn; simp (disch := omega) only [hM.ho, bd_some, gd_true, inR_nI, nI_clamp, nI_add, pk_mul, pk_sub, leT, leF, ltT, ltF, eqT, eqF, ite_true, ite_false, reduceIte, nz_nI, oc_s, oc_n, pk_div, pk_rem, m1F, L0, L1, L2, L3, L4, L5, L6, L7, L8, L9, L10, L11, L12, L19, L20, L24, L25, L27, L28, L30, L32, L37, L39, L40, L47, L48, L50, L55, L57, L60, L61, L63, L71, L80, L97, L99, L100, L120, L122, L128, L161, L17, L600, L1000000, L1024, L1408, isB0, isB1, subdm, inT, inFl, inFh]
  · have hX' : ∃ R, fX0_passHour g = some (ug g 1 R, nI 1) ∧ gr R = gr (g 1) ∧ (∀ p, p < 8 → ga R 1 p = nI (cs c p - hWe v p)) ∧ (∀ p, p < 8 → ga R 2 p = nI 0) ∧ ga R 3 = ga (g 1) 3 ∧ ga R 4 = ga (g 1) 4 ∧ gi R 6 = nI (ch c + 1) ∧ (∀ k, k ≠ 6 → gi R k = gi (g 1) k) := by
      unfold fX0_passHour
      simp (disch := omega) only [hX.ho, bd_some, gd_true, inR_nI, nI_clamp, nI_add, pk_mul, pk_sub, leT, leF, ltT, ltF, eqT, eqF, ite_true, ite_false, reduceIte, nz_nI, oc_s, oc_n, pk_div, pk_rem, m1F, L0, L1, L2, L3, L4, L5, L6, L7, L8, L9, L10, L11, L12, L19, L20, L24, L25, L27, L28, L30, L32, L37, L39, L40, L47, L48, L50, L55, L57, L60, L61, L63, L71, L80, L97, L99, L100, L120, L122, L128, L161, L17, L600, L1000000, L1024, L1408, isB0, isB1, subdm, inT, inFl, inFh]
      obtain ⟨x, h1, h2⟩ := iter_loop (step := fun st : Int32 × Gs => bX0_passHour_13 st.2 st.1) (fun i st => st.1 = nI i ∧ ∃ R, st.2 = ug g 1 R ∧ gr R = gr (g 1) ∧ (∀ p, p < 8 → ga R 1 p = nI (if p < i then cs c p - hWe v p else cs c p)) ∧ (∀ k, k ≠ 1 → ga R k = ga (g 1) k) ∧ (∀ k, gi R k = gi (g 1) k)) (fun x => x.2 = nI 1 ∧ ∃ R, x.1 = ug g 1 R ∧ gr R = gr (g 1) ∧ (∀ p, p < 8 → ga R 1 p = nI (cs c p - hWe v p)) ∧ (∀ p, p < 8 → ga R 2 p = nI 0) ∧ ga R 3 = ga (g 1) 3 ∧ ga R 4 = ga (g 1) 4 ∧ gi R 6 = nI (ch c + 1) ∧ (∀ k, k ≠ 6 → gi R k = gi (g 1) k)) (hP v) (by
        rintro i ⟨k, q⟩ hi ⟨e, R, e2, a0, a1, a2, a3⟩
        dsimp only at e e2
        subst e
        subst e2
        have h60 := (hC.1 i (by omega)).1
        have hw := we_le ok hi
        have e1 : ga R 1 i = nI (cs c i) := by rw [a1 i (by omega), if_neg (by omega)]
        have e0 : gr R 0 = 200 + n := by rw [a0]; exact hX.h
        refine ⟨(nI (i + 1), ug g 1 (sa R 1 (upd (ga R 1) i (nI (cs c i - hWe v i))))), ?_, rfl, _, rfl, a0, fun p hp => ?_, fun k hk => ?_, a3⟩
        · show bX0_passHour_13 (ug g 1 R) (nI i) = _
          unfold bX0_passHour_13
          simp (disch := omega) only [e0, hX.hm, hX.hx.P, e1, hX.hx.we, mx0, bd_some, gd_true, inR_nI, nI_clamp, nI_add, pk_mul, pk_sub, leT, leF, ltT, ltF, eqT, eqF, ite_true, ite_false, reduceIte, nz_nI, oc_s, oc_n, pk_div, pk_rem, m1F, L0, L1, L2, L3, L4, L5, L6, L7, L8, L9, L10, L11, L12, L19, L20, L24, L25, L27, L28, L30, L32, L37, L39, L40, L47, L48, L50, L55, L57, L60, L61, L63, L71, L80, L97, L99, L100, L120, L122, L128, L161, L17, L600, L1000000, L1024, L1408, isB0, isB1, subdm, inT, inFl, inFh, ug_same, ug_ug, ug_ne, ga_sae, ga_san, gi_sie, gi_sin, ga_si, gi_sa, gr_si, gr_sa, ga_sr, gi_sr, gr_sre]
        · show upd (ga R 1) i _ p = _
          rw [upd_if]
          by_cases e : p = i
          · rw [if_pos e, e, if_pos (by omega)]
          · rw [if_neg e, a1 p hp]
            by_cases e3 : p < i
            · rw [if_pos e3, if_pos (by omega)]
            · rw [if_neg e3, if_neg (by omega)]
        · show ga (sa R 1 _) k = _
          rw [ga_san hk]; exact a2 k hk) (by
        rintro ⟨k, q⟩ ⟨e, R, e2, a0, a1, a2, a3⟩
        dsimp only at e e2
        subst e
        subst e2
        have e0 : gr R 0 = 200 + n := by rw [a0]; exact hX.h
        have e6 : gi R 6 = nI (ch c) := by rw [a3]; exact hX.ho
        refine ⟨(ug g 1 (si (rZero R 2) 6 (nI (ch c + 1))), nI 1), ?_, rfl, _, rfl, a0, fun p hp => ?_, fun p hp => ?_, a2 3 (by decide), a2 4 (by decide), rfl, fun k hk => ?_⟩
        · show bX0_passHour_13 (ug g 1 R) (nI (hP v)) = _
          unfold bX0_passHour_13 bX0_passHour_56 rZero
          simp (disch := omega) only [e0, hX.hm, hX.hx.P, e6, bd_some, gd_true, inR_nI, nI_clamp, nI_add, pk_mul, pk_sub, leT, leF, ltT, ltF, eqT, eqF, ite_true, ite_false, reduceIte, nz_nI, oc_s, oc_n, pk_div, pk_rem, m1F, L0, L1, L2, L3, L4, L5, L6, L7, L8, L9, L10, L11, L12, L19, L20, L24, L25, L27, L28, L30, L32, L37, L39, L40, L47, L48, L50, L55, L57, L60, L61, L63, L71, L80, L97, L99, L100, L120, L122, L128, L161, L17, L600, L1000000, L1024, L1408, isB0, isB1, subdm, inT, inFl, inFh, ug_same, ug_ug, ug_ne, ga_sae, ga_san, gi_sie, gi_sin, ga_si, gi_sa, gr_si, gr_sa, ga_sr, gi_sr, gr_sre]
          rfl
        · show ga R 1 p = _
          rw [a1 p hp]
          by_cases e3 : p < hP v
          · rw [if_pos e3]
          · rw [if_neg e3, (ok.2.2.2.2.1 p (by omega)).1]; rfl
        · show (if p < 8 then nI 0 else _) = _
          rw [if_pos hp]
        · show gi (si _ 6 _) k = _
          rw [gi_sin hk]; exact a3 k) (s0 := (nI 0, g)) ⟨rfl, g 1, (ug_self g 1).symm, rfl, fun p hp => by rw [if_neg (by omega)]; exact hX.sh hp, fun _ _ => rfl, fun _ => rfl⟩
      obtain ⟨x1, x2⟩ := x
      obtain ⟨b0, R, b1, b2⟩ := h2
      dsimp only at b0 b1
      subst b0
      subst b1
      exact ⟨R, h1, b2⟩
    obtain ⟨R, x0, x1, x2, x3, x4, x5, x6, x7⟩ := hX'
    have hM' : ∃ r', fX10_goesOn r = some (r', nI 1) ∧ cM r' n v (hourC v c) ∧ FrM r r' := by
      unfold fX10_goesOn
      simp (disch := omega) only [hM.ho, bd_some, gd_true, inR_nI, nI_clamp, nI_add, pk_mul, pk_sub, leT, leF, ltT, ltF, eqT, eqF, ite_true, ite_false, reduceIte, nz_nI, oc_s, oc_n, pk_div, pk_rem, m1F, L0, L1, L2, L3, L4, L5, L6, L7, L8, L9, L10, L11, L12, L19, L20, L24, L25, L27, L28, L30, L32, L37, L39, L40, L47, L48, L50, L55, L57, L60, L61, L63, L71, L80, L97, L99, L100, L120, L122, L128, L161, L17, L600, L1000000, L1024, L1408, isB0, isB1, subdm, inT, inFl, inFh]
      obtain ⟨x, h1, h2⟩ := iter_loop (step := fun st : Int32 × Rec => bX10_goesOn_13 st.2 st.1) (fun i st => st.1 = nI i ∧ (∀ p, p < 8 → ga st.2 33 p = nI (if p < i then cs c p - hWe v p else cs c p)) ∧ (∀ p, p < i → ga st.2 34 p = nI 0) ∧ (∀ k, k ≠ 33 → k ≠ 34 → ga st.2 k = ga r k) ∧ (∀ k, gi st.2 k = gi r k)) (fun x => x.2 = nI 1 ∧ cM x.1 n v (hourC v c) ∧ FrM r x.1) 8 (by
        rintro i ⟨k, q⟩ hi ⟨e, a1, a2, a3, a4⟩
        dsimp only at e a1 a2 a3 a4
        subst e
        have h60 := (hC.1 i (by omega)).1
        have hw : hWe v i ≤ 9 := by
          by_cases e : i < hP v
          · exact we_le ok e
          · rw [(ok.2.2.2.2.1 i (by omega)).1]; omega
        have e1 : ga q 33 i = nI (cs c i) := by rw [a1 i (by omega), if_neg (by omega)]
        have ew : fX10_wear q (nI i) = some (nI (hWe v i)) := by
          unfold fX10_wear
          have := of_nI (r := q) (n := n) (a := 11 + i) (by rw [a4]; exact hM.2.1) hn (by omega)
          simp (disch := omega) only [this, bd_some, gd_true, inR_nI, nI_clamp, nI_add, pk_mul, pk_sub, leT, leF, ltT, ltF, eqT, eqF, ite_true, ite_false, reduceIte, nz_nI, oc_s, oc_n, pk_div, pk_rem, m1F, L0, L1, L2, L3, L4, L5, L6, L7, L8, L9, L10, L11, L12, L19, L20, L24, L25, L27, L28, L30, L32, L37, L39, L40, L47, L48, L50, L55, L57, L60, L61, L63, L71, L80, L97, L99, L100, L120, L122, L128, L161, L17, L600, L1000000, L1024, L1408, isB0, isB1, subdm, inT, inFl, inFh]
          rw [a3 6 (by decide) (by decide), ← Nat.add_assoc]
          exact congrArg some (hM.hm.2.2.2.2.1 i hi)
        refine ⟨(nI (i + 1), sa (sa q 33 (upd (ga q 33) i (nI (cs c i - hWe v i)))) 34 (upd (ga q 34) i (nI 0))), ?_, rfl, fun p hp => ?_, fun p hp => ?_, fun k k1 k2 => ?_, a4⟩
        · show bX10_goesOn_13 q (nI i) = _
          unfold bX10_goesOn_13
          simp (disch := omega) only [ew, e1, gr0, bd_some, gd_true, inR_nI, nI_clamp, nI_add, pk_mul, pk_sub, leT, leF, ltT, ltF, eqT, eqF, ite_true, ite_false, reduceIte, nz_nI, oc_s, oc_n, pk_div, pk_rem, m1F, L0, L1, L2, L3, L4, L5, L6, L7, L8, L9, L10, L11, L12, L19, L20, L24, L25, L27, L28, L30, L32, L37, L39, L40, L47, L48, L50, L55, L57, L60, L61, L63, L71, L80, L97, L99, L100, L120, L122, L128, L161, L17, L600, L1000000, L1024, L1408, isB0, isB1, subdm, inT, inFl, inFh, ug_same, ug_ug, ug_ne, ga_sae, ga_san, gi_sie, gi_sin, ga_si, gi_sa, gr_si, gr_sa, ga_sr, gi_sr, gr_sre]
        · show upd (ga q 33) i _ p = _
          rw [upd_if]
          by_cases e : p = i
          · rw [if_pos e, e, if_pos (by omega)]
          · rw [if_neg e, a1 p hp]
            by_cases e3 : p < i
            · rw [if_pos e3, if_pos (by omega)]
            · rw [if_neg e3, if_neg (by omega)]
        · show upd (ga q 34) i _ p = _
          rw [upd_if]
          by_cases e : p = i
          · rw [if_pos e]
          · rw [if_neg e]; exact a2 p (by omega)
        · show ga (sa (sa q 33 _) 34 _) k = _
          rw [ga_san k2, ga_san k1]; exact a3 k k1 k2) (by
        rintro ⟨k, q⟩ ⟨e, a1, a2, a3, a4⟩
        dsimp only at e a1 a2 a3 a4
        subst e
        have e30 : gi q 30 = nI (ch c) := by rw [a4]; exact hM.ho
        refine ⟨(si q 30 (nI (ch c + 1)), nI 1), ?_, rfl, ⟨hn, ?_, ?_, ?_, ?_, ?_, ?_, ?_, ?_, ?_, ?_⟩, ⟨fun k k1 k2 k3 => a3 k k2 k3, fun k k1 k2 k3 => ?_⟩⟩
        · show bX10_goesOn_13 q (nI 8) = _
          unfold bX10_goesOn_13 bX10_goesOn_54
          simp (disch := omega) only [e30, bd_some, gd_true, inR_nI, nI_clamp, nI_add, pk_mul, pk_sub, leT, leF, ltT, ltF, eqT, eqF, ite_true, ite_false, reduceIte, nz_nI, oc_s, oc_n, pk_div, pk_rem, m1F, L0, L1, L2, L3, L4, L5, L6, L7, L8, L9, L10, L11, L12, L19, L20, L24, L25, L27, L28, L30, L32, L37, L39, L40, L47, L48, L50, L55, L57, L60, L61, L63, L71, L80, L97, L99, L100, L120, L122, L128, L161, L17, L600, L1000000, L1024, L1408, isB0, isB1, subdm, inT, inFl, inFh, ug_same, ug_ug, ug_ne, ga_sae, ga_san, gi_sie, gi_sin, ga_si, gi_sa, gr_si, gr_sa, ga_sr, gi_sr, gr_sre]
          rfl
        · show gi q 25 = _; rw [a4]; exact hM.2.1
        · show gi q 26 = _; rw [a4]; exact hM.P
        · show gi q 27 = _; rw [a4]; exact hM.S
        · show HM (ga q 6) _ _; rw [a3 6 (by decide) (by decide)]; exact hM.hm
        · intro t ht; show ga q 33 t = _; rw [a1 t ht, if_pos ht]; rfl
        · exact a2
        · intro t ht; show ga q 28 t = _; rw [a3 28 (by decide) (by decide)]; exact hM.kn ht
        · show gi q 31 = _; rw [a4]; exact hM.st
        · rfl
        · show gi q 32 = _; rw [a4]; exact hM.gv
        · show gi (si q 30 _) k = _
          rw [gi_sin k1]; exact a4 k) (s0 := (nI 0, r)) ⟨rfl, fun p hp => by rw [if_neg (by omega)]; exact hM.sh hp, fun p hp => by omega, fun _ _ _ => rfl, fun _ => rfl⟩
      obtain ⟨x1, x2⟩ := x
      obtain ⟨b0, b1, b2⟩ := h2
      dsimp only at b0 b1 b2
      subst b0
      exact ⟨x1, h1, b1, b2⟩
    obtain ⟨r', y0, y1, y2⟩ := hM'
    refine ⟨_, r', nI 1, hourC v c, x0, y0, Or.inr rfl, ⟨hX.put x1 x2 x3 (fun q hq => by rw [x4]; exact hX.kn hq) (by rw [x7 5 (by decide)]; exact hX.st) x6 (by rw [x7 7 (by decide)]; exact hX.gv), y1, ⟨fun q hq => ⟨?_, ?_, (hC.1 q hq).2.2⟩, hC.2.1, ?_, fun q hq ht => ⟨?_, rfl⟩⟩⟩, FrX.put x1 x5 (fun k hk => x7 k (by omega)), y2⟩
    · show cs c q - hWe v q ≤ 60
      have := (hC.1 q hq).1
      omega
    · show 0 ≤ 5
      omega
    · show ch c + 1 ≤ 99
      omega
    · show cs c q - hWe v q = 0
      rw [(hC.2.2.2 q hq ht).1]
      omega
/-! stolen, and back -/
def stealC (p : Nat) (c : Cv) : Cv := (fun q => if q = p then 0 else cs c q, fun q => if q = p then 0 else cg c q, ck c, ct c ||| 2 ^ p, ch c, cv c)
def backC (p : Nat) (c : Cv) : Cv := (cs c, cg c, ck c, andn (ct c) (2 ^ p), ch c, cv c)
theorem bit_two (p k : Nat) : (2 ^ p : Nat).testBit k = decide (p = k) := by
  rw [Nat.testBit_two_pow]
theorem xor_or {t p : Nat} (h : t.testBit p = false) : t ^^^ 2 ^ p = t ||| 2 ^ p := by
  apply Nat.eq_of_testBit_eq
  intro i
  rw [Nat.testBit_xor, Nat.testBit_or, bit_two]
  by_cases e : p = i
  · subst e; rw [h]; simp
  · rw [decide_eq_false e]; cases t.testBit i <;> rfl
theorem xor_andn {t p : Nat} (h : t.testBit p = true) : t ^^^ 2 ^ p = andn t (2 ^ p) := by
  apply Nat.eq_of_testBit_eq
  intro i
  rw [Nat.testBit_xor, andn_bit, bit_two]
  by_cases e : p = i
  · subst e; rw [h]; simp
  · rw [decide_eq_false e]; cases t.testBit i <;> rfl
theorem takesM {r : Rec} {n : Nat} {v : Hv} {c : Cv} (hP8 : hP v ≤ 8) (hM : cM r n v c) (hC : cOK v c) {p : Nat} (hp : p < hP v) (hi : fX10_isPiece r (nI p) = some (nI 1)) (a : Bool) (ha : (ct c).testBit p = !a) {c' : Cv} (hc : c' = (fun q => if q = p then 0 else cs c q, fun q => if q = p then 0 else cg c q, ck c, ct c ^^^ 2 ^ p, ch c, cv c)) : ∃ r', fX10_takes r (nI p) (if a then nI 1 else nI 0) = some (r', nI 1) ∧ cM r' n v c' ∧ FrM r r' := by
  have hct := hC.2.1
  refine ⟨sa (sa (si r 31 (nI (ct c ^^^ 2 ^ p))) 33 (upd (ga r 33) p (nI 0))) 34 (upd (ga r 34) p (nI 0)), ?_, ?_, ⟨fun k k1 k2 k3 => by rw [ga_san k3, ga_san k2, ga_si], fun k k1 k2 k3 => by rw [gi_sa, gi_sa, gi_sin k2]⟩⟩
  · unfold fX10_takes
    cases a
    · have ha : (ct c).testBit p = true := ha
      simp (disch := omega) only [hi, hM.st, has_nI, ha, L31, shl_T, xor_nI, Bool.false_eq_true, bd_some, gd_true, inR_nI, nI_clamp, nI_add, pk_mul, pk_sub, leT, leF, ltT, ltF, eqT, eqF, ite_true, ite_false, reduceIte, nz_nI, oc_s, oc_n, pk_div, pk_rem, m1F, L0, L1, L2, L3, L4, L5, L6, L7, L8, L9, L10, L11, L12, L19, L20, L24, L25, L27, L28, L30, L32, L37, L39, L40, L47, L48, L50, L55, L57, L60, L61, L63, L71, L80, L97, L99, L100, L120, L122, L128, L161, L17, L600, L1000000, L1024, L1408, isB0, isB1, subdm, inT, inFl, inFh, ug_same, ug_ug, ug_ne, ga_sae, ga_san, gi_sie, gi_sin, ga_si, gi_sa, gr_si, gr_sa, ga_sr, gi_sr, gr_sre]
    · have ha : (ct c).testBit p = false := ha
      simp (disch := omega) only [hi, hM.st, has_nI, ha, L31, shl_T, xor_nI, Bool.false_eq_true, bd_some, gd_true, inR_nI, nI_clamp, nI_add, pk_mul, pk_sub, leT, leF, ltT, ltF, eqT, eqF, ite_true, ite_false, reduceIte, nz_nI, oc_s, oc_n, pk_div, pk_rem, m1F, L0, L1, L2, L3, L4, L5, L6, L7, L8, L9, L10, L11, L12, L19, L20, L24, L25, L27, L28, L30, L32, L37, L39, L40, L47, L48, L50, L55, L57, L60, L61, L63, L71, L80, L97, L99, L100, L120, L122, L128, L161, L17, L600, L1000000, L1024, L1408, isB0, isB1, subdm, inT, inFl, inFh, ug_same, ug_ug, ug_ne, ga_sae, ga_san, gi_sie, gi_sin, ga_si, gi_sa, gr_si, gr_sa, ga_sr, gi_sr, gr_sre]
  · subst hc
    refine ⟨hM.1, hM.2.1, hM.P, hM.S, hM.hm, fun q hq => ?_, fun q hq => ?_, fun q hq => hM.kn hq, rfl, hM.ho, hM.gv⟩
    · show upd (ga r 33) p (nI 0) q = nI (if q = p then 0 else cs c q)
      rw [upd_if]
      by_cases e : q = p
      · rw [if_pos e, if_pos e]
      · rw [if_neg e, if_neg e]; exact hM.sh hq
    · show upd (ga r 34) p (nI 0) q = nI (if q = p then 0 else cg c q)
      rw [upd_if]
      by_cases e : q = p
      · rw [if_pos e, if_pos e]
      · rw [if_neg e, if_neg e]; exact hM.gl hq
theorem steal_step {g : Gs} {r : Rec} {n : Nat} {v : Hv} {c : Cv} (ok : HvOK v) (h : Co g r n v c) (y : Int32) : StepOK g r n v (fX0_stealOne g y) (fX10_takes r y (nI 1)) := by
  obtain ⟨hX, hM, hC⟩ := id h
  have hP8 := ok.1
  have hct := hC.2.1
  rcases piece_cases hX.hx.P hM.P hP8 y with ⟨p1, p2⟩ | ⟨p, hp, rfl, p1, p2⟩
  · refine StepOK.no h ?_ ?_
    · unfold fX0_stealOne fX0_isThere; simp (disch := omega) only [hX.h, hX.hm, p1, bd_some, gd_true, inR_nI, nI_clamp, nI_add, pk_mul, pk_sub, leT, leF, ltT, ltF, eqT, eqF, ite_true, ite_false, reduceIte, nz_nI, oc_s, oc_n, pk_div, pk_rem, m1F, L0, L1, L2, L3, L4, L5, L6, L7, L8, L9, L10, L11, L12, L19, L20, L24, L25, L27, L28, L30, L32, L37, L39, L40, L47, L48, L50, L55, L57, L60, L61, L63, L71, L80, L97, L99, L100, L120, L122, L128, L161, L17, L600, L1000000, L1024, L1408, isB0, isB1, subdm, inT, inFl, inFh]
    · unfold fX10_takes; simp (disch := omega) only [p2, bd_some, gd_true, inR_nI, nI_clamp, nI_add, pk_mul, pk_sub, leT, leF, ltT, ltF, eqT, eqF, ite_true, ite_false, reduceIte, nz_nI, oc_s, oc_n, pk_div, pk_rem, m1F, L0, L1, L2, L3, L4, L5, L6, L7, L8, L9, L10, L11, L12, L19, L20, L24, L25, L27, L28, L30, L32, L37, L39, L40, L47, L48, L50, L55, L57, L60, L61, L63, L71, L80, L97, L99, L100, L120, L122, L128, L161, L17, L600, L1000000, L1024, L1408, isB0, isB1, subdm, inT, inFl, inFh]
  · cases b : (ct c).testBit p
    · obtain ⟨r', m1, m2, m3⟩ := takesM hP8 hM hC hp p2 true b (c' := stealC p c) (by unfold stealC; rw [xor_or b])
      refine ⟨ug g 1 (sa (sa (si (g 1) 5 (nI (ct c ||| 2 ^ p))) 1 (upd (ga (g 1) 1) p (nI 0))) 2 (upd (ga (g 1) 2) p (nI 0))), r', nI 1, stealC p c, ?_, m1, Or.inr rfl, ⟨hX.put rfl (fun q hq => ?_) (fun q hq => ?_) (fun q hq => hX.kn hq) rfl hX.ho hX.gv, m2, ⟨fun q hq => ⟨?_, ?_, (hC.1 q hq).2.2⟩, ?_, hC.2.2.1, fun q hq ht => ?_⟩⟩, FrX.put rfl rfl (fun k hk => ?_), m3⟩
      · unfold fX0_stealOne fX0_isThere
        simp (disch := omega) only [hX.h, hX.hm, p1, hX.st, hasBit_nI, b, L31, shl_T, or_nI, Bool.false_eq_true, bd_some, gd_true, inR_nI, nI_clamp, nI_add, pk_mul, pk_sub, leT, leF, ltT, ltF, eqT, eqF, ite_true, ite_false, reduceIte, nz_nI, oc_s, oc_n, pk_div, pk_rem, m1F, L0, L1, L2, L3, L4, L5, L6, L7, L8, L9, L10, L11, L12, L19, L20, L24, L25, L27, L28, L30, L32, L37, L39, L40, L47, L48, L50, L55, L57, L60, L61, L63, L71, L80, L97, L99, L100, L120, L122, L128, L161, L17, L600, L1000000, L1024, L1408, isB0, isB1, subdm, inT, inFl, inFh, ug_same, ug_ug, ug_ne, ga_sae, ga_san, gi_sie, gi_sin, ga_si, gi_sa, gr_si, gr_sa, ga_sr, gi_sr, gr_sre]
      · show upd (ga (g 1) 1) p (nI 0) q = nI (if q = p then 0 else cs c q)
        rw [upd_if]
        by_cases e : q = p
        · rw [if_pos e, if_pos e]
        · rw [if_neg e, if_neg e]; exact hX.sh hq
      · show upd (ga (g 1) 2) p (nI 0) q = nI (if q = p then 0 else cg c q)
        rw [upd_if]
        by_cases e : q = p
        · rw [if_pos e, if_pos e]
        · rw [if_neg e, if_neg e]; exact hX.gl hq
      · show (if q = p then 0 else cs c q) ≤ 60
        have := (hC.1 q hq).1
        split <;> omega
      · show (if q = p then 0 else cg c q) ≤ 5
        have := (hC.1 q hq).2.1
        split <;> omega
      · exact Nat.or_lt_two_pow hct (Nat.pow_lt_pow_right (by decide) (by omega))
      · show (if q = p then 0 else cs c q) = 0 ∧ (if q = p then 0 else cg c q) = 0
        by_cases e : q = p
        · rw [if_pos e, if_pos e]; exact ⟨rfl, rfl⟩
        · rw [if_neg e, if_neg e]
          have h2 : (ct c ||| 2 ^ p).testBit q = true := ht
          rw [Nat.testBit_or, bit_two, decide_eq_false (fun e2 => e e2.symm), Bool.or_false] at h2
          exact hC.2.2.2 q hq h2
      · show gi (si (g 1) 5 _) k = _
        rw [gi_sin (by omega)]
    · refine StepOK.no h ?_ ?_
      · unfold fX0_stealOne fX0_isThere; simp (disch := omega) only [hX.h, hX.hm, p1, hX.st, hasBit_nI, b, bd_some, gd_true, inR_nI, nI_clamp, nI_add, pk_mul, pk_sub, leT, leF, ltT, ltF, eqT, eqF, ite_true, ite_false, reduceIte, nz_nI, oc_s, oc_n, pk_div, pk_rem, m1F, L0, L1, L2, L3, L4, L5, L6, L7, L8, L9, L10, L11, L12, L19, L20, L24, L25, L27, L28, L30, L32, L37, L39, L40, L47, L48, L50, L55, L57, L60, L61, L63, L71, L80, L97, L99, L100, L120, L122, L128, L161, L17, L600, L1000000, L1024, L1408, isB0, isB1, subdm, inT, inFl, inFh]
      · unfold fX10_takes; simp (disch := omega) only [p2, hM.st, has_nI, b, bd_some, gd_true, inR_nI, nI_clamp, nI_add, pk_mul, pk_sub, leT, leF, ltT, ltF, eqT, eqF, ite_true, ite_false, reduceIte, nz_nI, oc_s, oc_n, pk_div, pk_rem, m1F, L0, L1, L2, L3, L4, L5, L6, L7, L8, L9, L10, L11, L12, L19, L20, L24, L25, L27, L28, L30, L32, L37, L39, L40, L47, L48, L50, L55, L57, L60, L61, L63, L71, L80, L97, L99, L100, L120, L122, L128, L161, L17, L600, L1000000, L1024, L1408, isB0, isB1, subdm, inT, inFl, inFh]
theorem back_step {g : Gs} {r : Rec} {n : Nat} {v : Hv} {c : Cv} (ok : HvOK v) (h : Co g r n v c) (y : Int32) : StepOK g r n v (fX0_bringBack g y) (fX10_takes r y (nI 0)) := by
  obtain ⟨hX, hM, hC⟩ := id h
  have hP8 := ok.1
  have hct := hC.2.1
  rcases piece_cases hX.hx.P hM.P hP8 y with ⟨p1, p2⟩ | ⟨p, hp, rfl, p1, p2⟩
  · refine StepOK.no h ?_ ?_
    · unfold fX0_bringBack; simp (disch := omega) only [hX.h, hX.hm, p1, bd_some, gd_true, inR_nI, nI_clamp, nI_add, pk_mul, pk_sub, leT, leF, ltT, ltF, eqT, eqF, ite_true, ite_false, reduceIte, nz_nI, oc_s, oc_n, pk_div, pk_rem, m1F, L0, L1, L2, L3, L4, L5, L6, L7, L8, L9, L10, L11, L12, L19, L20, L24, L25, L27, L28, L30, L32, L37, L39, L40, L47, L48, L50, L55, L57, L60, L61, L63, L71, L80, L97, L99, L100, L120, L122, L128, L161, L17, L600, L1000000, L1024, L1408, isB0, isB1, subdm, inT, inFl, inFh]
    · unfold fX10_takes; simp (disch := omega) only [p2, bd_some, gd_true, inR_nI, nI_clamp, nI_add, pk_mul, pk_sub, leT, leF, ltT, ltF, eqT, eqF, ite_true, ite_false, reduceIte, nz_nI, oc_s, oc_n, pk_div, pk_rem, m1F, L0, L1, L2, L3, L4, L5, L6, L7, L8, L9, L10, L11, L12, L19, L20, L24, L25, L27, L28, L30, L32, L37, L39, L40, L47, L48, L50, L55, L57, L60, L61, L63, L71, L80, L97, L99, L100, L120, L122, L128, L161, L17, L600, L1000000, L1024, L1408, isB0, isB1, subdm, inT, inFl, inFh]
  · cases b : (ct c).testBit p
    · refine StepOK.no h ?_ ?_
      · unfold fX0_bringBack; simp (disch := omega) only [hX.h, hX.hm, p1, hX.st, hasBit_nI, b, Bool.false_eq_true, bd_some, gd_true, inR_nI, nI_clamp, nI_add, pk_mul, pk_sub, leT, leF, ltT, ltF, eqT, eqF, ite_true, ite_false, reduceIte, nz_nI, oc_s, oc_n, pk_div, pk_rem, m1F, L0, L1, L2, L3, L4, L5, L6, L7, L8, L9, L10, L11, L12, L19, L20, L24, L25, L27, L28, L30, L32, L37, L39, L40, L47, L48, L50, L55, L57, L60, L61, L63, L71, L80, L97, L99, L100, L120, L122, L128, L161, L17, L600, L1000000, L1024, L1408, isB0, isB1, subdm, inT, inFl, inFh]
      · unfold fX10_takes; simp (disch := omega) only [p2, hM.st, has_nI, b, Bool.false_eq_true, bd_some, gd_true, inR_nI, nI_clamp, nI_add, pk_mul, pk_sub, leT, leF, ltT, ltF, eqT, eqF, ite_true, ite_false, reduceIte, nz_nI, oc_s, oc_n, pk_div, pk_rem, m1F, L0, L1, L2, L3, L4, L5, L6, L7, L8, L9, L10, L11, L12, L19, L20, L24, L25, L27, L28, L30, L32, L37, L39, L40, L47, L48, L50, L55, L57, L60, L61, L63, L71, L80, L97, L99, L100, L120, L122, L128, L161, L17, L600, L1000000, L1024, L1408, isB0, isB1, subdm, inT, inFl, inFh]
    · have hz := hC.2.2.2 p (by omega) b
      obtain ⟨r', m1, m2, m3⟩ := takesM hP8 hM hC hp p2 false b (c' := backC p c) (by
        unfold backC
        rw [xor_andn b]
        have e1 : (fun q => if q = p then 0 else cs c q) = cs c := by
          funext q
          by_cases e : q = p
          · rw [if_pos e, e, hz.1]
          · rw [if_neg e]
        have e2 : (fun q => if q = p then 0 else cg c q) = cg c := by
          funext q
          by_cases e : q = p
          · rw [if_pos e, e, hz.2]
          · rw [if_neg e]
        rw [e1, e2])
      have hle : andn (ct c) (2 ^ p) ≤ ct c := Nat.and_le_left
      refine ⟨ug g 1 (si (g 1) 5 (nI (andn (ct c) (2 ^ p)))), r', nI 1, backC p c, ?_, m1, Or.inr rfl, ⟨hX.put rfl (fun q hq => hX.sh hq) (fun q hq => hX.gl hq) (fun q hq => hX.kn hq) rfl hX.ho hX.gv, m2, ⟨hC.1, ?_, hC.2.2.1, fun q hq ht => ?_⟩⟩, FrX.put rfl rfl (fun k hk => ?_), m3⟩
      · unfold fX0_bringBack
        simp (disch := omega) only [hX.h, hX.hm, p1, hX.st, hasBit_nI, b, L31, shl_T, andn_nI, bd_some, gd_true, inR_nI, nI_clamp, nI_add, pk_mul, pk_sub, leT, leF, ltT, ltF, eqT, eqF, ite_true, ite_false, reduceIte, nz_nI, oc_s, oc_n, pk_div, pk_rem, m1F, L0, L1, L2, L3, L4, L5, L6, L7, L8, L9, L10, L11, L12, L19, L20, L24, L25, L27, L28, L30, L32, L37, L39, L40, L47, L48, L50, L55, L57, L60, L61, L63, L71, L80, L97, L99, L100, L120, L122, L128, L161, L17, L600, L1000000, L1024, L1408, isB0, isB1, subdm, inT, inFl, inFh, ug_same, ug_ug, ug_ne, ga_sae, ga_san, gi_sie, gi_sin, ga_si, gi_sa, gr_si, gr_sa, ga_sr, gi_sr, gr_sre]
      · show andn (ct c) (2 ^ p) < 2 ^ 8
        omega
      · have h2 : (andn (ct c) (2 ^ p)).testBit q = true := ht
        rw [andn_bit, Bool.and_eq_true] at h2
        exact hC.2.2.2 q hq h2.1
      · show gi (si (g 1) 5 _) k = _
        rw [gi_sin (by omega)]
