theorem eO_s (b : Nat) : eO (some b) = nI b := rfl
theorem fw_s (b : Nat) : fw (some b) = pc b := rfl
theorem fewestKept_nI {h : Rec} {v : Hv} (ok : HvOK v) (hx : HX h v) {s : Nat} (hs : s < hS v) : fX2_fewestKept h (nI s) = some (eO (kpN v s false (2 ^ hS v))) := by
  have hpS := pS ok
  have hS10 := ok.2.1
  unfold fX2_fewestKept
  refine loopO (step := fun st : Int32 × Int32 × Int32 => bX2_fewestKept_8 h (nI s) st.1 st.2.1 st.2.2) (fun i => (eO (kpN v s false i), nI (fw (kpN v s false i)), nI i)) (2 ^ hS v) (fun i hi => ?_) ?_
  · show bX2_fewestKept_8 h (nI s) (eO (kpN v s false i)) (nI (fw (kpN v s false i))) (nI i) = some (.inl (eO (if pc i < fw (kpN v s false i) ∧ kpC v s false i = true then some i else kpN v s false i), nI (fw (if pc i < fw (kpN v s false i) ∧ kpC v s false i = true then some i else kpN v s false i)), nI (i + 1)))
    generalize kpN v s false i = c
    have hf := fw_le c
    have hp := pc_le i
    have hal := andn_lt (b := i) (all_lt (v := v))
    have hc := clo_lt ok (wo := 8) hal
    unfold bX2_fewestKept_8 bX2_fewestKept_66
    by_cases q : pc i < fw c
    · cases b1 : i.testBit s
      · have e : kpC v s false i = false := by unfold kpC; rw [b1]; rfl
        simp (disch := omega) only [secretSets_nI ok hx, bitCount_nI, hasBit_nI, b1, e, Bool.false_eq_true, and_false, bd_some, gd_true, inR_nI, nI_clamp, nI_add, pk_mul, pk_sub, leT, leF, ltT, ltF, eqT, eqF, ite_true, ite_false, reduceIte, nz_nI, oc_s, oc_n, pk_div, pk_rem, m1F, L0, L1, L2, L3, L4, L5, L6, L7, L8, L9, L10, L11, L12, L19, L20, L24, L25, L27, L28, L30, L32, L37, L39, L40, L47, L48, L50, L55, L57, L60, L61, L63, L71, L80, L97, L99, L100, L120, L122, L128, L161, L17, L600, L1000000, L1024, L1408, isB0, isB1, subdm, inT, inFl, inFh]
      · cases b2 : (clo v 8 (andn (2 ^ hS v - 1) i)).testBit s
        · have e : kpC v s false i = true := by unfold kpC; rw [b1, b2]; rfl
          simp (disch := omega) only [secretSets_nI ok hx, bitCount_nI, hasBit_nI, b1, b2, e, Bool.false_eq_true, q, and_self, allSecrets_nI ok hx, andn_nI, closure_nI ok hx Lo.none hal, eO_s, fw_s, bd_some, gd_true, inR_nI, nI_clamp, nI_add, pk_mul, pk_sub, leT, leF, ltT, ltF, eqT, eqF, ite_true, ite_false, reduceIte, nz_nI, oc_s, oc_n, pk_div, pk_rem, m1F, L0, L1, L2, L3, L4, L5, L6, L7, L8, L9, L10, L11, L12, L19, L20, L24, L25, L27, L28, L30, L32, L37, L39, L40, L47, L48, L50, L55, L57, L60, L61, L63, L71, L80, L97, L99, L100, L120, L122, L128, L161, L17, L600, L1000000, L1024, L1408, isB0, isB1, subdm, inT, inFl, inFh]
        · have e : kpC v s false i = false := by unfold kpC; rw [b1, b2]; rfl
          simp (disch := omega) only [secretSets_nI ok hx, bitCount_nI, hasBit_nI, b1, b2, e, Bool.false_eq_true, and_false, allSecrets_nI ok hx, andn_nI, closure_nI ok hx Lo.none hal, bd_some, gd_true, inR_nI, nI_clamp, nI_add, pk_mul, pk_sub, leT, leF, ltT, ltF, eqT, eqF, ite_true, ite_false, reduceIte, nz_nI, oc_s, oc_n, pk_div, pk_rem, m1F, L0, L1, L2, L3, L4, L5, L6, L7, L8, L9, L10, L11, L12, L19, L20, L24, L25, L27, L28, L30, L32, L37, L39, L40, L47, L48, L50, L55, L57, L60, L61, L63, L71, L80, L97, L99, L100, L120, L122, L128, L161, L17, L600, L1000000, L1024, L1408, isB0, isB1, subdm, inT, inFl, inFh]
    · simp (disch := omega) only [secretSets_nI ok hx, bitCount_nI, q, false_and, bd_some, gd_true, inR_nI, nI_clamp, nI_add, pk_mul, pk_sub, leT, leF, ltT, ltF, eqT, eqF, ite_true, ite_false, reduceIte, nz_nI, oc_s, oc_n, pk_div, pk_rem, m1F, L0, L1, L2, L3, L4, L5, L6, L7, L8, L9, L10, L11, L12, L19, L20, L24, L25, L27, L28, L30, L32, L37, L39, L40, L47, L48, L50, L55, L57, L60, L61, L63, L71, L80, L97, L99, L100, L120, L122, L128, L161, L17, L600, L1000000, L1024, L1408, isB0, isB1, subdm, inT, inFl, inFh]
  · show bX2_fewestKept_8 h (nI s) _ _ (nI (2 ^ hS v)) = _
    unfold bX2_fewestKept_8
    simp (disch := omega) only [secretSets_nI ok hx, bd_some, gd_true, inR_nI, nI_clamp, nI_add, pk_mul, pk_sub, leT, leF, ltT, ltF, eqT, eqF, ite_true, ite_false, reduceIte, nz_nI, oc_s, oc_n, pk_div, pk_rem, m1F, L0, L1, L2, L3, L4, L5, L6, L7, L8, L9, L10, L11, L12, L19, L20, L24, L25, L27, L28, L30, L32, L37, L39, L40, L47, L48, L50, L55, L57, L60, L61, L63, L71, L80, L97, L99, L100, L120, L122, L128, L161, L17, L600, L1000000, L1024, L1408, isB0, isB1, subdm, inT, inFl, inFh]
    all_goals rfl
theorem fewestGiving_nI {h : Rec} {v : Hv} (ok : HvOK v) (hx : HX h v) {s : Nat} (hs : s < hS v) : fX2_fewestGiving h (nI s) = some (eO (kpN v s true (2 ^ hS v))) := by
  have hpS := pS ok
  have hS10 := ok.2.1
  unfold fX2_fewestGiving
  refine loopO (step := fun st : Int32 × Int32 × Int32 => bX2_fewestGiving_8 h (nI s) st.1 st.2.1 st.2.2) (fun i => (eO (kpN v s true i), nI (fw (kpN v s true i)), nI i)) (2 ^ hS v) (fun i hi => ?_) ?_
  · show bX2_fewestGiving_8 h (nI s) (eO (kpN v s true i)) (nI (fw (kpN v s true i))) (nI i) = some (.inl (eO (if pc i < fw (kpN v s true i) ∧ kpC v s true i = true then some i else kpN v s true i), nI (fw (if pc i < fw (kpN v s true i) ∧ kpC v s true i = true then some i else kpN v s true i)), nI (i + 1)))
    generalize kpN v s true i = c
    have hf := fw_le c
    have hp := pc_le i
    have hc := clo_lt ok (wo := 8) hi
    unfold bX2_fewestGiving_8 bX2_fewestGiving_59
    by_cases q : pc i < fw c
    · cases b1 : i.testBit s
      · cases b2 : (clo v 8 i).testBit s
        · have e : kpC v s true i = false := by unfold kpC; rw [b1, b2]; rfl
          simp (disch := omega) only [secretSets_nI ok hx, bitCount_nI, hasBit_nI, b1, b2, e, Bool.false_eq_true, and_false, closure_nI ok hx Lo.none hi, bd_some, gd_true, inR_nI, nI_clamp, nI_add, pk_mul, pk_sub, leT, leF, ltT, ltF, eqT, eqF, ite_true, ite_false, reduceIte, nz_nI, oc_s, oc_n, pk_div, pk_rem, m1F, L0, L1, L2, L3, L4, L5, L6, L7, L8, L9, L10, L11, L12, L19, L20, L24, L25, L27, L28, L30, L32, L37, L39, L40, L47, L48, L50, L55, L57, L60, L61, L63, L71, L80, L97, L99, L100, L120, L122, L128, L161, L17, L600, L1000000, L1024, L1408, isB0, isB1, subdm, inT, inFl, inFh]
        · have e : kpC v s true i = true := by unfold kpC; rw [b1, b2]; rfl
          simp (disch := omega) only [secretSets_nI ok hx, bitCount_nI, hasBit_nI, b1, b2, e, Bool.false_eq_true, q, and_self, closure_nI ok hx Lo.none hi, eO_s, fw_s, bd_some, gd_true, inR_nI, nI_clamp, nI_add, pk_mul, pk_sub, leT, leF, ltT, ltF, eqT, eqF, ite_true, ite_false, reduceIte, nz_nI, oc_s, oc_n, pk_div, pk_rem, m1F, L0, L1, L2, L3, L4, L5, L6, L7, L8, L9, L10, L11, L12, L19, L20, L24, L25, L27, L28, L30, L32, L37, L39, L40, L47, L48, L50, L55, L57, L60, L61, L63, L71, L80, L97, L99, L100, L120, L122, L128, L161, L17, L600, L1000000, L1024, L1408, isB0, isB1, subdm, inT, inFl, inFh]
      · have e : kpC v s true i = false := by unfold kpC; rw [b1]; rfl
        simp (disch := omega) only [secretSets_nI ok hx, bitCount_nI, hasBit_nI, b1, e, Bool.false_eq_true, and_false, bd_some, gd_true, inR_nI, nI_clamp, nI_add, pk_mul, pk_sub, leT, leF, ltT, ltF, eqT, eqF, ite_true, ite_false, reduceIte, nz_nI, oc_s, oc_n, pk_div, pk_rem, m1F, L0, L1, L2, L3, L4, L5, L6, L7, L8, L9, L10, L11, L12, L19, L20, L24, L25, L27, L28, L30, L32, L37, L39, L40, L47, L48, L50, L55, L57, L60, L61, L63, L71, L80, L97, L99, L100, L120, L122, L128, L161, L17, L600, L1000000, L1024, L1408, isB0, isB1, subdm, inT, inFl, inFh]
    · simp (disch := omega) only [secretSets_nI ok hx, bitCount_nI, q, false_and, bd_some, gd_true, inR_nI, nI_clamp, nI_add, pk_mul, pk_sub, leT, leF, ltT, ltF, eqT, eqF, ite_true, ite_false, reduceIte, nz_nI, oc_s, oc_n, pk_div, pk_rem, m1F, L0, L1, L2, L3, L4, L5, L6, L7, L8, L9, L10, L11, L12, L19, L20, L24, L25, L27, L28, L30, L32, L37, L39, L40, L47, L48, L50, L55, L57, L60, L61, L63, L71, L80, L97, L99, L100, L120, L122, L128, L161, L17, L600, L1000000, L1024, L1408, isB0, isB1, subdm, inT, inFl, inFh]
  · show bX2_fewestGiving_8 h (nI s) _ _ (nI (2 ^ hS v)) = _
    unfold bX2_fewestGiving_8
    simp (disch := omega) only [secretSets_nI ok hx, bd_some, gd_true, inR_nI, nI_clamp, nI_add, pk_mul, pk_sub, leT, leF, ltT, ltF, eqT, eqF, ite_true, ite_false, reduceIte, nz_nI, oc_s, oc_n, pk_div, pk_rem, m1F, L0, L1, L2, L3, L4, L5, L6, L7, L8, L9, L10, L11, L12, L19, L20, L24, L25, L27, L28, L30, L32, L37, L39, L40, L47, L48, L50, L55, L57, L60, L61, L63, L71, L80, L97, L99, L100, L120, L122, L128, L161, L17, L600, L1000000, L1024, L1408, isB0, isB1, subdm, inT, inFl, inFh]
    all_goals rfl
theorem keepM0 {r : Rec} {n : Nat} {v : Hv} (ok : HvOK v) (hd : Hd r n v) {s : Nat} (hs : s < hS v) : iter (fun st : Int32 × Int32 => bX10_keep__29 r (nI s) (nI 0) st.1 st.2) (-nI 1, nI 0) = some (r, eO (kpN v s false (2 ^ hS v))) := by
  have hpS := pS ok
  have hS10 := ok.2.1
  have hp1 := p1 (hS v)
  refine loopO (step := fun st : Int32 × Int32 => bX10_keep__29 r (nI s) (nI 0) st.1 st.2) (fun i => (eO (kpN v s false i), nI i)) (2 ^ hS v) (fun i hi => ?_) ?_
  · show bX10_keep__29 r (nI s) (nI 0) (eO (kpN v s false i)) (nI i) = some (.inl (eO (if pc i < fw (kpN v s false i) ∧ kpC v s false i = true then some i else kpN v s false i), nI (i + 1)))
    have hlt := kpN_lt (v := v) (s := s) (f := false) i
    generalize kpN v s false i = c at hlt ⊢
    have hf := fw_le c
    have hp := pc_le i
    have hal := andn_lt (b := i) (all_lt (v := v))
    have hc := clo_lt ok (wo := 8) hal
    unfold bX10_keep__29 bX10_keep__71 bX10_keep__67 bX10_keep__72 bX10_keep__98 bX10_keep__114
    cases b1 : i.testBit s
    · have e : kpC v s false i = false := by unfold kpC; rw [b1]; rfl
      simp (disch := omega) only [everything_nI ok hd, has_nI, b1, e, Bool.false_eq_true, and_false, bd_some, gd_true, inR_nI, nI_clamp, nI_add, pk_mul, pk_sub, leT, leF, ltT, ltF, eqT, eqF, ite_true, ite_false, reduceIte, nz_nI, oc_s, oc_n, pk_div, pk_rem, m1F, L0, L1, L2, L3, L4, L5, L6, L7, L8, L9, L10, L11, L12, L19, L20, L24, L25, L27, L28, L30, L32, L37, L39, L40, L47, L48, L50, L55, L57, L60, L61, L63, L71, L80, L97, L99, L100, L120, L122, L128, L161, L17, L600, L1000000, L1024, L1408, isB0, isB1, subdm, inT, inFl, inFh]
    · cases b2 : (clo v 8 (andn (2 ^ hS v - 1) i)).testBit s
      · have e : kpC v s false i = true := by unfold kpC; rw [b1, b2]; rfl
        rcases c with _ | b
        · have q : pc i < fw none := by show pc i < 11; omega
          simp (disch := omega) only [everything_nI ok hd, has_nI, b1, b2, e, Bool.false_eq_true, q, and_self, eO, andn_nI, comesOf_nI ok hd Lo.none hal, bd_some, gd_true, inR_nI, nI_clamp, nI_add, pk_mul, pk_sub, leT, leF, ltT, ltF, eqT, eqF, ite_true, ite_false, reduceIte, nz_nI, oc_s, oc_n, pk_div, pk_rem, m1F, L0, L1, L2, L3, L4, L5, L6, L7, L8, L9, L10, L11, L12, L19, L20, L24, L25, L27, L28, L30, L32, L37, L39, L40, L47, L48, L50, L55, L57, L60, L61, L63, L71, L80, L97, L99, L100, L120, L122, L128, L161, L17, L600, L1000000, L1024, L1408, isB0, isB1, subdm, inT, inFl, inFh]
        · have hb := hlt b rfl
          have hpb := pc_le b
          by_cases q : pc i < pc b
          · have q' : pc i < fw (some b) := q
            simp (disch := omega) only [everything_nI ok hd, has_nI, b1, b2, e, Bool.false_eq_true, q', and_self, eO, ones_nI, andn_nI, comesOf_nI ok hd Lo.none hal, bd_some, gd_true, inR_nI, nI_clamp, nI_add, pk_mul, pk_sub, leT, leF, ltT, ltF, eqT, eqF, ite_true, ite_false, reduceIte, nz_nI, oc_s, oc_n, pk_div, pk_rem, m1F, L0, L1, L2, L3, L4, L5, L6, L7, L8, L9, L10, L11, L12, L19, L20, L24, L25, L27, L28, L30, L32, L37, L39, L40, L47, L48, L50, L55, L57, L60, L61, L63, L71, L80, L97, L99, L100, L120, L122, L128, L161, L17, L600, L1000000, L1024, L1408, isB0, isB1, subdm, inT, inFl, inFh]
          · have q' : ¬ pc i < fw (some b) := q
            simp (disch := omega) only [everything_nI ok hd, has_nI, b1, q', false_and, eO, ones_nI, bd_some, gd_true, inR_nI, nI_clamp, nI_add, pk_mul, pk_sub, leT, leF, ltT, ltF, eqT, eqF, ite_true, ite_false, reduceIte, nz_nI, oc_s, oc_n, pk_div, pk_rem, m1F, L0, L1, L2, L3, L4, L5, L6, L7, L8, L9, L10, L11, L12, L19, L20, L24, L25, L27, L28, L30, L32, L37, L39, L40, L47, L48, L50, L55, L57, L60, L61, L63, L71, L80, L97, L99, L100, L120, L122, L128, L161, L17, L600, L1000000, L1024, L1408, isB0, isB1, subdm, inT, inFl, inFh]
      · have e : kpC v s false i = false := by unfold kpC; rw [b1, b2]; rfl
        rcases c with _ | b
        · simp (disch := omega) only [everything_nI ok hd, has_nI, b1, b2, e, Bool.false_eq_true, and_false, eO, andn_nI, comesOf_nI ok hd Lo.none hal, bd_some, gd_true, inR_nI, nI_clamp, nI_add, pk_mul, pk_sub, leT, leF, ltT, ltF, eqT, eqF, ite_true, ite_false, reduceIte, nz_nI, oc_s, oc_n, pk_div, pk_rem, m1F, L0, L1, L2, L3, L4, L5, L6, L7, L8, L9, L10, L11, L12, L19, L20, L24, L25, L27, L28, L30, L32, L37, L39, L40, L47, L48, L50, L55, L57, L60, L61, L63, L71, L80, L97, L99, L100, L120, L122, L128, L161, L17, L600, L1000000, L1024, L1408, isB0, isB1, subdm, inT, inFl, inFh]
        · have hb := hlt b rfl
          have hpb := pc_le b
          by_cases q : pc i < pc b
          · simp (disch := omega) only [everything_nI ok hd, has_nI, b1, b2, e, Bool.false_eq_true, and_false, eO, ones_nI, andn_nI, comesOf_nI ok hd Lo.none hal, bd_some, gd_true, inR_nI, nI_clamp, nI_add, pk_mul, pk_sub, leT, leF, ltT, ltF, eqT, eqF, ite_true, ite_false, reduceIte, nz_nI, oc_s, oc_n, pk_div, pk_rem, m1F, L0, L1, L2, L3, L4, L5, L6, L7, L8, L9, L10, L11, L12, L19, L20, L24, L25, L27, L28, L30, L32, L37, L39, L40, L47, L48, L50, L55, L57, L60, L61, L63, L71, L80, L97, L99, L100, L120, L122, L128, L161, L17, L600, L1000000, L1024, L1408, isB0, isB1, subdm, inT, inFl, inFh]
          · simp (disch := omega) only [everything_nI ok hd, has_nI, b1, b2, e, Bool.false_eq_true, and_false, eO, ones_nI, bd_some, gd_true, inR_nI, nI_clamp, nI_add, pk_mul, pk_sub, leT, leF, ltT, ltF, eqT, eqF, ite_true, ite_false, reduceIte, nz_nI, oc_s, oc_n, pk_div, pk_rem, m1F, L0, L1, L2, L3, L4, L5, L6, L7, L8, L9, L10, L11, L12, L19, L20, L24, L25, L27, L28, L30, L32, L37, L39, L40, L47, L48, L50, L55, L57, L60, L61, L63, L71, L80, L97, L99, L100, L120, L122, L128, L161, L17, L600, L1000000, L1024, L1408, isB0, isB1, subdm, inT, inFl, inFh]
  · show bX10_keep__29 r (nI s) (nI 0) _ (nI (2 ^ hS v)) = _
    unfold bX10_keep__29
    simp (disch := omega) only [everything_nI ok hd, bd_some, gd_true, inR_nI, nI_clamp, nI_add, pk_mul, pk_sub, leT, leF, ltT, ltF, eqT, eqF, ite_true, ite_false, reduceIte, nz_nI, oc_s, oc_n, pk_div, pk_rem, m1F, L0, L1, L2, L3, L4, L5, L6, L7, L8, L9, L10, L11, L12, L19, L20, L24, L25, L27, L28, L30, L32, L37, L39, L40, L47, L48, L50, L55, L57, L60, L61, L63, L71, L80, L97, L99, L100, L120, L122, L128, L161, L17, L600, L1000000, L1024, L1408, isB0, isB1, subdm, inT, inFl, inFh]
    all_goals rfl
theorem keepM1 {r : Rec} {n : Nat} {v : Hv} (ok : HvOK v) (hd : Hd r n v) {s : Nat} (hs : s < hS v) : iter (fun st : Int32 × Int32 => bX10_keep__29 r (nI s) (nI 1) st.1 st.2) (-nI 1, nI 0) = some (r, eO (kpN v s true (2 ^ hS v))) := by
  have hpS := pS ok
  have hS10 := ok.2.1
  have hp1 := p1 (hS v)
  refine loopO (step := fun st : Int32 × Int32 => bX10_keep__29 r (nI s) (nI 1) st.1 st.2) (fun i => (eO (kpN v s true i), nI i)) (2 ^ hS v) (fun i hi => ?_) ?_
  · show bX10_keep__29 r (nI s) (nI 1) (eO (kpN v s true i)) (nI i) = some (.inl (eO (if pc i < fw (kpN v s true i) ∧ kpC v s true i = true then some i else kpN v s true i), nI (i + 1)))
    have hlt := kpN_lt (v := v) (s := s) (f := true) i
    generalize kpN v s true i = c at hlt ⊢
    have hf := fw_le c
    have hp := pc_le i
    have hc := clo_lt ok (wo := 8) hi
    unfold bX10_keep__29 bX10_keep__71 bX10_keep__67 bX10_keep__72 bX10_keep__98 bX10_keep__114
    cases b1 : i.testBit s
    · cases b2 : (clo v 8 i).testBit s
      · have e : kpC v s true i = false := by unfold kpC; rw [b1, b2]; rfl
        rcases c with _ | b
        · simp (disch := omega) only [everything_nI ok hd, has_nI, b1, b2, e, Bool.false_eq_true, and_false, eO, andn_nI, comesOf_nI ok hd Lo.none hi, bd_some, gd_true, inR_nI, nI_clamp, nI_add, pk_mul, pk_sub, leT, leF, ltT, ltF, eqT, eqF, ite_true, ite_false, reduceIte, nz_nI, oc_s, oc_n, pk_div, pk_rem, m1F, L0, L1, L2, L3, L4, L5, L6, L7, L8, L9, L10, L11, L12, L19, L20, L24, L25, L27, L28, L30, L32, L37, L39, L40, L47, L48, L50, L55, L57, L60, L61, L63, L71, L80, L97, L99, L100, L120, L122, L128, L161, L17, L600, L1000000, L1024, L1408, isB0, isB1, subdm, inT, inFl, inFh]
        · have hb := hlt b rfl
          have hpb := pc_le b
          by_cases q : pc i < pc b
          · simp (disch := omega) only [everything_nI ok hd, has_nI, b1, b2, e, Bool.false_eq_true, and_false, eO, ones_nI, andn_nI, comesOf_nI ok hd Lo.none hi, bd_some, gd_true, inR_nI, nI_clamp, nI_add, pk_mul, pk_sub, leT, leF, ltT, ltF, eqT, eqF, ite_true, ite_false, reduceIte, nz_nI, oc_s, oc_n, pk_div, pk_rem, m1F, L0, L1, L2, L3, L4, L5, L6, L7, L8, L9, L10, L11, L12, L19, L20, L24, L25, L27, L28, L30, L32, L37, L39, L40, L47, L48, L50, L55, L57, L60, L61, L63, L71, L80, L97, L99, L100, L120, L122, L128, L161, L17, L600, L1000000, L1024, L1408, isB0, isB1, subdm, inT, inFl, inFh]
          · simp (disch := omega) only [everything_nI ok hd, has_nI, b1, b2, e, Bool.false_eq_true, and_false, eO, ones_nI, bd_some, gd_true, inR_nI, nI_clamp, nI_add, pk_mul, pk_sub, leT, leF, ltT, ltF, eqT, eqF, ite_true, ite_false, reduceIte, nz_nI, oc_s, oc_n, pk_div, pk_rem, m1F, L0, L1, L2, L3, L4, L5, L6, L7, L8, L9, L10, L11, L12, L19, L20, L24, L25, L27, L28, L30, L32, L37, L39, L40, L47, L48, L50, L55, L57, L60, L61, L63, L71, L80, L97, L99, L100, L120, L122, L128, L161, L17, L600, L1000000, L1024, L1408, isB0, isB1, subdm, inT, inFl, inFh]
      · have e : kpC v s true i = true := by unfold kpC; rw [b1, b2]; rfl
        rcases c with _ | b
        · have q : pc i < fw none := by show pc i < 11; omega
          simp (disch := omega) only [everything_nI ok hd, has_nI, b1, b2, e, Bool.false_eq_true, q, and_self, eO, andn_nI, comesOf_nI ok hd Lo.none hi, bd_some, gd_true, inR_nI, nI_clamp, nI_add, pk_mul, pk_sub, leT, leF, ltT, ltF, eqT, eqF, ite_true, ite_false, reduceIte, nz_nI, oc_s, oc_n, pk_div, pk_rem, m1F, L0, L1, L2, L3, L4, L5, L6, L7, L8, L9, L10, L11, L12, L19, L20, L24, L25, L27, L28, L30, L32, L37, L39, L40, L47, L48, L50, L55, L57, L60, L61, L63, L71, L80, L97, L99, L100, L120, L122, L128, L161, L17, L600, L1000000, L1024, L1408, isB0, isB1, subdm, inT, inFl, inFh]
        · have hb := hlt b rfl
          have hpb := pc_le b
          by_cases q : pc i < pc b
          · have q' : pc i < fw (some b) := q
            simp (disch := omega) only [everything_nI ok hd, has_nI, b1, b2, e, Bool.false_eq_true, q', and_self, eO, ones_nI, andn_nI, comesOf_nI ok hd Lo.none hi, bd_some, gd_true, inR_nI, nI_clamp, nI_add, pk_mul, pk_sub, leT, leF, ltT, ltF, eqT, eqF, ite_true, ite_false, reduceIte, nz_nI, oc_s, oc_n, pk_div, pk_rem, m1F, L0, L1, L2, L3, L4, L5, L6, L7, L8, L9, L10, L11, L12, L19, L20, L24, L25, L27, L28, L30, L32, L37, L39, L40, L47, L48, L50, L55, L57, L60, L61, L63, L71, L80, L97, L99, L100, L120, L122, L128, L161, L17, L600, L1000000, L1024, L1408, isB0, isB1, subdm, inT, inFl, inFh]
          · have q' : ¬ pc i < fw (some b) := q
            simp (disch := omega) only [everything_nI ok hd, has_nI, b1, Bool.false_eq_true, q', false_and, eO, ones_nI, bd_some, gd_true, inR_nI, nI_clamp, nI_add, pk_mul, pk_sub, leT, leF, ltT, ltF, eqT, eqF, ite_true, ite_false, reduceIte, nz_nI, oc_s, oc_n, pk_div, pk_rem, m1F, L0, L1, L2, L3, L4, L5, L6, L7, L8, L9, L10, L11, L12, L19, L20, L24, L25, L27, L28, L30, L32, L37, L39, L40, L47, L48, L50, L55, L57, L60, L61, L63, L71, L80, L97, L99, L100, L120, L122, L128, L161, L17, L600, L1000000, L1024, L1408, isB0, isB1, subdm, inT, inFl, inFh]
    · have e : kpC v s true i = false := by unfold kpC; rw [b1]; rfl
      simp (disch := omega) only [everything_nI ok hd, has_nI, b1, e, Bool.false_eq_true, and_false, bd_some, gd_true, inR_nI, nI_clamp, nI_add, pk_mul, pk_sub, leT, leF, ltT, ltF, eqT, eqF, ite_true, ite_false, reduceIte, nz_nI, oc_s, oc_n, pk_div, pk_rem, m1F, L0, L1, L2, L3, L4, L5, L6, L7, L8, L9, L10, L11, L12, L19, L20, L24, L25, L27, L28, L30, L32, L37, L39, L40, L47, L48, L50, L55, L57, L60, L61, L63, L71, L80, L97, L99, L100, L120, L122, L128, L161, L17, L600, L1000000, L1024, L1408, isB0, isB1, subdm, inT, inFl, inFh]
  · show bX10_keep__29 r (nI s) (nI 1) _ (nI (2 ^ hS v)) = _
    unfold bX10_keep__29
    simp (disch := omega) only [everything_nI ok hd, bd_some, gd_true, inR_nI, nI_clamp, nI_add, pk_mul, pk_sub, leT, leF, ltT, ltF, eqT, eqF, ite_true, ite_false, reduceIte, nz_nI, oc_s, oc_n, pk_div, pk_rem, m1F, L0, L1, L2, L3, L4, L5, L6, L7, L8, L9, L10, L11, L12, L19, L20, L24, L25, L27, L28, L30, L32, L37, L39, L40, L47, L48, L50, L55, L57, L60, L61, L63, L71, L80, L97, L99, L100, L120, L122, L128, L161, L17, L600, L1000000, L1024, L1408, isB0, isB1, subdm, inT, inFl, inFh]
    all_goals rfl
theorem ob_keep : Ob_keep Inv := by
  intro g a1 a2 a3 hI h4
  rcases house_cases hI a1 with ⟨h1, h2⟩ | ⟨n, v, hn, rfl, ok, hx, h1, h2, h3⟩
  · have h2 := h2 _ (m0 _)
    refine ⟨-1, _, ?_, ?_, hI.keep (XP.rf hI.1) (m0 _)⟩
    · unfold fX9_keep; simp (disch := omega) only [h1, bd_some, gd_true, inR_nI, nI_clamp, nI_add, pk_mul, pk_sub, leT, leF, ltT, ltF, eqT, eqF, ite_true, ite_false, reduceIte, nz_nI, oc_s, oc_n, pk_div, pk_rem, m1F, L0, L1, L2, L3, L4, L5, L6, L7, L8, L9, L10, L11, L12, L19, L20, L24, L25, L27, L28, L30, L32, L37, L39, L40, L47, L48, L50, L55, L57, L60, L61, L63, L71, L80, L97, L99, L100, L120, L122, L128, L161, L17, L600, L1000000, L1024, L1408, isB0, isB1, subdm, inT, inFl, inFh]
    · unfold fX10_keep_; simp (disch := omega) only [h2, bd_some, gd_true, inR_nI, nI_clamp, nI_add, pk_mul, pk_sub, leT, leF, ltT, ltF, eqT, eqF, ite_true, ite_false, reduceIte, nz_nI, oc_s, oc_n, pk_div, pk_rem, m1F, L0, L1, L2, L3, L4, L5, L6, L7, L8, L9, L10, L11, L12, L19, L20, L24, L25, L27, L28, L30, L32, L37, L39, L40, L47, L48, L50, L55, L57, L60, L61, L63, L71, L80, L97, L99, L100, L120, L122, L128, L161, L17, L600, L1000000, L1024, L1408, isB0, isB1, subdm, inT, inFl, inFh]
  · obtain ⟨r', e1, hd, m1⟩ := h3 _ (m0 _)
    have hS10 := ok.2.1
    rcases secret_cases hx.S hd.S hS10 a2 with ⟨s1, s2⟩ | ⟨s, hs, rfl, s1, s2⟩
    · refine ⟨-1, r', ?_, ?_, hI.keep (XP.rf hI.1) ((m0 _).tr m1)⟩
      · unfold fX9_keep; simp (disch := omega) only [h1, h2, s1, bd_some, gd_true, inR_nI, nI_clamp, nI_add, pk_mul, pk_sub, leT, leF, ltT, ltF, eqT, eqF, ite_true, ite_false, reduceIte, nz_nI, oc_s, oc_n, pk_div, pk_rem, m1F, L0, L1, L2, L3, L4, L5, L6, L7, L8, L9, L10, L11, L12, L19, L20, L24, L25, L27, L28, L30, L32, L37, L39, L40, L47, L48, L50, L55, L57, L60, L61, L63, L71, L80, L97, L99, L100, L120, L122, L128, L161, L17, L600, L1000000, L1024, L1408, isB0, isB1, subdm, inT, inFl, inFh]
      · unfold fX10_keep_; simp (disch := omega) only [e1, s2, bd_some, gd_true, inR_nI, nI_clamp, nI_add, pk_mul, pk_sub, leT, leF, ltT, ltF, eqT, eqF, ite_true, ite_false, reduceIte, nz_nI, oc_s, oc_n, pk_div, pk_rem, m1F, L0, L1, L2, L3, L4, L5, L6, L7, L8, L9, L10, L11, L12, L19, L20, L24, L25, L27, L28, L30, L32, L37, L39, L40, L47, L48, L50, L55, L57, L60, L61, L63, L71, L80, L97, L99, L100, L120, L122, L128, L161, L17, L600, L1000000, L1024, L1408, isB0, isB1, subdm, inT, inFl, inFh]
    · rcases h4 with rfl | rfl
      · refine ⟨eO (kpN v s false (2 ^ hS v)), r', ?_, ?_, hI.keep (XP.rf hI.1) ((m0 _).tr m1)⟩
        · unfold fX9_keep; simp (disch := omega) only [h1, h2, s1, fewestKept_nI ok hx, bd_some, gd_true, inR_nI, nI_clamp, nI_add, pk_mul, pk_sub, leT, leF, ltT, ltF, eqT, eqF, ite_true, ite_false, reduceIte, nz_nI, oc_s, oc_n, pk_div, pk_rem, m1F, L0, L1, L2, L3, L4, L5, L6, L7, L8, L9, L10, L11, L12, L19, L20, L24, L25, L27, L28, L30, L32, L37, L39, L40, L47, L48, L50, L55, L57, L60, L61, L63, L71, L80, L97, L99, L100, L120, L122, L128, L161, L17, L600, L1000000, L1024, L1408, isB0, isB1, subdm, inT, inFl, inFh]
        · unfold fX10_keep_; simp (disch := omega) only [e1, s2, keepM0 ok hd, bd_some, gd_true, inR_nI, nI_clamp, nI_add, pk_mul, pk_sub, leT, leF, ltT, ltF, eqT, eqF, ite_true, ite_false, reduceIte, nz_nI, oc_s, oc_n, pk_div, pk_rem, m1F, L0, L1, L2, L3, L4, L5, L6, L7, L8, L9, L10, L11, L12, L19, L20, L24, L25, L27, L28, L30, L32, L37, L39, L40, L47, L48, L50, L55, L57, L60, L61, L63, L71, L80, L97, L99, L100, L120, L122, L128, L161, L17, L600, L1000000, L1024, L1408, isB0, isB1, subdm, inT, inFl, inFh]
      · refine ⟨eO (kpN v s true (2 ^ hS v)), r', ?_, ?_, hI.keep (XP.rf hI.1) ((m0 _).tr m1)⟩
        · unfold fX9_keep; simp (disch := omega) only [h1, h2, s1, fewestGiving_nI ok hx, bd_some, gd_true, inR_nI, nI_clamp, nI_add, pk_mul, pk_sub, leT, leF, ltT, ltF, eqT, eqF, ite_true, ite_false, reduceIte, nz_nI, oc_s, oc_n, pk_div, pk_rem, m1F, L0, L1, L2, L3, L4, L5, L6, L7, L8, L9, L10, L11, L12, L19, L20, L24, L25, L27, L28, L30, L32, L37, L39, L40, L47, L48, L50, L55, L57, L60, L61, L63, L71, L80, L97, L99, L100, L120, L122, L128, L161, L17, L600, L1000000, L1024, L1408, isB0, isB1, subdm, inT, inFl, inFh]
        · unfold fX10_keep_; simp (disch := omega) only [e1, s2, keepM1 ok hd, bd_some, gd_true, inR_nI, nI_clamp, nI_add, pk_mul, pk_sub, leT, leF, ltT, ltF, eqT, eqF, ite_true, ite_false, reduceIte, nz_nI, oc_s, oc_n, pk_div, pk_rem, m1F, L0, L1, L2, L3, L4, L5, L6, L7, L8, L9, L10, L11, L12, L19, L20, L24, L25, L27, L28, L30, L32, L37, L39, L40, L47, L48, L50, L55, L57, L60, L61, L63, L71, L80, L97, L99, L100, L120, L122, L128, L161, L17, L600, L1000000, L1024, L1408, isB0, isB1, subdm, inT, inFl, inFh]
