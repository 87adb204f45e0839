/-! cut -/
noncomputable def wko (v : Hv) (t : Nat) : Nat := wof v (andn (2 ^ hS v - 1) (clo v 8 (andn (2 ^ hS v - 1) t)))
theorem wko_le {v : Hv} (ok : HvOK v) (t : Nat) : wko v t ≤ 300 := wof_le ok _
theorem clo_sub {v : Hv} {wo t : Nat} : Sub t (clo v wo t) := itF_sub (fun t => rndN_sub v wo t _) 11 t
theorem andn_zero {a : Nat} : andn a 0 = a := by unfold andn; rw [Nat.xor_zero, Nat.and_self]
theorem wof_zero {v : Hv} : wof v 0 = 0 := by
  have h : ∀ n, sm (fun s => if (0 : Nat).testBit s then hWt v s else 0) n = 0 := by
    intro n
    induction n with
    | zero => rfl
    | succ n ih => show sm _ n + (if (0 : Nat).testBit n then hWt v n else 0) = 0; rw [ih, Nat.zero_testBit, if_neg (by decide)]
  exact h _
theorem all_sub {v : Hv} {t : Nat} (ht : t < 2 ^ hS v) : Sub t (2 ^ hS v - 1) := by
  intro k hk
  rw [Nat.testBit_two_pow_sub_one]
  apply decide_eq_true
  apply Classical.byContradiction
  intro q
  have : t.testBit k = false := Nat.testBit_lt_two_pow (Nat.lt_of_lt_of_le ht (Nat.pow_le_pow_right (by decide) (by omega)))
  rw [this] at hk
  cases hk
theorem andn_self {a b : Nat} (h : Sub a b) : andn a b = 0 := by
  apply Nat.eq_of_testBit_eq
  intro i
  rw [andn_bit, Nat.zero_testBit]
  cases c : a.testBit i
  · rfl
  · rw [h i c]; rfl
theorem wko_zero {v : Hv} : wko v 0 = 0 := by
  unfold wko
  rw [andn_zero, andn_self clo_sub, wof_zero]
theorem weightKeptOut_nI {h : Rec} {v : Hv} (ok : HvOK v) (hx : HX h v) {t : Nat} : fX2_weightKeptOut h (nI t) = some (nI (wko v t)) := by
  have hpS := pS ok
  have hal := andn_lt (b := t) (all_lt (v := v))
  have hal2 := andn_lt (b := clo v 8 (andn (2 ^ hS v - 1) t)) (all_lt (v := v))
  unfold fX2_weightKeptOut
  simp (disch := omega) only [allSecrets_nI ok hx, andn_nI, closure_nI ok hx Lo.none hal, weightOf_nI ok hx, wko, bd_some, gd_true, inR_nI, nI_clamp, nI_add, pk_mul, pk_sub, leT, leF, ltT, ltF, eqT, eqF, ite_true, ite_false, reduceIte, nz_nI, oc_s, oc_n, pk_div, pk_rem, m1F, L0, L1, L2, L3, L4, L5, L6, L7, L8, L9, L10, L11, L12, L19, L20, L24, L25, L27, L28, L30, L32, L37, L39, L40, L47, L48, L50, L55, L57, L60, L61, L63, L71, L80, L97, L99, L100, L120, L122, L128, L161, L17, L600, L1000000, L1024, L1408, isB0, isB1, subdm, inT, inFl, inFh]
/-- the best so far, of k sets -/
noncomputable def ctN (v : Hv) (n : Nat) (k : Nat) : Nat := fo (fun k b => if pc k ≤ n ∧ (wko v b < wko v k ∨ wko v k = wko v b ∧ pc k < pc b) then k else b) 0 k
theorem ctN_lt {v : Hv} {n : Nat} : ∀ k, ctN v n k = 0 ∨ ctN v n k < k
  | 0 => Or.inl rfl
  | k + 1 => by
    show (if pc k ≤ n ∧ (wko v (ctN v n k) < wko v k ∨ wko v k = wko v (ctN v n k) ∧ pc k < pc (ctN v n k)) then k else ctN v n k) = 0 ∨ (if pc k ≤ n ∧ (wko v (ctN v n k) < wko v k ∨ wko v k = wko v (ctN v n k) ∧ pc k < pc (ctN v n k)) then k else ctN v n k) < k + 1
    split
    · exact Or.inr (by omega)
    · rcases ctN_lt (v := v) (n := n) k with h | h
      · exact Or.inl h
      · exact Or.inr (by omega)
theorem ctN_1 {v : Hv} {n : Nat} : ctN v n 1 = 0 := by
  show (if _ then 0 else 0) = 0
  split <;> rfl
theorem takenX {h : Rec} {v : Hv} (ok : HvOK v) (hx : HX h v) {n : Nat} (hn : n ≤ 3) : fX2_bestTakenAway h (nI n) = some (nI (ctN v n (2 ^ hS v))) := by
  have hpS := pS ok
  have hp1 := p1 (hS v)
  unfold fX2_bestTakenAway
  have e0 : ((0 : Int32), (0 : Int32), (1 : Int32)) = (fun i => (nI (ctN v n i), nI (wko v (ctN v n i)), nI i)) 1 := by
    show _ = (nI (ctN v n 1), nI (wko v (ctN v n 1)), nI 1)
    rw [ctN_1, wko_zero]
    rfl
  rw [e0]
  refine loopA (step := fun st : Int32 × Int32 × Int32 => bX2_bestTakenAway_7 h (nI n) st.1 st.2.1 st.2.2) (fun i => (nI (ctN v n i), nI (wko v (ctN v n i)), nI i)) 1 (2 ^ hS v) hp1 (fun i hi1 hi => ?_) ?_
  · show bX2_bestTakenAway_7 h (nI n) (nI (ctN v n i)) (nI (wko v (ctN v n i))) (nI i) = some (.inl (nI (if pc i ≤ n ∧ (wko v (ctN v n i) < wko v i ∨ wko v i = wko v (ctN v n i) ∧ pc i < pc (ctN v n i)) then i else ctN v n i), nI (wko v (if pc i ≤ n ∧ (wko v (ctN v n i) < wko v i ∨ wko v i = wko v (ctN v n i) ∧ pc i < pc (ctN v n i)) then i else ctN v n i)), nI (i + 1)))
    have hlt : ctN v n i < 1024 := by rcases ctN_lt (v := v) (n := n) i with q | q <;> omega
    generalize ctN v n i = b at hlt ⊢
    have h1 := pc_le i
    have h2 := pc_le b
    have h3 := wko_le ok i
    have h4 := wko_le ok b
    unfold bX2_bestTakenAway_7 bX2_bestTakenAway_61 bX2_bestTakenAway_67
    by_cases c1 : pc i ≤ n
    · by_cases c2 : wko v b < wko v i
      · rw [if_pos ⟨c1, Or.inl c2⟩]
        simp (disch := omega) only [secretSets_nI ok hx, bitCount_nI, weightKeptOut_nI ok hx, bd_some, gd_true, inR_nI, nI_clamp, nI_add, pk_mul, pk_sub, leT, leF, ltT, ltF, eqT, eqF, ite_true, ite_false, reduceIte, nz_nI, oc_s, oc_n, pk_div, pk_rem, m1F, L0, L1, L2, L3, L4, L5, L6, L7, L8, L9, L10, L11, L12, L19, L20, L24, L25, L27, L28, L30, L32, L37, L39, L40, L47, L48, L50, L55, L57, L60, L61, L63, L71, L80, L97, L99, L100, L120, L122, L128, L161, L17, L600, L1000000, L1024, L1408, isB0, isB1, subdm, inT, inFl, inFh]
      · by_cases c3 : wko v i = wko v b
        · by_cases c4 : pc i < pc b
          · rw [if_pos ⟨c1, Or.inr ⟨c3, c4⟩⟩]
            simp (disch := omega) only [secretSets_nI ok hx, bitCount_nI, weightKeptOut_nI ok hx, bd_some, gd_true, inR_nI, nI_clamp, nI_add, pk_mul, pk_sub, leT, leF, ltT, ltF, eqT, eqF, ite_true, ite_false, reduceIte, nz_nI, oc_s, oc_n, pk_div, pk_rem, m1F, L0, L1, L2, L3, L4, L5, L6, L7, L8, L9, L10, L11, L12, L19, L20, L24, L25, L27, L28, L30, L32, L37, L39, L40, L47, L48, L50, L55, L57, L60, L61, L63, L71, L80, L97, L99, L100, L120, L122, L128, L161, L17, L600, L1000000, L1024, L1408, isB0, isB1, subdm, inT, inFl, inFh]
          · rw [if_neg (fun q => q.2.elim (fun q => c2 q) (fun q => c4 q.2))]
            simp (disch := omega) only [secretSets_nI ok hx, bitCount_nI, weightKeptOut_nI ok hx, bd_some, gd_true, inR_nI, nI_clamp, nI_add, pk_mul, pk_sub, leT, leF, ltT, ltF, eqT, eqF, ite_true, ite_false, reduceIte, nz_nI, oc_s, oc_n, pk_div, pk_rem, m1F, L0, L1, L2, L3, L4, L5, L6, L7, L8, L9, L10, L11, L12, L19, L20, L24, L25, L27, L28, L30, L32, L37, L39, L40, L47, L48, L50, L55, L57, L60, L61, L63, L71, L80, L97, L99, L100, L120, L122, L128, L161, L17, L600, L1000000, L1024, L1408, isB0, isB1, subdm, inT, inFl, inFh]
        · rw [if_neg (fun q => q.2.elim (fun q => c2 q) (fun q => c3 q.1))]
          simp (disch := omega) only [secretSets_nI ok hx, bitCount_nI, weightKeptOut_nI ok hx, bd_some, gd_true, inR_nI, nI_clamp, nI_add, pk_mul, pk_sub, leT, leF, ltT, ltF, eqT, eqF, ite_true, ite_false, reduceIte, nz_nI, oc_s, oc_n, pk_div, pk_rem, m1F, L0, L1, L2, L3, L4, L5, L6, L7, L8, L9, L10, L11, L12, L19, L20, L24, L25, L27, L28, L30, L32, L37, L39, L40, L47, L48, L50, L55, L57, L60, L61, L63, L71, L80, L97, L99, L100, L120, L122, L128, L161, L17, L600, L1000000, L1024, L1408, isB0, isB1, subdm, inT, inFl, inFh]
    · rw [if_neg (fun q => c1 q.1)]
      simp (disch := omega) only [secretSets_nI ok hx, bitCount_nI, bd_some, gd_true, inR_nI, nI_clamp, nI_add, pk_mul, pk_sub, leT, leF, ltT, ltF, eqT, eqF, ite_true, ite_false, reduceIte, nz_nI, oc_s, oc_n, pk_div, pk_rem, m1F, L0, L1, L2, L3, L4, L5, L6, L7, L8, L9, L10, L11, L12, L19, L20, L24, L25, L27, L28, L30, L32, L37, L39, L40, L47, L48, L50, L55, L57, L60, L61, L63, L71, L80, L97, L99, L100, L120, L122, L128, L161, L17, L600, L1000000, L1024, L1408, isB0, isB1, subdm, inT, inFl, inFh]
  · show bX2_bestTakenAway_7 h (nI n) _ _ (nI (2 ^ hS v)) = _
    unfold bX2_bestTakenAway_7
    simp (disch := omega) only [secretSets_nI ok hx, bd_some, gd_true, inR_nI, nI_clamp, nI_add, pk_mul, pk_sub, leT, leF, ltT, ltF, eqT, eqF, ite_true, ite_false, reduceIte, nz_nI, oc_s, oc_n, pk_div, pk_rem, m1F, L0, L1, L2, L3, L4, L5, L6, L7, L8, L9, L10, L11, L12, L19, L20, L24, L25, L27, L28, L30, L32, L37, L39, L40, L47, L48, L50, L55, L57, L60, L61, L63, L71, L80, L97, L99, L100, L120, L122, L128, L161, L17, L600, L1000000, L1024, L1408, isB0, isB1, subdm, inT, inFl, inFh]
    all_goals rfl
theorem gr_m1r {a : Nat} (h : a < 2 ^ 31) : fX10_greater (nI a) (-nI 1) = some (nI a) := by
  unfold fX10_greater
  simp (disch := omega) only [m1le, bd_some, gd_true, inR_nI, nI_clamp, nI_add, pk_mul, pk_sub, leT, leF, ltT, ltF, eqT, eqF, ite_true, ite_false, reduceIte, nz_nI, oc_s, oc_n, pk_div, pk_rem, m1F, L0, L1, L2, L3, L4, L5, L6, L7, L8, L9, L10, L11, L12, L19, L20, L24, L25, L27, L28, L30, L32, L37, L39, L40, L47, L48, L50, L55, L57, L60, L61, L63, L71, L80, L97, L99, L100, L120, L122, L128, L161, L17, L600, L1000000, L1024, L1408, isB0, isB1, subdm, inT, inFl, inFh]
theorem m1lt {a : Nat} (h : a < 2 ^ 31) : (nI a < -nI 1) = False := eq_false (fun q => by
  rw [Int32.lt_iff_toInt_lt, nI_toInt h] at q
  have : (-nI 1 : Int32).toInt = -1 := by decide
  omega)
theorem m1F' {a : Nat} (ha : a < 2 ^ 31) : (-nI 1 = nI a) = False := eq_false (fun q => m1_ne ha q.symm)
theorem cutM {r : Rec} {m : Nat} {v : Hv} (ok : HvOK v) (hd : Hd r m v) {n : Nat} (hn : n ≤ 3) (a : Int32) : iter (fun st : Int32 × Int32 × Int32 => bX10_cut_33 r (nI n) a st.1 st.2.1 st.2.2) (nI 0, nI 0, nI 0) = bX10_cut_133 r a (nI (ctN v n (2 ^ hS v))) (nI (wko v (ctN v n (2 ^ hS v)))) := by
  have hpS := pS ok
  have hp1 := p1 (hS v)
  have e0 : (nI 0, nI 0, nI 0) = (fun i => (nI (ctN v n i), nI (wko v (ctN v n i)), nI i)) 0 := by
    show _ = (nI 0, nI (wko v 0), nI 0)
    rw [wko_zero]
  rw [e0]
  refine loopO (step := fun st : Int32 × Int32 × Int32 => bX10_cut_33 r (nI n) a st.1 st.2.1 st.2.2) (fun i => (nI (ctN v n i), nI (wko v (ctN v n i)), nI i)) (2 ^ hS v) (fun i hi => ?_) ?_
  · show bX10_cut_33 r (nI n) a (nI (ctN v n i)) (nI (wko v (ctN v n i))) (nI i) = some (.inl (nI (if pc i ≤ n ∧ (wko v (ctN v n i) < wko v i ∨ wko v i = wko v (ctN v n i) ∧ pc i < pc (ctN v n i)) then i else ctN v n i), nI (wko v (if pc i ≤ n ∧ (wko v (ctN v n i) < wko v i ∨ wko v i = wko v (ctN v n i) ∧ pc i < pc (ctN v n i)) then i else ctN v n i)), nI (i + 1)))
    have hlt : ctN v n i < 1024 := by rcases ctN_lt (v := v) (n := n) i with q | q <;> omega
    generalize ctN v n i = b at hlt ⊢
    have h1 := pc_le i
    have h2 := pc_le b
    have h3 := wko_le ok i
    have h4 := wko_le ok b
    have hal := andn_lt (b := i) (all_lt (v := v))
    have hal2 := andn_lt (b := clo v 8 (andn (2 ^ hS v - 1) i)) (all_lt (v := v))
    have ew : wof v (andn (2 ^ hS v - 1) (clo v 8 (andn (2 ^ hS v - 1) i))) = wko v i := rfl
    unfold bX10_cut_33 bX10_cut_80 bX10_cut_109 bX10_cut_114 bX10_cut_116
    by_cases c1 : pc i ≤ n
    · by_cases c2 : wko v b < wko v i
      · have e : (if pc i ≤ n ∧ (wko v b < wko v i ∨ wko v i = wko v b ∧ pc i < pc b) then i else b) = i := if_pos ⟨c1, Or.inl c2⟩
        simp (disch := omega) only [everything_nI ok hd, ones_nI, andn_nI, comesOf_nI ok hd Lo.none hal, weightM_nI ok hd, e, ew, gr_nI, Nat.max_eq_right, bd_some, gd_true, inR_nI, nI_clamp, nI_add, pk_mul, pk_sub, leT, leF, ltT, ltF, eqT, eqF, ite_true, ite_false, reduceIte, nz_nI, oc_s, oc_n, pk_div, pk_rem, m1F, L0, L1, L2, L3, L4, L5, L6, L7, L8, L9, L10, L11, L12, L19, L20, L24, L25, L27, L28, L30, L32, L37, L39, L40, L47, L48, L50, L55, L57, L60, L61, L63, L71, L80, L97, L99, L100, L120, L122, L128, L161, L17, L600, L1000000, L1024, L1408, isB0, isB1, subdm, inT, inFl, inFh]
      · by_cases c3 : wko v i = wko v b
        · by_cases c4 : pc i < pc b
          · have e : (if pc i ≤ n ∧ (wko v b < wko v i ∨ wko v i = wko v b ∧ pc i < pc b) then i else b) = i := if_pos ⟨c1, Or.inr ⟨c3, c4⟩⟩
            simp (disch := omega) only [everything_nI ok hd, ones_nI, andn_nI, comesOf_nI ok hd Lo.none hal, weightM_nI ok hd, e, ew, gr_nI, Nat.max_eq_right, bd_some, gd_true, inR_nI, nI_clamp, nI_add, pk_mul, pk_sub, leT, leF, ltT, ltF, eqT, eqF, ite_true, ite_false, reduceIte, nz_nI, oc_s, oc_n, pk_div, pk_rem, m1F, L0, L1, L2, L3, L4, L5, L6, L7, L8, L9, L10, L11, L12, L19, L20, L24, L25, L27, L28, L30, L32, L37, L39, L40, L47, L48, L50, L55, L57, L60, L61, L63, L71, L80, L97, L99, L100, L120, L122, L128, L161, L17, L600, L1000000, L1024, L1408, isB0, isB1, subdm, inT, inFl, inFh]
          · have e : (if pc i ≤ n ∧ (wko v b < wko v i ∨ wko v i = wko v b ∧ pc i < pc b) then i else b) = b := if_neg (fun q => q.2.elim (fun q => c2 q) (fun q => c4 q.2))
            simp (disch := omega) only [everything_nI ok hd, ones_nI, andn_nI, comesOf_nI ok hd Lo.none hal, weightM_nI ok hd, e, ew, gr_nI, Nat.max_eq_left, bd_some, gd_true, inR_nI, nI_clamp, nI_add, pk_mul, pk_sub, leT, leF, ltT, ltF, eqT, eqF, ite_true, ite_false, reduceIte, nz_nI, oc_s, oc_n, pk_div, pk_rem, m1F, L0, L1, L2, L3, L4, L5, L6, L7, L8, L9, L10, L11, L12, L19, L20, L24, L25, L27, L28, L30, L32, L37, L39, L40, L47, L48, L50, L55, L57, L60, L61, L63, L71, L80, L97, L99, L100, L120, L122, L128, L161, L17, L600, L1000000, L1024, L1408, isB0, isB1, subdm, inT, inFl, inFh]
        · have e : (if pc i ≤ n ∧ (wko v b < wko v i ∨ wko v i = wko v b ∧ pc i < pc b) then i else b) = b := if_neg (fun q => q.2.elim (fun q => c2 q) (fun q => c3 q.1))
          simp (disch := omega) only [everything_nI ok hd, ones_nI, andn_nI, comesOf_nI ok hd Lo.none hal, weightM_nI ok hd, e, ew, gr_nI, Nat.max_eq_left, bd_some, gd_true, inR_nI, nI_clamp, nI_add, pk_mul, pk_sub, leT, leF, ltT, ltF, eqT, eqF, ite_true, ite_false, reduceIte, nz_nI, oc_s, oc_n, pk_div, pk_rem, m1F, L0, L1, L2, L3, L4, L5, L6, L7, L8, L9, L10, L11, L12, L19, L20, L24, L25, L27, L28, L30, L32, L37, L39, L40, L47, L48, L50, L55, L57, L60, L61, L63, L71, L80, L97, L99, L100, L120, L122, L128, L161, L17, L600, L1000000, L1024, L1408, isB0, isB1, subdm, inT, inFl, inFh]
    · have e : (if pc i ≤ n ∧ (wko v b < wko v i ∨ wko v i = wko v b ∧ pc i < pc b) then i else b) = b := if_neg (fun q => c1 q.1)
      simp (disch := omega) only [everything_nI ok hd, e, ones_nI, m1lt, m1F', gr_m1r, bd_some, gd_true, inR_nI, nI_clamp, nI_add, pk_mul, pk_sub, leT, leF, ltT, ltF, eqT, eqF, ite_true, ite_false, reduceIte, nz_nI, oc_s, oc_n, pk_div, pk_rem, m1F, L0, L1, L2, L3, L4, L5, L6, L7, L8, L9, L10, L11, L12, L19, L20, L24, L25, L27, L28, L30, L32, L37, L39, L40, L47, L48, L50, L55, L57, L60, L61, L63, L71, L80, L97, L99, L100, L120, L122, L128, L161, L17, L600, L1000000, L1024, L1408, isB0, isB1, subdm, inT, inFl, inFh]
  · show bX10_cut_33 r (nI n) a _ _ (nI (2 ^ hS v)) = _
    unfold bX10_cut_33
    simp (disch := omega) only [everything_nI ok hd, bd_some, gd_true, inR_nI, nI_clamp, nI_add, pk_mul, pk_sub, leT, leF, ltT, ltF, eqT, eqF, ite_true, ite_false, reduceIte, nz_nI, oc_s, oc_n, pk_div, pk_rem, m1F, L0, L1, L2, L3, L4, L5, L6, L7, L8, L9, L10, L11, L12, L19, L20, L24, L25, L27, L28, L30, L32, L37, L39, L40, L47, L48, L50, L55, L57, L60, L61, L63, L71, L80, L97, L99, L100, L120, L122, L128, L161, L17, L600, L1000000, L1024, L1408, isB0, isB1, subdm, inT, inFl, inFh]
theorem ob_cut : Ob_cut Inv := by
  intro g a1 a2 a3 hI h4
  rcases house_cases hI a1 with ⟨h1, h2⟩ | ⟨n, v, hn, rfl, ok, hx, h1, h2, h3⟩
  · have h2 := h2 _ (m0 _)
    refine ⟨-1, _, ?_, ?_, hI.keep (XP.rf hI.1) (m0 _)⟩
    · unfold fX9_cut; simp (disch := omega) only [h1, bd_some, gd_true, inR_nI, nI_clamp, nI_add, pk_mul, pk_sub, leT, leF, ltT, ltF, eqT, eqF, ite_true, ite_false, reduceIte, nz_nI, oc_s, oc_n, pk_div, pk_rem, m1F, L0, L1, L2, L3, L4, L5, L6, L7, L8, L9, L10, L11, L12, L19, L20, L24, L25, L27, L28, L30, L32, L37, L39, L40, L47, L48, L50, L55, L57, L60, L61, L63, L71, L80, L97, L99, L100, L120, L122, L128, L161, L17, L600, L1000000, L1024, L1408, isB0, isB1, subdm, inT, inFl, inFh]
    · unfold fX10_cut
      rcases rng a2 3 with k | ⟨m, k, k2, rfl⟩ | ⟨m, k, k2, rfl⟩
      · simp (disch := omega) only [in_neg k, h2, bd_some, gd_true, inR_nI, nI_clamp, nI_add, pk_mul, pk_sub, leT, leF, ltT, ltF, eqT, eqF, ite_true, ite_false, reduceIte, nz_nI, oc_s, oc_n, pk_div, pk_rem, m1F, L0, L1, L2, L3, L4, L5, L6, L7, L8, L9, L10, L11, L12, L19, L20, L24, L25, L27, L28, L30, L32, L37, L39, L40, L47, L48, L50, L55, L57, L60, L61, L63, L71, L80, L97, L99, L100, L120, L122, L128, L161, L17, L600, L1000000, L1024, L1408, isB0, isB1, subdm, inT, inFl, inFh]
      · simp (disch := omega) only [h2, bd_some, gd_true, inR_nI, nI_clamp, nI_add, pk_mul, pk_sub, leT, leF, ltT, ltF, eqT, eqF, ite_true, ite_false, reduceIte, nz_nI, oc_s, oc_n, pk_div, pk_rem, m1F, L0, L1, L2, L3, L4, L5, L6, L7, L8, L9, L10, L11, L12, L19, L20, L24, L25, L27, L28, L30, L32, L37, L39, L40, L47, L48, L50, L55, L57, L60, L61, L63, L71, L80, L97, L99, L100, L120, L122, L128, L161, L17, L600, L1000000, L1024, L1408, isB0, isB1, subdm, inT, inFl, inFh]
      · simp (disch := omega) only [h2, bd_some, gd_true, inR_nI, nI_clamp, nI_add, pk_mul, pk_sub, leT, leF, ltT, ltF, eqT, eqF, ite_true, ite_false, reduceIte, nz_nI, oc_s, oc_n, pk_div, pk_rem, m1F, L0, L1, L2, L3, L4, L5, L6, L7, L8, L9, L10, L11, L12, L19, L20, L24, L25, L27, L28, L30, L32, L37, L39, L40, L47, L48, L50, L55, L57, L60, L61, L63, L71, L80, L97, L99, L100, L120, L122, L128, L161, L17, L600, L1000000, L1024, L1408, isB0, isB1, subdm, inT, inFl, inFh]
  · obtain ⟨r', e1, hd, m1⟩ := h3 _ (m0 _)
    rcases rng a2 3 with k | ⟨m, k, k2, rfl⟩ | ⟨m, k, k2, rfl⟩
    · refine ⟨-1, _, ?_, ?_, hI.keep (XP.rf hI.1) (m0 _)⟩
      · unfold fX9_cut; simp (disch := omega) only [h1, h2, neg0 k, bd_some, gd_true, inR_nI, nI_clamp, nI_add, pk_mul, pk_sub, leT, leF, ltT, ltF, eqT, eqF, ite_true, ite_false, reduceIte, nz_nI, oc_s, oc_n, pk_div, pk_rem, m1F, L0, L1, L2, L3, L4, L5, L6, L7, L8, L9, L10, L11, L12, L19, L20, L24, L25, L27, L28, L30, L32, L37, L39, L40, L47, L48, L50, L55, L57, L60, L61, L63, L71, L80, L97, L99, L100, L120, L122, L128, L161, L17, L600, L1000000, L1024, L1408, isB0, isB1, subdm, inT, inFl, inFh]
      · unfold fX10_cut; simp (disch := omega) only [in_neg k, bd_some, gd_true, inR_nI, nI_clamp, nI_add, pk_mul, pk_sub, leT, leF, ltT, ltF, eqT, eqF, ite_true, ite_false, reduceIte, nz_nI, oc_s, oc_n, pk_div, pk_rem, m1F, L0, L1, L2, L3, L4, L5, L6, L7, L8, L9, L10, L11, L12, L19, L20, L24, L25, L27, L28, L30, L32, L37, L39, L40, L47, L48, L50, L55, L57, L60, L61, L63, L71, L80, L97, L99, L100, L120, L122, L128, L161, L17, L600, L1000000, L1024, L1408, isB0, isB1, subdm, inT, inFl, inFh]
    · refine ⟨-1, _, ?_, ?_, hI.keep (XP.rf hI.1) (m0 _)⟩
      · unfold fX9_cut; simp (disch := omega) only [h1, h2, bd_some, gd_true, inR_nI, nI_clamp, nI_add, pk_mul, pk_sub, leT, leF, ltT, ltF, eqT, eqF, ite_true, ite_false, reduceIte, nz_nI, oc_s, oc_n, pk_div, pk_rem, m1F, L0, L1, L2, L3, L4, L5, L6, L7, L8, L9, L10, L11, L12, L19, L20, L24, L25, L27, L28, L30, L32, L37, L39, L40, L47, L48, L50, L55, L57, L60, L61, L63, L71, L80, L97, L99, L100, L120, L122, L128, L161, L17, L600, L1000000, L1024, L1408, isB0, isB1, subdm, inT, inFl, inFh]
      · unfold fX10_cut; simp (disch := omega) only [bd_some, gd_true, inR_nI, nI_clamp, nI_add, pk_mul, pk_sub, leT, leF, ltT, ltF, eqT, eqF, ite_true, ite_false, reduceIte, nz_nI, oc_s, oc_n, pk_div, pk_rem, m1F, L0, L1, L2, L3, L4, L5, L6, L7, L8, L9, L10, L11, L12, L19, L20, L24, L25, L27, L28, L30, L32, L37, L39, L40, L47, L48, L50, L55, L57, L60, L61, L63, L71, L80, L97, L99, L100, L120, L122, L128, L161, L17, L600, L1000000, L1024, L1408, isB0, isB1, subdm, inT, inFl, inFh]
    · rcases h4 with rfl | rfl
      · refine ⟨nI (wko v (ctN v m (2 ^ hS v))), r', ?_, ?_, hI.keep (XP.rf hI.1) ((m0 _).tr m1)⟩
        · unfold fX9_cut; simp (disch := omega) only [h1, h2, takenX ok hx, weightKeptOut_nI ok hx, bd_some, gd_true, inR_nI, nI_clamp, nI_add, pk_mul, pk_sub, leT, leF, ltT, ltF, eqT, eqF, ite_true, ite_false, reduceIte, nz_nI, oc_s, oc_n, pk_div, pk_rem, m1F, L0, L1, L2, L3, L4, L5, L6, L7, L8, L9, L10, L11, L12, L19, L20, L24, L25, L27, L28, L30, L32, L37, L39, L40, L47, L48, L50, L55, L57, L60, L61, L63, L71, L80, L97, L99, L100, L120, L122, L128, L161, L17, L600, L1000000, L1024, L1408, isB0, isB1, subdm, inT, inFl, inFh]
        · unfold fX10_cut; simp (disch := omega) only [e1, cutM ok hd, bX10_cut_133, bd_some, gd_true, inR_nI, nI_clamp, nI_add, pk_mul, pk_sub, leT, leF, ltT, ltF, eqT, eqF, ite_true, ite_false, reduceIte, nz_nI, oc_s, oc_n, pk_div, pk_rem, m1F, L0, L1, L2, L3, L4, L5, L6, L7, L8, L9, L10, L11, L12, L19, L20, L24, L25, L27, L28, L30, L32, L37, L39, L40, L47, L48, L50, L55, L57, L60, L61, L63, L71, L80, L97, L99, L100, L120, L122, L128, L161, L17, L600, L1000000, L1024, L1408, isB0, isB1, subdm, inT, inFl, inFh]
      · refine ⟨nI (ctN v m (2 ^ hS v)), r', ?_, ?_, hI.keep (XP.rf hI.1) ((m0 _).tr m1)⟩
        · unfold fX9_cut; simp (disch := omega) only [h1, h2, takenX ok hx, bd_some, gd_true, inR_nI, nI_clamp, nI_add, pk_mul, pk_sub, leT, leF, ltT, ltF, eqT, eqF, ite_true, ite_false, reduceIte, nz_nI, oc_s, oc_n, pk_div, pk_rem, m1F, L0, L1, L2, L3, L4, L5, L6, L7, L8, L9, L10, L11, L12, L19, L20, L24, L25, L27, L28, L30, L32, L37, L39, L40, L47, L48, L50, L55, L57, L60, L61, L63, L71, L80, L97, L99, L100, L120, L122, L128, L161, L17, L600, L1000000, L1024, L1408, isB0, isB1, subdm, inT, inFl, inFh]
        · unfold fX10_cut; simp (disch := omega) only [e1, cutM ok hd, bX10_cut_133, bd_some, gd_true, inR_nI, nI_clamp, nI_add, pk_mul, pk_sub, leT, leF, ltT, ltF, eqT, eqF, ite_true, ite_false, reduceIte, nz_nI, oc_s, oc_n, pk_div, pk_rem, m1F, L0, L1, L2, L3, L4, L5, L6, L7, L8, L9, L10, L11, L12, L19, L20, L24, L25, L27, L28, L30, L32, L37, L39, L40, L47, L48, L50, L55, L57, L60, L61, L63, L71, L80, L97, L99, L100, L120, L122, L128, L161, L17, L600, L1000000, L1024, L1408, isB0, isB1, subdm, inT, inFl, inFh]
/-! heirs -/
theorem i_sub_add (a b c : Nat) : nI a - nI b + nI c = nI (a + c) - nI b := by
  rw [← nI_add, Int32.sub_eq_add_neg, Int32.sub_eq_add_neg, Int32.add_assoc, Int32.add_comm (-nI b) (nI c), ← Int32.add_assoc]
theorem i_sub_sub (a b c : Nat) : nI a - nI b + -nI c = nI a - nI (b + c) := by
  rw [← nI_add, Int32.sub_eq_add_neg, Int32.sub_eq_add_neg, Int32.neg_add, Int32.add_assoc, Int32.sub_eq_add_neg]
def gIn (v : Hv) (t n : Nat) : Nat := sm (fun p => if t.testBit p then wof v (hKn v p) else 0) n
def gOut (v : Hv) (t n : Nat) : Nat := sm (fun p => if t.testBit p then 0 else wof v (hKn v p)) n
def gp (v : Hv) (t : Nat) : Nat := (gIn v t (hP v) - gOut v t (hP v)) + (gOut v t (hP v) - gIn v t (hP v))
theorem gIn_le {v : Hv} (ok : HvOK v) (t n : Nat) : gIn v t n ≤ n * 300 := sm_le (fun i _ => by have := wof_le ok (hKn v i); split <;> omega)
theorem gOut_le {v : Hv} (ok : HvOK v) (t n : Nat) : gOut v t n ≤ n * 300 := sm_le (fun i _ => by have := wof_le ok (hKn v i); split <;> omega)
theorem gp_le {v : Hv} (ok : HvOK v) (t : Nat) : gp v t ≤ 2400 := by
  have := gIn_le ok t (hP v)
  have := gOut_le ok t (hP v)
  have := ok.1
  unfold gp
  omega
theorem sub_ge {a b : Nat} (ha : a < 2 ^ 30) (hb : b < 2 ^ 30) (h : b ≤ a) : (nI 0 ≤ nI a - nI b) = True := by
  rw [pk_sub h]
  exact leT (by omega) (by omega)
theorem neg_sub' (a b : Nat) : -(nI a - nI b) = nI b - nI a := by rw [Int32.neg_sub]
theorem abi_nI {a b : Nat} (ha : a < 2 ^ 30) (hb : b < 2 ^ 30) : abi (nI a - nI b) = nI (a - b + (b - a)) := by
  unfold abi
  by_cases h : b ≤ a
  · rw [if_pos (show (0 : Int32) ≤ nI a - nI b from of_eq_true (sub_ge ha hb h)), pk_sub h, show a - b + (b - a) = a - b by omega]
  · rw [if_neg (fun k => by have h1 := sub_neg ha hb (show a < b by omega); rw [Int32.le_iff_toInt_le] at k; rw [Int32.lt_iff_toInt_lt] at h1; omega), Int32.zero_sub, neg_sub', pk_sub (by omega), show a - b + (b - a) = b - a by omega]
theorem shareGap_nI {h : Rec} {v : Hv} (ok : HvOK v) (hx : HX h v) {t : Nat} (ht : t < 2 ^ 31) : fX2_shareGap h (nI t) = some (nI (gp v t)) := by
  have hP8 := ok.1
  unfold fX2_shareGap
  have e0 : ((0 : Int32), (0 : Int32)) = (fun i => (nI (gIn v t i) - nI (gOut v t i), nI i)) 0 := by
    show _ = (nI 0 - nI 0, nI 0)
    rw [pk_sub (Nat.le_refl 0)]
    all_goals rfl
  rw [e0]
  refine loopO (step := fun st : Int32 × Int32 => bX2_shareGap_4 h (nI t) st.1 st.2) (fun i => (nI (gIn v t i) - nI (gOut v t i), nI i)) (hP v) (fun i hi => ?_) ?_
  · show bX2_shareGap_4 h (nI t) (nI (gIn v t i) - nI (gOut v t i)) (nI i) = some (.inl (nI (gIn v t i + if t.testBit i then wof v (hKn v i) else 0) - nI (gOut v t i + if t.testBit i then 0 else wof v (hKn v i)), nI (i + 1)))
    have hk := kn_lt ok i
    generalize gIn v t i = a
    generalize gOut v t i = b
    unfold bX2_shareGap_4 bX2_shareGap_41
    cases c : t.testBit i
    · show _ = some (Sum.inl (nI (a + 0) - nI (b + wof v (hKn v i)), nI (i + 1)))
      rw [Nat.add_zero, ← i_sub_sub]
      simp (disch := omega) only [hx.P, hx.kn, leF, inR_nI, gd_true, nI_clamp, weightOf_nI ok hx, bd_some, hasBit_nI, c, Bool.false_eq_true, if_false, if_true, nI_1]
    · rw [if_pos rfl, if_pos rfl, Nat.add_zero, ← i_sub_add]
      simp (disch := omega) only [hx.P, hx.kn, leF, inR_nI, gd_true, nI_clamp, weightOf_nI ok hx, bd_some, hasBit_nI, c, if_false, if_true, nI_1, show ¬ (1 : Int32) = 0 by decide]
  · show bX2_shareGap_4 h (nI t) (nI (gIn v t (hP v)) - nI (gOut v t (hP v))) (nI (hP v)) = _
    have h1 := gIn_le ok t (hP v)
    have h2 := gOut_le ok t (hP v)
    unfold bX2_shareGap_4 bX2_shareGap_49
    simp (disch := omega) only [hx.P, leT, abi_nI, bd_some, if_true]
    rfl
theorem gapM {r : Rec} {n : Nat} {v : Hv} (ok : HvOK v) (hd : Hd r n v) {t : Nat} (ht : t < 2 ^ 31) (a b c : Int32) : iter (fun st : Int32 × Int32 => bX10_heirs_42 r a b c (nI t) st.1 st.2) (nI 0, nI 0) = bX10_heirs_111 r a b c (nI t) (nI (gp v t)) := by
  have hP8 := ok.1
  have e0 : (nI 0, nI 0) = (fun i => (nI (gIn v t i) - nI (gOut v t i), nI i)) 0 := by
    show _ = (nI 0 - nI 0, nI 0)
    rw [pk_sub (Nat.le_refl 0)]
    all_goals rfl
  rw [e0]
  refine loopO (step := fun st : Int32 × Int32 => bX10_heirs_42 r a b c (nI t) st.1 st.2) (fun i => (nI (gIn v t i) - nI (gOut v t i), nI i)) (hP v) (fun i hi => ?_) ?_
  · show bX10_heirs_42 r a b c (nI t) (nI (gIn v t i) - nI (gOut v t i)) (nI i) = some (.inl (nI (gIn v t i + if t.testBit i then wof v (hKn v i) else 0) - nI (gOut v t i + if t.testBit i then 0 else wof v (hKn v i)), nI (i + 1)))
    have hk := kn_lt ok i
    generalize gIn v t i = x
    generalize gOut v t i = y
    unfold bX10_heirs_42 bX10_heirs_89
    cases c : t.testBit i
    · show _ = some (Sum.inl (nI (x + 0) - nI (y + wof v (hKn v i)), nI (i + 1)))
      rw [Nat.add_zero, ← i_sub_sub]
      simp (disch := omega) only [hd.P, hd.kn, leF, inR_nI, gd_true, nI_clamp, weightM_nI ok hd, bd_some, has_nI, c, Bool.false_eq_true, if_false, if_true, nI_1]
    · rw [if_pos rfl, if_pos rfl, Nat.add_zero, ← i_sub_add]
      simp (disch := omega) only [hd.P, hd.kn, leF, inR_nI, gd_true, nI_clamp, weightM_nI ok hd, bd_some, has_nI, c, if_false, if_true, nI_1, show ¬ (1 : Int32) = 0 by decide]
  · show bX10_heirs_42 r a b c (nI t) (nI (gIn v t (hP v)) - nI (gOut v t (hP v))) (nI (hP v)) = _
    have h1 := gIn_le ok t (hP v)
    have h2 := gOut_le ok t (hP v)
    unfold bX10_heirs_42 bX10_heirs_98
    simp (disch := omega) only [hd.P, leT, if_true]
    by_cases q : gOut v t (hP v) ≤ gIn v t (hP v)
    · rw [if_pos (show (0 : Int32) ≤ nI (gIn v t (hP v)) - nI (gOut v t (hP v)) from of_eq_true (sub_ge (by omega) (by omega) q)), pk_sub q]
      unfold gp
      rw [show gIn v t (hP v) - gOut v t (hP v) + (gOut v t (hP v) - gIn v t (hP v)) = gIn v t (hP v) - gOut v t (hP v) by omega]
    · rw [if_neg (fun k => by have h1 := sub_neg (a := gIn v t (hP v)) (b := gOut v t (hP v)) (by omega) (by omega) (by omega); rw [Int32.le_iff_toInt_le] at k; rw [Int32.lt_iff_toInt_lt] at h1; omega), neg_sub', pk_sub (by omega)]
      unfold gp
      rw [show gIn v t (hP v) - gOut v t (hP v) + (gOut v t (hP v) - gIn v t (hP v)) = gOut v t (hP v) - gIn v t (hP v) by omega]
/-- the first of the least, of 0 .. k -/
def amn (f : Nat → Nat) : Nat → Nat
  | 0 => 0
  | k + 1 => if f (k + 1) < f (amn f k) then k + 1 else amn f k
theorem amn_le (f : Nat → Nat) (k : Nat) : amn f k ≤ k := by
  induction k with
  | zero => exact Nat.le_refl _
  | succ k ih => unfold amn; split <;> omega
theorem amn_min (f : Nat → Nat) (k : Nat) : min (f (amn f k)) (f (k + 1)) = f (amn f (k + 1)) := by
  rw [show amn f (k + 1) = if f (k + 1) < f (amn f k) then k + 1 else amn f k from rfl]
  split <;> omega
theorem shareX {h : Rec} {v : Hv} (ok : HvOK v) (hx : HX h v) : fX2_evenestShare h = some (nI (amn (gp v) (2 ^ hP v - 1))) := by
  have hpP := pP ok
  have hp1 := p1 (hP v)
  unfold fX2_evenestShare
  simp (disch := omega) only [shareGap_nI ok hx, bd_some, gd_true, inR_nI, nI_clamp, nI_add, pk_mul, pk_sub, leT, leF, ltT, ltF, eqT, eqF, ite_true, ite_false, reduceIte, nz_nI, oc_s, oc_n, pk_div, pk_rem, m1F, L0, L1, L2, L3, L4, L5, L6, L7, L8, L9, L10, L11, L12, L19, L20, L24, L25, L27, L28, L30, L32, L37, L39, L40, L47, L48, L50, L55, L57, L60, L61, L63, L71, L80, L97, L99, L100, L120, L122, L128, L161, L17, L600, L1000000, L1024, L1408, isB0, isB1, subdm, inT, inFl, inFh]
  refine loopA (step := fun st : Int32 × Int32 × Int32 => bX2_evenestShare_10 h st.1 st.2.1 st.2.2) (fun i => (nI (amn (gp v) (i - 1)), nI (gp v (amn (gp v) (i - 1))), nI i)) 1 (2 ^ hP v) hp1 (fun i hi1 hi => ?_) ?_
  · show bX2_evenestShare_10 h (nI (amn (gp v) (i - 1))) (nI (gp v (amn (gp v) (i - 1)))) (nI i) = _
    obtain ⟨j, rfl⟩ : ∃ j, i = j + 1 := ⟨i - 1, by omega⟩
    simp only [Nat.add_sub_cancel]
    have h1 := gp_le ok (j + 1)
    have h2 := gp_le ok (amn (gp v) j)
    unfold bX2_evenestShare_10 bX2_evenestShare_36
    by_cases c : gp v (j + 1) < gp v (amn (gp v) j)
    · simp (disch := omega) only [allPieces_nI ok hx, shareGap_nI ok hx, amn, c, bd_some, gd_true, inR_nI, nI_clamp, nI_add, pk_mul, pk_sub, leT, leF, ltT, ltF, eqT, eqF, ite_true, ite_false, reduceIte, nz_nI, oc_s, oc_n, pk_div, pk_rem, m1F, L0, L1, L2, L3, L4, L5, L6, L7, L8, L9, L10, L11, L12, L19, L20, L24, L25, L27, L28, L30, L32, L37, L39, L40, L47, L48, L50, L55, L57, L60, L61, L63, L71, L80, L97, L99, L100, L120, L122, L128, L161, L17, L600, L1000000, L1024, L1408, isB0, isB1, subdm, inT, inFl, inFh]
    · simp (disch := omega) only [allPieces_nI ok hx, shareGap_nI ok hx, amn, c, bd_some, gd_true, inR_nI, nI_clamp, nI_add, pk_mul, pk_sub, leT, leF, ltT, ltF, eqT, eqF, ite_true, ite_false, reduceIte, nz_nI, oc_s, oc_n, pk_div, pk_rem, m1F, L0, L1, L2, L3, L4, L5, L6, L7, L8, L9, L10, L11, L12, L19, L20, L24, L25, L27, L28, L30, L32, L37, L39, L40, L47, L48, L50, L55, L57, L60, L61, L63, L71, L80, L97, L99, L100, L120, L122, L128, L161, L17, L600, L1000000, L1024, L1408, isB0, isB1, subdm, inT, inFl, inFh]
  · show bX2_evenestShare_10 h _ _ (nI (2 ^ hP v)) = _
    unfold bX2_evenestShare_10
    simp (disch := omega) only [allPieces_nI ok hx, bd_some, gd_true, inR_nI, nI_clamp, nI_add, pk_mul, pk_sub, leT, leF, ltT, ltF, eqT, eqF, ite_true, ite_false, reduceIte, nz_nI, oc_s, oc_n, pk_div, pk_rem, m1F, L0, L1, L2, L3, L4, L5, L6, L7, L8, L9, L10, L11, L12, L19, L20, L24, L25, L27, L28, L30, L32, L37, L39, L40, L47, L48, L50, L55, L57, L60, L61, L63, L71, L80, L97, L99, L100, L120, L122, L128, L161, L17, L600, L1000000, L1024, L1408, isB0, isB1, subdm, inT, inFl, inFh]
    all_goals rfl
theorem heirsM {r : Rec} {n : Nat} {v : Hv} (ok : HvOK v) (hd : Hd r n v) (a : Int32) : iter (fun st : Int32 × Int32 × Int32 => bX10_heirs_25 r a st.1 st.2.1 st.2.2) (-nI 1, nI 1000000, nI 0) = bX10_heirs_142 r a (nI (amn (gp v) (2 ^ hP v - 1))) (nI (gp v (amn (gp v) (2 ^ hP v - 1)))) := by
  have hpP := pP ok
  have hP8 := ok.1
  have hp1 := p1 (hP v)
  have h0 := gp_le ok 0
  rw [iter_step (s := (-nI 1, nI 1000000, nI 0)) (s' := (nI 0, nI (gp v 0), nI 1)) (by
    show bX10_heirs_25 r a (-nI 1) (nI 1000000) (nI 0) = _
    unfold bX10_heirs_25
    simp (disch := omega) only [hd.P, L31, shl_T, gapM ok hd, bX10_heirs_111, bX10_heirs_126, ls_nI, Nat.min_eq_right, bd_some, gd_true, inR_nI, nI_clamp, nI_add, pk_mul, pk_sub, leT, leF, ltT, ltF, eqT, eqF, ite_true, ite_false, reduceIte, nz_nI, oc_s, oc_n, pk_div, pk_rem, m1F, L0, L1, L2, L3, L4, L5, L6, L7, L8, L9, L10, L11, L12, L19, L20, L24, L25, L27, L28, L30, L32, L37, L39, L40, L47, L48, L50, L55, L57, L60, L61, L63, L71, L80, L97, L99, L100, L120, L122, L128, L161, L17, L600, L1000000, L1024, L1408, isB0, isB1, subdm, inT, inFl, inFh])]
  refine loopA (step := fun st : Int32 × Int32 × Int32 => bX10_heirs_25 r a st.1 st.2.1 st.2.2) (fun i => (nI (amn (gp v) (i - 1)), nI (gp v (amn (gp v) (i - 1))), nI i)) 1 (2 ^ hP v) hp1 (fun i hi1 hi => ?_) ?_
  · show bX10_heirs_25 r a (nI (amn (gp v) (i - 1))) (nI (gp v (amn (gp v) (i - 1)))) (nI i) = _
    obtain ⟨j, rfl⟩ : ∃ j, i = j + 1 := ⟨i - 1, by omega⟩
    simp only [Nat.add_sub_cancel]
    have h1 := gp_le ok (j + 1)
    have h2 := gp_le ok (amn (gp v) j)
    unfold bX10_heirs_25
    by_cases c : gp v (j + 1) < gp v (amn (gp v) j)
    · simp (disch := omega) only [hd.P, L31, shl_T, gapM ok hd, bX10_heirs_111, bX10_heirs_126, ls_nI, amn_min, amn, c, bd_some, gd_true, inR_nI, nI_clamp, nI_add, pk_mul, pk_sub, leT, leF, ltT, ltF, eqT, eqF, ite_true, ite_false, reduceIte, nz_nI, oc_s, oc_n, pk_div, pk_rem, m1F, L0, L1, L2, L3, L4, L5, L6, L7, L8, L9, L10, L11, L12, L19, L20, L24, L25, L27, L28, L30, L32, L37, L39, L40, L47, L48, L50, L55, L57, L60, L61, L63, L71, L80, L97, L99, L100, L120, L122, L128, L161, L17, L600, L1000000, L1024, L1408, isB0, isB1, subdm, inT, inFl, inFh]
    · simp (disch := omega) only [hd.P, L31, shl_T, gapM ok hd, bX10_heirs_111, bX10_heirs_126, ls_nI, amn_min, amn, c, bd_some, gd_true, inR_nI, nI_clamp, nI_add, pk_mul, pk_sub, leT, leF, ltT, ltF, eqT, eqF, ite_true, ite_false, reduceIte, nz_nI, oc_s, oc_n, pk_div, pk_rem, m1F, L0, L1, L2, L3, L4, L5, L6, L7, L8, L9, L10, L11, L12, L19, L20, L24, L25, L27, L28, L30, L32, L37, L39, L40, L47, L48, L50, L55, L57, L60, L61, L63, L71, L80, L97, L99, L100, L120, L122, L128, L161, L17, L600, L1000000, L1024, L1408, isB0, isB1, subdm, inT, inFl, inFh]
  · show bX10_heirs_25 r a _ _ (nI (2 ^ hP v)) = _
    unfold bX10_heirs_25
    simp (disch := omega) only [hd.P, L31, shl_T, bd_some, gd_true, inR_nI, nI_clamp, nI_add, pk_mul, pk_sub, leT, leF, ltT, ltF, eqT, eqF, ite_true, ite_false, reduceIte, nz_nI, oc_s, oc_n, pk_div, pk_rem, m1F, L0, L1, L2, L3, L4, L5, L6, L7, L8, L9, L10, L11, L12, L19, L20, L24, L25, L27, L28, L30, L32, L37, L39, L40, L47, L48, L50, L55, L57, L60, L61, L63, L71, L80, L97, L99, L100, L120, L122, L128, L161, L17, L600, L1000000, L1024, L1408, isB0, isB1, subdm, inT, inFl, inFh]
theorem ob_heirs : Ob_heirs Inv := by
  intro g a1 a2 hI h4
  rcases house_cases hI a1 with ⟨h1, h2⟩ | ⟨n, v, hn, rfl, ok, hx, h1, h2, h3⟩
  · have h2 := h2 _ (m0 _)
    refine ⟨-1, _, ?_, ?_, hI.keep (XP.rf hI.1) (m0 _)⟩
    · unfold fX9_heirs; simp (disch := omega) only [h1, bd_some, gd_true, inR_nI, nI_clamp, nI_add, pk_mul, pk_sub, leT, leF, ltT, ltF, eqT, eqF, ite_true, ite_false, reduceIte, nz_nI, oc_s, oc_n, pk_div, pk_rem, m1F, L0, L1, L2, L3, L4, L5, L6, L7, L8, L9, L10, L11, L12, L19, L20, L24, L25, L27, L28, L30, L32, L37, L39, L40, L47, L48, L50, L55, L57, L60, L61, L63, L71, L80, L97, L99, L100, L120, L122, L128, L161, L17, L600, L1000000, L1024, L1408, isB0, isB1, subdm, inT, inFl, inFh]
    · unfold fX10_heirs; simp (disch := omega) only [h2, bd_some, gd_true, inR_nI, nI_clamp, nI_add, pk_mul, pk_sub, leT, leF, ltT, ltF, eqT, eqF, ite_true, ite_false, reduceIte, nz_nI, oc_s, oc_n, pk_div, pk_rem, m1F, L0, L1, L2, L3, L4, L5, L6, L7, L8, L9, L10, L11, L12, L19, L20, L24, L25, L27, L28, L30, L32, L37, L39, L40, L47, L48, L50, L55, L57, L60, L61, L63, L71, L80, L97, L99, L100, L120, L122, L128, L161, L17, L600, L1000000, L1024, L1408, isB0, isB1, subdm, inT, inFl, inFh]
  · obtain ⟨r', e1, hd, m1⟩ := h3 _ (m0 _)
    have hpP := pP ok
    have hb := amn_le (gp v) (2 ^ hP v - 1)
    rcases h4 with rfl | rfl
    · refine ⟨nI (amn (gp v) (2 ^ hP v - 1)), r', ?_, ?_, hI.keep (XP.rf hI.1) ((m0 _).tr m1)⟩
      · unfold fX9_heirs; simp (disch := omega) only [h1, h2, shareX ok hx, bd_some, gd_true, inR_nI, nI_clamp, nI_add, pk_mul, pk_sub, leT, leF, ltT, ltF, eqT, eqF, ite_true, ite_false, reduceIte, nz_nI, oc_s, oc_n, pk_div, pk_rem, m1F, L0, L1, L2, L3, L4, L5, L6, L7, L8, L9, L10, L11, L12, L19, L20, L24, L25, L27, L28, L30, L32, L37, L39, L40, L47, L48, L50, L55, L57, L60, L61, L63, L71, L80, L97, L99, L100, L120, L122, L128, L161, L17, L600, L1000000, L1024, L1408, isB0, isB1, subdm, inT, inFl, inFh]
      · unfold fX10_heirs; simp (disch := omega) only [e1, heirsM ok hd, bX10_heirs_142, bd_some, gd_true, inR_nI, nI_clamp, nI_add, pk_mul, pk_sub, leT, leF, ltT, ltF, eqT, eqF, ite_true, ite_false, reduceIte, nz_nI, oc_s, oc_n, pk_div, pk_rem, m1F, L0, L1, L2, L3, L4, L5, L6, L7, L8, L9, L10, L11, L12, L19, L20, L24, L25, L27, L28, L30, L32, L37, L39, L40, L47, L48, L50, L55, L57, L60, L61, L63, L71, L80, L97, L99, L100, L120, L122, L128, L161, L17, L600, L1000000, L1024, L1408, isB0, isB1, subdm, inT, inFl, inFh]
    · refine ⟨nI (gp v (amn (gp v) (2 ^ hP v - 1))), r', ?_, ?_, hI.keep (XP.rf hI.1) ((m0 _).tr m1)⟩
      · unfold fX9_heirs; simp (disch := omega) only [h1, h2, shareX ok hx, shareGap_nI ok hx, bd_some, gd_true, inR_nI, nI_clamp, nI_add, pk_mul, pk_sub, leT, leF, ltT, ltF, eqT, eqF, ite_true, ite_false, reduceIte, nz_nI, oc_s, oc_n, pk_div, pk_rem, m1F, L0, L1, L2, L3, L4, L5, L6, L7, L8, L9, L10, L11, L12, L19, L20, L24, L25, L27, L28, L30, L32, L37, L39, L40, L47, L48, L50, L55, L57, L60, L61, L63, L71, L80, L97, L99, L100, L120, L122, L128, L161, L17, L600, L1000000, L1024, L1408, isB0, isB1, subdm, inT, inFl, inFh]
      · unfold fX10_heirs; simp (disch := omega) only [e1, heirsM ok hd, bX10_heirs_142, bd_some, gd_true, inR_nI, nI_clamp, nI_add, pk_mul, pk_sub, leT, leF, ltT, ltF, eqT, eqF, ite_true, ite_false, reduceIte, nz_nI, oc_s, oc_n, pk_div, pk_rem, m1F, L0, L1, L2, L3, L4, L5, L6, L7, L8, L9, L10, L11, L12, L19, L20, L24, L25, L27, L28, L30, L32, L37, L39, L40, L47, L48, L50, L55, L57, L60, L61, L63, L71, L80, L97, L99, L100, L120, L122, L128, L161, L17, L600, L1000000, L1024, L1408, isB0, isB1, subdm, inT, inFl, inFh]
