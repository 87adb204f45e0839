/-! fitter -/
def wt1 (v : Hv) (p t s q : Nat) : Nat := wHalf (wFull (hWt v s) (hKi v s) (if q = p then t else hTa v q)) ((hKn v q).testBit s)
theorem wt1_le {v : Hv} (ok : HvOK v) {p t s q : Nat} (hs : s < hS v) : wt1 v p t s q ≤ 60 := by
  obtain ⟨-, -, -, -, -, -, h, -⟩ := ok
  have h1 := (h s hs).2.2
  have key : ∀ x, wFull (hWt v s) (hKi v s) x ≤ 60 := fun x => by unfold wFull; split <;> omega
  have := key (if q = p then t else hTa v q)
  unfold wt1 wHalf
  split <;> omega
def wA (v : Hv) (p t : Nat) : Nat := sm (fun q => sm (fun s => wt1 v p t s q) (hS v)) (hP v)
theorem wA_le {v : Hv} (ok : HvOK v) (p t : Nat) : wA v p t ≤ 4800 := by
  have hP8 := ok.1
  have hS10 := ok.2.1
  have h1 : ∀ q, q < hP v → sm (fun s => wt1 v p t s q) (hS v) ≤ 600 := by
    intro q hq
    have := sm_le (f := fun s => wt1 v p t s q) (c := 60) (n := hS v) (fun i hi => wt1_le ok hi)
    omega
  have := sm_le h1
  unfold wA
  omega
theorem wall_in {h : Rec} {v : Hv} (ok : HvOK v) (hx : HX h v) {p t q a : Nat} (hp : p < hP v) (ht : t < 4) (hq : q < hP v) (ha : a < 2 ^ 20) : iter (fun st : Int32 × Int32 => bX2_worthOfAll_17 h (nI p) (nI t) st.1 (nI q) st.2) (nI a, nI 0) = some (.inl (nI (a + sm (fun s => wt1 v p t s q) (hS v)), nI (q + 1))) := by
  have hP8 := ok.1
  have hS10 := ok.2.1
  have hT := (ok.2.2.2.1 q hq).1
  refine loopO (step := fun st : Int32 × Int32 => bX2_worthOfAll_17 h (nI p) (nI t) st.1 (nI q) st.2) (fun i => (nI (a + sm (fun s => wt1 v p t s q) i), nI i)) (hS v) (fun i hi => ?_) ?_
  · show bX2_worthOfAll_17 h (nI p) (nI t) (nI (a + sm (fun s => wt1 v p t s q) i)) (nI q) (nI i) = some (.inl (nI (a + (sm (fun s => wt1 v p t s q) i + wt1 v p t i q)), nI (i + 1)))
    unfold bX2_worthOfAll_17 bX2_worthOfAll_49
    by_cases e : q = p
    · simp (disch := omega) only [hx.S, hx.ta, worthIf_nI ok hx, wt1, if_pos e, Nat.add_assoc, bd_some, gd_true, inR_nI, nI_clamp, nI_add, pk_mul, pk_sub, leT, leF, ltT, ltF, eqT, eqF, ite_true, ite_false, reduceIte, nz_nI, oc_s, oc_n, pk_div, pk_rem, m1F, L0, L1, L2, L3, L4, L5, L6, L7, L8, L9, L10, L11, L12, L19, L20, L24, L25, L27, L28, L30, L32, L37, L39, L40, L47, L48, L50, L55, L57, L60, L61, L63, L71, L80, L97, L99, L100, L120, L122, L128, L161, L17, L600, L1000000, L1024, L1408, isB0, isB1, subdm, inT, inFl, inFh]
    · simp (disch := omega) only [hx.S, hx.ta, worthIf_nI ok hx, wt1, if_neg e, Nat.add_assoc, bd_some, gd_true, inR_nI, nI_clamp, nI_add, pk_mul, pk_sub, leT, leF, ltT, ltF, eqT, eqF, ite_true, ite_false, reduceIte, nz_nI, oc_s, oc_n, pk_div, pk_rem, m1F, L0, L1, L2, L3, L4, L5, L6, L7, L8, L9, L10, L11, L12, L19, L20, L24, L25, L27, L28, L30, L32, L37, L39, L40, L47, L48, L50, L55, L57, L60, L61, L63, L71, L80, L97, L99, L100, L120, L122, L128, L161, L17, L600, L1000000, L1024, L1408, isB0, isB1, subdm, inT, inFl, inFh]
  · show bX2_worthOfAll_17 h (nI p) (nI t) (nI (a + sm (fun s => wt1 v p t s q) (hS v))) (nI q) (nI (hS v)) = _
    unfold bX2_worthOfAll_17 bX2_worthOfAll_60
    simp (disch := omega) only [hx.S, bd_some, gd_true, inR_nI, nI_clamp, nI_add, pk_mul, pk_sub, leT, leF, ltT, ltF, eqT, eqF, ite_true, ite_false, reduceIte, nz_nI, oc_s, oc_n, pk_div, pk_rem, m1F, L0, L1, L2, L3, L4, L5, L6, L7, L8, L9, L10, L11, L12, L19, L20, L24, L25, L27, L28, L30, L32, L37, L39, L40, L47, L48, L50, L55, L57, L60, L61, L63, L71, L80, L97, L99, L100, L120, L122, L128, L161, L17, L600, L1000000, L1024, L1408, isB0, isB1, subdm, inT, inFl, inFh]
theorem worthOfAll_nI {h : Rec} {v : Hv} (ok : HvOK v) (hx : HX h v) {p t : Nat} (hp : p < hP v) (ht : t < 4) : fX2_worthOfAll h (nI p) (nI t) = some (nI (wA v p t)) := by
  have hP8 := ok.1
  have hS10 := ok.2.1
  have h1 : ∀ q, q < hP v → sm (fun s => wt1 v p t s q) (hS v) ≤ 600 := by
    intro q hq
    have := sm_le (f := fun s => wt1 v p t s q) (c := 60) (n := hS v) (fun i hi => wt1_le ok hi)
    omega
  unfold fX2_worthOfAll
  refine loopO (step := fun st : Int32 × Int32 => bX2_worthOfAll_5 h (nI p) (nI t) st.1 st.2) (fun i => (nI (sm (fun q => sm (fun s => wt1 v p t s q) (hS v)) i), nI i)) (hP v) (fun i hi => ?_) ?_
  · show bX2_worthOfAll_5 h (nI p) (nI t) (nI (sm (fun q => sm (fun s => wt1 v p t s q) (hS v)) i)) (nI i) = _
    have h2 := sm_le (f := fun q => sm (fun s => wt1 v p t s q) (hS v)) (n := i) (fun j hj => h1 j (by omega))
    unfold bX2_worthOfAll_5
    simp (disch := omega) only [hx.P, wall_in ok hx, bd_some, gd_true, inR_nI, nI_clamp, nI_add, pk_mul, pk_sub, leT, leF, ltT, ltF, eqT, eqF, ite_true, ite_false, reduceIte, nz_nI, oc_s, oc_n, pk_div, pk_rem, m1F, L0, L1, L2, L3, L4, L5, L6, L7, L8, L9, L10, L11, L12, L19, L20, L24, L25, L27, L28, L30, L32, L37, L39, L40, L47, L48, L50, L55, L57, L60, L61, L63, L71, L80, L97, L99, L100, L120, L122, L128, L161, L17, L600, L1000000, L1024, L1408, isB0, isB1, subdm, inT, inFl, inFh]
    all_goals rfl
  · show bX2_worthOfAll_5 h (nI p) (nI t) _ (nI (hP v)) = _
    unfold bX2_worthOfAll_5
    simp (disch := omega) only [hx.P, bd_some, gd_true, inR_nI, nI_clamp, nI_add, pk_mul, pk_sub, leT, leF, ltT, ltF, eqT, eqF, ite_true, ite_false, reduceIte, nz_nI, oc_s, oc_n, pk_div, pk_rem, m1F, L0, L1, L2, L3, L4, L5, L6, L7, L8, L9, L10, L11, L12, L19, L20, L24, L25, L27, L28, L30, L32, L37, L39, L40, L47, L48, L50, L55, L57, L60, L61, L63, L71, L80, L97, L99, L100, L120, L122, L128, L161, L17, L600, L1000000, L1024, L1408, isB0, isB1, subdm, inT, inFl, inFh]
    all_goals rfl
theorem allW_in {r : Rec} {n : Nat} {v : Hv} (ok : HvOK v) (hd : Hd r n v) {p t s a : Nat} (hp : p < hP v) (ht : t < 4) (hs : s < hS v) : iter (fun st : Int32 × Int32 => bX10_allWorth_17 r (nI p) (nI t) st.1 (nI s) st.2) (nI a, nI 0) = some (.inl (nI (a + sm (fun q => wt1 v p t s q) (hP v)), nI (s + 1))) := by
  have hP8 := ok.1
  have hS10 := ok.2.1
  have hk := (ok.2.2.2.2.2.2.1 s hs)
  refine loopO (step := fun st : Int32 × Int32 => bX10_allWorth_17 r (nI p) (nI t) st.1 (nI s) st.2) (fun i => (nI (a + sm (fun q => wt1 v p t s q) i), nI i)) (hP v) (fun i hi => ?_) ?_
  · show bX10_allWorth_17 r (nI p) (nI t) (nI (a + sm (fun q => wt1 v p t s q) i)) (nI s) (nI i) = some (.inl (nI (a + (sm (fun q => wt1 v p t s q) i + wt1 v p t s i)), nI (i + 1)))
    have hT := (ok.2.2.2.1 i hi).1
    have hk1 := kn_lt ok i
    unfold bX10_allWorth_17
    have e2 : ∀ x, x < 4 → (bX10_allWorth_44 r (nI p) (nI t) (nI (a + sm (fun q => wt1 v p t s q) i)) (nI s) (nI i) (nI x)) = some (.inl (nI (a + (sm (fun q => wt1 v p t s q) i + wHalf (wFull (hWt v s) (hKi v s) x) ((hKn v i).testBit s))), nI (i + 1))) := by
      intro x hx4
      unfold bX10_allWorth_44 bX10_allWorth_74 bX10_allWorth_102 wFull
      by_cases c : hKi v s = x
      · cases c2 : (hKn v i).testBit s
        · simp (disch := omega) only [hd.wt ok, hd.ki ok, hd.kn, has_nI, c, c2, wHalf, Nat.add_assoc, Nat.mul_comm, Bool.false_eq_true, bd_some, gd_true, inR_nI, nI_clamp, nI_add, pk_mul, pk_sub, leT, leF, ltT, ltF, eqT, eqF, ite_true, ite_false, reduceIte, nz_nI, oc_s, oc_n, pk_div, pk_rem, m1F, L0, L1, L2, L3, L4, L5, L6, L7, L8, L9, L10, L11, L12, L19, L20, L24, L25, L27, L28, L30, L32, L37, L39, L40, L47, L48, L50, L55, L57, L60, L61, L63, L71, L80, L97, L99, L100, L120, L122, L128, L161, L17, L600, L1000000, L1024, L1408, isB0, isB1, subdm, inT, inFl, inFh]
        · simp (disch := omega) only [hd.wt ok, hd.ki ok, hd.kn, has_nI, c, c2, wHalf, Nat.add_assoc, Nat.mul_comm, bd_some, gd_true, inR_nI, nI_clamp, nI_add, pk_mul, pk_sub, leT, leF, ltT, ltF, eqT, eqF, ite_true, ite_false, reduceIte, nz_nI, oc_s, oc_n, pk_div, pk_rem, m1F, L0, L1, L2, L3, L4, L5, L6, L7, L8, L9, L10, L11, L12, L19, L20, L24, L25, L27, L28, L30, L32, L37, L39, L40, L47, L48, L50, L55, L57, L60, L61, L63, L71, L80, L97, L99, L100, L120, L122, L128, L161, L17, L600, L1000000, L1024, L1408, isB0, isB1, subdm, inT, inFl, inFh]
      · cases c2 : (hKn v i).testBit s
        · simp (disch := omega) only [hd.wt ok, hd.ki ok, hd.kn, has_nI, c, c2, wHalf, Nat.add_assoc, Nat.mul_one, Bool.false_eq_true, bd_some, gd_true, inR_nI, nI_clamp, nI_add, pk_mul, pk_sub, leT, leF, ltT, ltF, eqT, eqF, ite_true, ite_false, reduceIte, nz_nI, oc_s, oc_n, pk_div, pk_rem, m1F, L0, L1, L2, L3, L4, L5, L6, L7, L8, L9, L10, L11, L12, L19, L20, L24, L25, L27, L28, L30, L32, L37, L39, L40, L47, L48, L50, L55, L57, L60, L61, L63, L71, L80, L97, L99, L100, L120, L122, L128, L161, L17, L600, L1000000, L1024, L1408, isB0, isB1, subdm, inT, inFl, inFh]
        · simp (disch := omega) only [hd.wt ok, hd.ki ok, hd.kn, has_nI, c, c2, wHalf, Nat.add_assoc, Nat.mul_one, bd_some, gd_true, inR_nI, nI_clamp, nI_add, pk_mul, pk_sub, leT, leF, ltT, ltF, eqT, eqF, ite_true, ite_false, reduceIte, nz_nI, oc_s, oc_n, pk_div, pk_rem, m1F, L0, L1, L2, L3, L4, L5, L6, L7, L8, L9, L10, L11, L12, L19, L20, L24, L25, L27, L28, L30, L32, L37, L39, L40, L47, L48, L50, L55, L57, L60, L61, L63, L71, L80, L97, L99, L100, L120, L122, L128, L161, L17, L600, L1000000, L1024, L1408, isB0, isB1, subdm, inT, inFl, inFh]
    by_cases e : i = p
    · have ew : wt1 v p t s i = wHalf (wFull (hWt v s) (hKi v s) t) ((hKn v i).testBit s) := by unfold wt1; rw [if_pos e]
      simp (disch := omega) only [hd.P, e2 t ht, ew, bd_some, gd_true, inR_nI, nI_clamp, nI_add, pk_mul, pk_sub, leT, leF, ltT, ltF, eqT, eqF, ite_true, ite_false, reduceIte, nz_nI, oc_s, oc_n, pk_div, pk_rem, m1F, L0, L1, L2, L3, L4, L5, L6, L7, L8, L9, L10, L11, L12, L19, L20, L24, L25, L27, L28, L30, L32, L37, L39, L40, L47, L48, L50, L55, L57, L60, L61, L63, L71, L80, L97, L99, L100, L120, L122, L128, L161, L17, L600, L1000000, L1024, L1408, isB0, isB1, subdm, inT, inFl, inFh]
    · have ew : wt1 v p t s i = wHalf (wFull (hWt v s) (hKi v s) (hTa v i)) ((hKn v i).testBit s) := by unfold wt1; rw [if_neg e]
      simp (disch := omega) only [hd.P, hd.ta ok, e2 (hTa v i) hT, ew, bd_some, gd_true, inR_nI, nI_clamp, nI_add, pk_mul, pk_sub, leT, leF, ltT, ltF, eqT, eqF, ite_true, ite_false, reduceIte, nz_nI, oc_s, oc_n, pk_div, pk_rem, m1F, L0, L1, L2, L3, L4, L5, L6, L7, L8, L9, L10, L11, L12, L19, L20, L24, L25, L27, L28, L30, L32, L37, L39, L40, L47, L48, L50, L55, L57, L60, L61, L63, L71, L80, L97, L99, L100, L120, L122, L128, L161, L17, L600, L1000000, L1024, L1408, isB0, isB1, subdm, inT, inFl, inFh]
  · show bX10_allWorth_17 r (nI p) (nI t) (nI (a + sm (fun q => wt1 v p t s q) (hP v))) (nI s) (nI (hP v)) = _
    unfold bX10_allWorth_17 bX10_allWorth_110
    simp (disch := omega) only [hd.P, bd_some, gd_true, inR_nI, nI_clamp, nI_add, pk_mul, pk_sub, leT, leF, ltT, ltF, eqT, eqF, ite_true, ite_false, reduceIte, nz_nI, oc_s, oc_n, pk_div, pk_rem, m1F, L0, L1, L2, L3, L4, L5, L6, L7, L8, L9, L10, L11, L12, L19, L20, L24, L25, L27, L28, L30, L32, L37, L39, L40, L47, L48, L50, L55, L57, L60, L61, L63, L71, L80, L97, L99, L100, L120, L122, L128, L161, L17, L600, L1000000, L1024, L1408, isB0, isB1, subdm, inT, inFl, inFh]
    all_goals rfl
theorem allWorth_nI {r : Rec} {n : Nat} {v : Hv} (ok : HvOK v) (hd : Hd r n v) {p t : Nat} (hp : p < hP v) (ht : t < 4) : fX10_allWorth r (nI p) (nI t) = some (nI (wA v p t)) := by
  have hP8 := ok.1
  have hS10 := ok.2.1
  unfold fX10_allWorth
  rw [show wA v p t = sm (fun s => sm (fun q => wt1 v p t s q) (hP v)) (hS v) from sm_comm _ _ _]
  refine loopO (step := fun st : Int32 × Int32 => bX10_allWorth_5 r (nI p) (nI t) st.1 st.2) (fun i => (nI (sm (fun s => sm (fun q => wt1 v p t s q) (hP v)) i), nI i)) (hS v) (fun i hi => ?_) ?_
  · show bX10_allWorth_5 r (nI p) (nI t) (nI (sm (fun s => sm (fun q => wt1 v p t s q) (hP v)) i)) (nI i) = _
    unfold bX10_allWorth_5
    simp (disch := omega) only [hd.S, allW_in ok hd, bd_some, gd_true, inR_nI, nI_clamp, nI_add, pk_mul, pk_sub, leT, leF, ltT, ltF, eqT, eqF, ite_true, ite_false, reduceIte, nz_nI, oc_s, oc_n, pk_div, pk_rem, m1F, L0, L1, L2, L3, L4, L5, L6, L7, L8, L9, L10, L11, L12, L19, L20, L24, L25, L27, L28, L30, L32, L37, L39, L40, L47, L48, L50, L55, L57, L60, L61, L63, L71, L80, L97, L99, L100, L120, L122, L128, L161, L17, L600, L1000000, L1024, L1408, isB0, isB1, subdm, inT, inFl, inFh]
    all_goals rfl
  · show bX10_allWorth_5 r (nI p) (nI t) _ (nI (hS v)) = _
    unfold bX10_allWorth_5
    simp (disch := omega) only [hd.S, bd_some, gd_true, inR_nI, nI_clamp, nI_add, pk_mul, pk_sub, leT, leF, ltT, ltF, eqT, eqF, ite_true, ite_false, reduceIte, nz_nI, oc_s, oc_n, pk_div, pk_rem, m1F, L0, L1, L2, L3, L4, L5, L6, L7, L8, L9, L10, L11, L12, L19, L20, L24, L25, L27, L28, L30, L32, L37, L39, L40, L47, L48, L50, L55, L57, L60, L61, L63, L71, L80, L97, L99, L100, L120, L122, L128, L161, L17, L600, L1000000, L1024, L1408, isB0, isB1, subdm, inT, inFl, inFh]
    all_goals rfl
def ftS (v : Hv) (k : Nat) : Option (Nat × Nat) := fo (fun k c => stp c (10 * (k / 4) + k % 4) (wA v (k / 4) (k % 4))) none k
def eB0 : Option (Nat × Nat) → Int32
  | none => nI 0
  | some x => nI x.1
def ftG (v : Hv) (c : Option (Nat × Nat)) : Prop := ∀ x, c = some x → ∃ p t, p < hP v ∧ t < 4 ∧ x = (10 * p + t, wA v p t)
theorem ftG_S {v : Hv} : ∀ k, k ≤ 4 * hP v → ftG v (ftS v k)
  | 0, _ => fun x hx => by cases hx
  | k + 1, h => by
    have ih := ftG_S (v := v) k (by omega)
    intro x hx
    have hx : stp (ftS v k) (10 * (k / 4) + k % 4) (wA v (k / 4) (k % 4)) = some x := hx
    generalize ftS v k = c at ih hx
    rcases c with _ | ⟨b, m⟩
    · exact ⟨k / 4, k % 4, by omega, by omega, (Option.some.inj hx).symm⟩
    · unfold stp at hx
      dsimp only at hx
      by_cases c : m < wA v (k / 4) (k % 4)
      · rw [if_pos c] at hx
        exact ⟨k / 4, k % 4, by omega, by omega, (Option.some.inj hx).symm⟩
      · rw [if_neg c] at hx
        exact ih x hx
theorem ftG_b {v : Hv} (ok : HvOK v) {b m : Nat} (h : ftG v (some (b, m))) : b < 80 ∧ m ≤ 4800 := by
  have hP8 := ok.1
  obtain ⟨p, q, hp, hq, e⟩ := h _ rfl
  have e1 : b = 10 * p + q := congrArg Prod.fst e
  have e2 : m = wA v p q := congrArg Prod.snd e
  have := wA_le ok p q
  omega
theorem ftX_in {h : Rec} {v : Hv} (ok : HvOK v) (hx : HX h v) {p : Nat} (hp : p < hP v) : iter (fun st : Int32 × Int32 × Int32 => bX2_fittestTaste_17 h st.1 st.2.1 (nI p) st.2.2) (eB0 (ftS v (4 * p)), eM (ftS v (4 * p)), nI 0) = some (.inl (eB0 (ftS v (4 * (p + 1))), eM (ftS v (4 * (p + 1))), nI (p + 1))) := by
  have hP8 := ok.1
  refine loopO (step := fun st : Int32 × Int32 × Int32 => bX2_fittestTaste_17 h st.1 st.2.1 (nI p) st.2.2) (fun i => (eB0 (ftS v (4 * p + i)), eM (ftS v (4 * p + i)), nI i)) 4 (fun i hi => ?_) ?_
  · show bX2_fittestTaste_17 h (eB0 (ftS v (4 * p + i))) (eM (ftS v (4 * p + i))) (nI p) (nI i) = some (.inl (eB0 (stp (ftS v (4 * p + i)) (10 * ((4 * p + i) / 4) + (4 * p + i) % 4) (wA v ((4 * p + i) / 4) ((4 * p + i) % 4))), eM (stp (ftS v (4 * p + i)) (10 * ((4 * p + i) / 4) + (4 * p + i) % 4) (wA v ((4 * p + i) / 4) ((4 * p + i) % 4))), nI (i + 1)))
    rw [show (4 * p + i) / 4 = p by omega, show (4 * p + i) % 4 = i by omega]
    have hg := ftG_S (v := v) (4 * p + i) (by omega)
    have h1 := wA_le ok p i
    unfold bX2_fittestTaste_17 bX2_fittestTaste_49
    generalize ftS v (4 * p + i) = d at hg ⊢
    rcases d with _ | ⟨b, m⟩
    · simp (disch := omega) only [worthOfAll_nI ok hx, eB0, eM, stp, m1le, bd_some, gd_true, inR_nI, nI_clamp, nI_add, pk_mul, pk_sub, leT, leF, ltT, ltF, eqT, eqF, ite_true, ite_false, reduceIte, nz_nI, oc_s, oc_n, pk_div, pk_rem, m1F, L0, L1, L2, L3, L4, L5, L6, L7, L8, L9, L10, L11, L12, L19, L20, L24, L25, L27, L28, L30, L32, L37, L39, L40, L47, L48, L50, L55, L57, L60, L61, L63, L71, L80, L97, L99, L100, L120, L122, L128, L161, L17, L600, L1000000, L1024, L1408, isB0, isB1, subdm, inT, inFl, inFh]
    · have h2 := ftG_b ok hg
      by_cases k : m < wA v p i
      · simp (disch := omega) only [worthOfAll_nI ok hx, eB0, eM, stp, k, bd_some, gd_true, inR_nI, nI_clamp, nI_add, pk_mul, pk_sub, leT, leF, ltT, ltF, eqT, eqF, ite_true, ite_false, reduceIte, nz_nI, oc_s, oc_n, pk_div, pk_rem, m1F, L0, L1, L2, L3, L4, L5, L6, L7, L8, L9, L10, L11, L12, L19, L20, L24, L25, L27, L28, L30, L32, L37, L39, L40, L47, L48, L50, L55, L57, L60, L61, L63, L71, L80, L97, L99, L100, L120, L122, L128, L161, L17, L600, L1000000, L1024, L1408, isB0, isB1, subdm, inT, inFl, inFh]
      · simp (disch := omega) only [worthOfAll_nI ok hx, eB0, eM, stp, k, bd_some, gd_true, inR_nI, nI_clamp, nI_add, pk_mul, pk_sub, leT, leF, ltT, ltF, eqT, eqF, ite_true, ite_false, reduceIte, nz_nI, oc_s, oc_n, pk_div, pk_rem, m1F, L0, L1, L2, L3, L4, L5, L6, L7, L8, L9, L10, L11, L12, L19, L20, L24, L25, L27, L28, L30, L32, L37, L39, L40, L47, L48, L50, L55, L57, L60, L61, L63, L71, L80, L97, L99, L100, L120, L122, L128, L161, L17, L600, L1000000, L1024, L1408, isB0, isB1, subdm, inT, inFl, inFh]
  · show bX2_fittestTaste_17 h _ _ (nI p) (nI 4) = _
    unfold bX2_fittestTaste_17 bX2_fittestTaste_55
    simp (disch := omega) only [bd_some, gd_true, inR_nI, nI_clamp, nI_add, pk_mul, pk_sub, leT, leF, ltT, ltF, eqT, eqF, ite_true, ite_false, reduceIte, nz_nI, oc_s, oc_n, pk_div, pk_rem, m1F, L0, L1, L2, L3, L4, L5, L6, L7, L8, L9, L10, L11, L12, L19, L20, L24, L25, L27, L28, L30, L32, L37, L39, L40, L47, L48, L50, L55, L57, L60, L61, L63, L71, L80, L97, L99, L100, L120, L122, L128, L161, L17, L600, L1000000, L1024, L1408, isB0, isB1, subdm, inT, inFl, inFh]
    all_goals rfl
theorem fittestTaste_nI {h : Rec} {v : Hv} (ok : HvOK v) (hx : HX h v) : fX2_fittestTaste h = some (eB0 (ftS v (4 * hP v))) := by
  have hP8 := ok.1
  unfold fX2_fittestTaste
  refine loopO (step := fun st : Int32 × Int32 × Int32 => bX2_fittestTaste_6 h st.1 st.2.1 st.2.2) (fun i => (eB0 (ftS v (4 * i)), eM (ftS v (4 * i)), nI i)) (hP v) (fun i hi => ?_) ?_
  · show bX2_fittestTaste_6 h (eB0 (ftS v (4 * i))) (eM (ftS v (4 * i))) (nI i) = _
    unfold bX2_fittestTaste_6
    simp (disch := omega) only [hx.P, ftX_in ok hx, bd_some, gd_true, inR_nI, nI_clamp, nI_add, pk_mul, pk_sub, leT, leF, ltT, ltF, eqT, eqF, ite_true, ite_false, reduceIte, nz_nI, oc_s, oc_n, pk_div, pk_rem, m1F, L0, L1, L2, L3, L4, L5, L6, L7, L8, L9, L10, L11, L12, L19, L20, L24, L25, L27, L28, L30, L32, L37, L39, L40, L47, L48, L50, L55, L57, L60, L61, L63, L71, L80, L97, L99, L100, L120, L122, L128, L161, L17, L600, L1000000, L1024, L1408, isB0, isB1, subdm, inT, inFl, inFh]
  · show bX2_fittestTaste_6 h _ _ (nI (hP v)) = _
    unfold bX2_fittestTaste_6
    simp (disch := omega) only [hx.P, bd_some, gd_true, inR_nI, nI_clamp, nI_add, pk_mul, pk_sub, leT, leF, ltT, ltF, eqT, eqF, ite_true, ite_false, reduceIte, nz_nI, oc_s, oc_n, pk_div, pk_rem, m1F, L0, L1, L2, L3, L4, L5, L6, L7, L8, L9, L10, L11, L12, L19, L20, L24, L25, L27, L28, L30, L32, L37, L39, L40, L47, L48, L50, L55, L57, L60, L61, L63, L71, L80, L97, L99, L100, L120, L122, L128, L161, L17, L600, L1000000, L1024, L1408, isB0, isB1, subdm, inT, inFl, inFh]
    all_goals rfl
theorem ftM {r : Rec} {n : Nat} {v : Hv} (ok : HvOK v) (hd : Hd r n v) (a2 : Int32) : iter (fun st : Int32 × Int32 × Int32 => bX10_fitter_23 r a2 st.1 st.2.1 st.2.2) (-nI 1, -nI 1, nI 0) = bX10_fitter_87 r a2 (eB (ftS v (4 * hP v))) (eM (ftS v (4 * hP v))) := by
  have hP8 := ok.1
  refine loopO (step := fun st : Int32 × Int32 × Int32 => bX10_fitter_23 r a2 st.1 st.2.1 st.2.2) (fun i => (eB (ftS v i), eM (ftS v i), nI i)) (4 * hP v) (fun i hi => ?_) ?_
  · show bX10_fitter_23 r a2 (eB (ftS v i)) (eM (ftS v i)) (nI i) = some (.inl (eB (stp (ftS v i) (10 * (i / 4) + i % 4) (wA v (i / 4) (i % 4))), eM (stp (ftS v i) (10 * (i / 4) + i % 4) (wA v (i / 4) (i % 4))), nI (i + 1)))
    have hg := ftG_S (v := v) i (by omega)
    have h1 := wA_le ok (i / 4) (i % 4)
    unfold bX10_fitter_23 bX10_fitter_71
    generalize ftS v i = d at hg ⊢
    rcases d with _ | ⟨b, m⟩
    · simp (disch := omega) only [hd.P, allWorth_nI ok hd, eB, eM, stp, m1le, gr_m1, bd_some, gd_true, inR_nI, nI_clamp, nI_add, pk_mul, pk_sub, leT, leF, ltT, ltF, eqT, eqF, ite_true, ite_false, reduceIte, nz_nI, oc_s, oc_n, pk_div, pk_rem, m1F, L0, L1, L2, L3, L4, L5, L6, L7, L8, L9, L10, L11, L12, L19, L20, L24, L25, L27, L28, L30, L32, L37, L39, L40, L47, L48, L50, L55, L57, L60, L61, L63, L71, L80, L97, L99, L100, L120, L122, L128, L161, L17, L600, L1000000, L1024, L1408, isB0, isB1, subdm, inT, inFl, inFh]
    · have h2 := ftG_b ok hg
      by_cases k : m < wA v (i / 4) (i % 4)
      · simp (disch := omega) only [hd.P, allWorth_nI ok hd, eB, eM, stp, k, gr_nI, Nat.max_eq_right, bd_some, gd_true, inR_nI, nI_clamp, nI_add, pk_mul, pk_sub, leT, leF, ltT, ltF, eqT, eqF, ite_true, ite_false, reduceIte, nz_nI, oc_s, oc_n, pk_div, pk_rem, m1F, L0, L1, L2, L3, L4, L5, L6, L7, L8, L9, L10, L11, L12, L19, L20, L24, L25, L27, L28, L30, L32, L37, L39, L40, L47, L48, L50, L55, L57, L60, L61, L63, L71, L80, L97, L99, L100, L120, L122, L128, L161, L17, L600, L1000000, L1024, L1408, isB0, isB1, subdm, inT, inFl, inFh]
      · simp (disch := omega) only [hd.P, allWorth_nI ok hd, eB, eM, stp, k, gr_nI, Nat.max_eq_left, bd_some, gd_true, inR_nI, nI_clamp, nI_add, pk_mul, pk_sub, leT, leF, ltT, ltF, eqT, eqF, ite_true, ite_false, reduceIte, nz_nI, oc_s, oc_n, pk_div, pk_rem, m1F, L0, L1, L2, L3, L4, L5, L6, L7, L8, L9, L10, L11, L12, L19, L20, L24, L25, L27, L28, L30, L32, L37, L39, L40, L47, L48, L50, L55, L57, L60, L61, L63, L71, L80, L97, L99, L100, L120, L122, L128, L161, L17, L600, L1000000, L1024, L1408, isB0, isB1, subdm, inT, inFl, inFh]
  · show bX10_fitter_23 r a2 _ _ (nI (4 * hP v)) = _
    unfold bX10_fitter_23
    simp (disch := omega) only [hd.P, bd_some, gd_true, inR_nI, nI_clamp, nI_add, pk_mul, pk_sub, leT, leF, ltT, ltF, eqT, eqF, ite_true, ite_false, reduceIte, nz_nI, oc_s, oc_n, pk_div, pk_rem, m1F, L0, L1, L2, L3, L4, L5, L6, L7, L8, L9, L10, L11, L12, L19, L20, L24, L25, L27, L28, L30, L32, L37, L39, L40, L47, L48, L50, L55, L57, L60, L61, L63, L71, L80, L97, L99, L100, L120, L122, L128, L161, L17, L600, L1000000, L1024, L1408, isB0, isB1, subdm, inT, inFl, inFh]
theorem ftS_some {v : Hv} (h : 0 < hP v) : ∃ p t, p < hP v ∧ t < 4 ∧ ftS v (4 * hP v) = some (10 * p + t, wA v p t) := by
  have h1 : ∀ k, 0 < k → ftS v k ≠ none := by
    intro k hk
    cases k with
    | zero => omega
    | succ k =>
      show stp (ftS v k) _ _ ≠ none
      generalize ftS v k = c
      rcases c with _ | ⟨b, m⟩
      · intro h; cases h
      · unfold stp
        dsimp only
        split <;> (intro h; cases h)
  cases e : ftS v (4 * hP v) with
  | none => exact absurd e (h1 _ (by omega))
  | some x =>
    obtain ⟨p, t, hp, ht, e2⟩ := ftG_S (v := v) (4 * hP v) (Nat.le_refl _) x e
    exact ⟨p, t, hp, ht, by rw [e2]⟩
theorem ob_fitter : Ob_fitter Inv := by
  intro g a1 a2 hI h4
  rcases house_cases hI a1 with ⟨h1, h2⟩ | ⟨n, v, hn, rfl, ok, hx, h1, h2, h3⟩
  · have h2 := h2 _ (m0 _)
    refine ⟨-1, _, ?_, ?_, hI.keep (XP.rf hI.1) (m0 _)⟩
    · unfold fX9_fitter; simp (disch := omega) only [h1, bd_some, gd_true, inR_nI, nI_clamp, nI_add, pk_mul, pk_sub, leT, leF, ltT, ltF, eqT, eqF, ite_true, ite_false, reduceIte, nz_nI, oc_s, oc_n, pk_div, pk_rem, m1F, L0, L1, L2, L3, L4, L5, L6, L7, L8, L9, L10, L11, L12, L19, L20, L24, L25, L27, L28, L30, L32, L37, L39, L40, L47, L48, L50, L55, L57, L60, L61, L63, L71, L80, L97, L99, L100, L120, L122, L128, L161, L17, L600, L1000000, L1024, L1408, isB0, isB1, subdm, inT, inFl, inFh]
    · unfold fX10_fitter; simp (disch := omega) only [h2, bd_some, gd_true, inR_nI, nI_clamp, nI_add, pk_mul, pk_sub, leT, leF, ltT, ltF, eqT, eqF, ite_true, ite_false, reduceIte, nz_nI, oc_s, oc_n, pk_div, pk_rem, m1F, L0, L1, L2, L3, L4, L5, L6, L7, L8, L9, L10, L11, L12, L19, L20, L24, L25, L27, L28, L30, L32, L37, L39, L40, L47, L48, L50, L55, L57, L60, L61, L63, L71, L80, L97, L99, L100, L120, L122, L128, L161, L17, L600, L1000000, L1024, L1408, isB0, isB1, subdm, inT, inFl, inFh]
  · obtain ⟨r', e1, hd, m1⟩ := h3 _ (m0 _)
    have hP8 := ok.1
    by_cases c : hP v = 0
    · refine ⟨-1, r', ?_, ?_, hI.keep (XP.rf hI.1) ((m0 _).tr m1)⟩
      · unfold fX9_fitter; simp (disch := omega) only [h1, h2, hx.P, bd_some, gd_true, inR_nI, nI_clamp, nI_add, pk_mul, pk_sub, leT, leF, ltT, ltF, eqT, eqF, ite_true, ite_false, reduceIte, nz_nI, oc_s, oc_n, pk_div, pk_rem, m1F, L0, L1, L2, L3, L4, L5, L6, L7, L8, L9, L10, L11, L12, L19, L20, L24, L25, L27, L28, L30, L32, L37, L39, L40, L47, L48, L50, L55, L57, L60, L61, L63, L71, L80, L97, L99, L100, L120, L122, L128, L161, L17, L600, L1000000, L1024, L1408, isB0, isB1, subdm, inT, inFl, inFh]
      · unfold fX10_fitter
        have e : ftS v (4 * hP v) = none := by rw [c]; rfl
        rcases h4 with rfl | rfl
        · simp (disch := omega) only [e1, ftM ok hd, e, eB, eM, bX10_fitter_87, bd_some, gd_true, inR_nI, nI_clamp, nI_add, pk_mul, pk_sub, leT, leF, ltT, ltF, eqT, eqF, ite_true, ite_false, reduceIte, nz_nI, oc_s, oc_n, pk_div, pk_rem, m1F, L0, L1, L2, L3, L4, L5, L6, L7, L8, L9, L10, L11, L12, L19, L20, L24, L25, L27, L28, L30, L32, L37, L39, L40, L47, L48, L50, L55, L57, L60, L61, L63, L71, L80, L97, L99, L100, L120, L122, L128, L161, L17, L600, L1000000, L1024, L1408, isB0, isB1, subdm, inT, inFl, inFh]
        · simp (disch := omega) only [e1, ftM ok hd, e, eB, eM, bX10_fitter_87, bd_some, gd_true, inR_nI, nI_clamp, nI_add, pk_mul, pk_sub, leT, leF, ltT, ltF, eqT, eqF, ite_true, ite_false, reduceIte, nz_nI, oc_s, oc_n, pk_div, pk_rem, m1F, L0, L1, L2, L3, L4, L5, L6, L7, L8, L9, L10, L11, L12, L19, L20, L24, L25, L27, L28, L30, L32, L37, L39, L40, L47, L48, L50, L55, L57, L60, L61, L63, L71, L80, L97, L99, L100, L120, L122, L128, L161, L17, L600, L1000000, L1024, L1408, isB0, isB1, subdm, inT, inFl, inFh]
    · obtain ⟨p, q, hp, hq, e⟩ := ftS_some (v := v) (by omega)
      refine ⟨if a2 = 0 then nI (10 * p + q) else nI (wA v p q), r', ?_, ?_, hI.keep (XP.rf hI.1) ((m0 _).tr m1)⟩
      · unfold fX9_fitter
        rcases h4 with rfl | rfl
        · simp (disch := omega) only [h1, h2, hx.P, fittestTaste_nI ok hx, e, eB0, bd_some, gd_true, inR_nI, nI_clamp, nI_add, pk_mul, pk_sub, leT, leF, ltT, ltF, eqT, eqF, ite_true, ite_false, reduceIte, nz_nI, oc_s, oc_n, pk_div, pk_rem, m1F, L0, L1, L2, L3, L4, L5, L6, L7, L8, L9, L10, L11, L12, L19, L20, L24, L25, L27, L28, L30, L32, L37, L39, L40, L47, L48, L50, L55, L57, L60, L61, L63, L71, L80, L97, L99, L100, L120, L122, L128, L161, L17, L600, L1000000, L1024, L1408, isB0, isB1, subdm, inT, inFl, inFh]
        · simp (disch := omega) only [h1, h2, hx.P, fittestTaste_nI ok hx, e, eB0, show (10 * p + q) / 10 = p by omega, show 10 * p + q - p * 10 = q by omega, worthOfAll_nI ok hx, bd_some, gd_true, inR_nI, nI_clamp, nI_add, pk_mul, pk_sub, leT, leF, ltT, ltF, eqT, eqF, ite_true, ite_false, reduceIte, nz_nI, oc_s, oc_n, pk_div, pk_rem, m1F, L0, L1, L2, L3, L4, L5, L6, L7, L8, L9, L10, L11, L12, L19, L20, L24, L25, L27, L28, L30, L32, L37, L39, L40, L47, L48, L50, L55, L57, L60, L61, L63, L71, L80, L97, L99, L100, L120, L122, L128, L161, L17, L600, L1000000, L1024, L1408, isB0, isB1, subdm, inT, inFl, inFh]
      · unfold fX10_fitter
        rcases h4 with rfl | rfl
        · simp (disch := omega) only [e1, ftM ok hd, e, eB, eM, bX10_fitter_87, bd_some, gd_true, inR_nI, nI_clamp, nI_add, pk_mul, pk_sub, leT, leF, ltT, ltF, eqT, eqF, ite_true, ite_false, reduceIte, nz_nI, oc_s, oc_n, pk_div, pk_rem, m1F, L0, L1, L2, L3, L4, L5, L6, L7, L8, L9, L10, L11, L12, L19, L20, L24, L25, L27, L28, L30, L32, L37, L39, L40, L47, L48, L50, L55, L57, L60, L61, L63, L71, L80, L97, L99, L100, L120, L122, L128, L161, L17, L600, L1000000, L1024, L1408, isB0, isB1, subdm, inT, inFl, inFh]
        · simp (disch := omega) only [e1, ftM ok hd, e, eB, eM, bX10_fitter_87, bd_some, gd_true, inR_nI, nI_clamp, nI_add, pk_mul, pk_sub, leT, leF, ltT, ltF, eqT, eqF, ite_true, ite_false, reduceIte, nz_nI, oc_s, oc_n, pk_div, pk_rem, m1F, L0, L1, L2, L3, L4, L5, L6, L7, L8, L9, L10, L11, L12, L19, L20, L24, L25, L27, L28, L30, L32, L37, L39, L40, L47, L48, L50, L55, L57, L60, L61, L63, L71, L80, L97, L99, L100, L120, L122, L128, L161, L17, L600, L1000000, L1024, L1408, isB0, isB1, subdm, inT, inFl, inFh]
