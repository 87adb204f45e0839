/-! bytes -/
def ub (x : Int32) : Nat := x.toBitVec.toNat % 2 ^ 8
theorem ub_lt (x : Int32) : ub x < 256 := Nat.mod_lt _ (by decide)
theorem and255 (x : Int32) : x &&& 255 = nI (ub x) := pk_and x 8 (by decide)
theorem by_ub {x : Int32} (h : isBy x) : (x = nI (ub x) ∧ ub x < 128) ∨ (x < 0 ∧ 128 ≤ ub x) := by
  have h1 : (-128 : Int32).toInt = -128 := by decide
  have h2 : (127 : Int32).toInt = 127 := by decide
  unfold isBy at h
  simp only [fits, Bool.and_eq_true, decide_eq_true_eq, Int32.le_iff_toInt_le, h1, h2] at h
  rcases i32_cases x with k | ⟨j, hj, rfl⟩
  · refine Or.inr ⟨k, ?_⟩
    rw [Int32.lt_iff_toInt_lt, show (0 : Int32).toInt = 0 by decide] at k
    have e : x.toInt = x.toBitVec.toInt := rfl
    have e2 := BitVec.toInt_eq_toNat_cond x.toBitVec
    have e3 := x.toBitVec.isLt
    unfold ub
    rw [e] at h k
    rw [e2] at h k
    split at h <;> omega
  · refine Or.inl ?_
    rw [nI_toInt hj] at h
    have e : ub (nI j) = j := by
      unfold ub
      rw [pk_tn (by omega)]
      omega
    rw [e]
    exact ⟨rfl, by omega⟩
def isBl (c : Nat) : Bool := decide (c = 10 ∨ c = 32)
def isLt (c : Nat) : Bool := decide (97 ≤ c ∧ c ≤ 122)
def isDg (c : Nat) : Bool := decide (48 ≤ c ∧ c ≤ 57)
theorem isBl_iff {c : Nat} : isBl c = true ↔ (c = 10 ∨ c = 32) := decide_eq_true_iff
theorem isLt_iff {c : Nat} : isLt c = true ↔ (97 ≤ c ∧ c ≤ 122) := decide_eq_true_iff
theorem isDg_iff {c : Nat} : isDg c = true ↔ (48 ≤ c ∧ c ≤ 57) := decide_eq_true_iff
theorem blankX {x : Int32} (h : isBy x) : (isBl (ub x) = true → fX4_isBlank x = some (nI 1)) ∧ (¬ isBl (ub x) = true → fX4_isBlank x = some (nI 0)) := by
  unfold fX4_isBlank bX4_isBlank_12
  rcases by_ub h with ⟨e, hl⟩ | ⟨hn, hl⟩
  · generalize ub x = c at e hl ⊢
    subst e
    refine ⟨fun q => ?_, fun q => ?_⟩
    · rcases isBl_iff.mp q with z | z
      · simp (disch := omega) only [bd_some, gd_true, inR_nI, nI_clamp, nI_add, pk_mul, pk_sub, leT, leF, ltT, ltF, eqT, eqF, ite_true, ite_false, reduceIte, nz_nI, oc_s, oc_n, pk_div, pk_rem, m1F, L0, L1, L2, L3, L4, L5, L6, L7, L8, L9, L10, L11, L12, L19, L20, L24, L25, L27, L28, L30, L32, L37, L39, L40, L47, L48, L50, L55, L57, L60, L61, L63, L71, L80, L97, L99, L100, L120, L122, L128, L161, L17, L600, L1000000, L1024, L1408, isB0, isB1, subdm, inT, inFl, inFh]
      · simp (disch := omega) only [bd_some, gd_true, inR_nI, nI_clamp, nI_add, pk_mul, pk_sub, leT, leF, ltT, ltF, eqT, eqF, ite_true, ite_false, reduceIte, nz_nI, oc_s, oc_n, pk_div, pk_rem, m1F, L0, L1, L2, L3, L4, L5, L6, L7, L8, L9, L10, L11, L12, L19, L20, L24, L25, L27, L28, L30, L32, L37, L39, L40, L47, L48, L50, L55, L57, L60, L61, L63, L71, L80, L97, L99, L100, L120, L122, L128, L161, L17, L600, L1000000, L1024, L1408, isB0, isB1, subdm, inT, inFl, inFh]
    · have q : ¬ (c = 10 ∨ c = 32) := fun z => q (isBl_iff.mpr z)
      simp (disch := omega) only [bd_some, gd_true, inR_nI, nI_clamp, nI_add, pk_mul, pk_sub, leT, leF, ltT, ltF, eqT, eqF, ite_true, ite_false, reduceIte, nz_nI, oc_s, oc_n, pk_div, pk_rem, m1F, L0, L1, L2, L3, L4, L5, L6, L7, L8, L9, L10, L11, L12, L19, L20, L24, L25, L27, L28, L30, L32, L37, L39, L40, L47, L48, L50, L55, L57, L60, L61, L63, L71, L80, L97, L99, L100, L120, L122, L128, L161, L17, L600, L1000000, L1024, L1408, isB0, isB1, subdm, inT, inFl, inFh]
  · refine ⟨fun q => ?_, fun q => ?_⟩
    · have := isBl_iff.mp q; omega
    · simp (disch := omega) only [negEq hn, bd_some, gd_true, inR_nI, nI_clamp, nI_add, pk_mul, pk_sub, leT, leF, ltT, ltF, eqT, eqF, ite_true, ite_false, reduceIte, nz_nI, oc_s, oc_n, pk_div, pk_rem, m1F, L0, L1, L2, L3, L4, L5, L6, L7, L8, L9, L10, L11, L12, L19, L20, L24, L25, L27, L28, L30, L32, L37, L39, L40, L47, L48, L50, L55, L57, L60, L61, L63, L71, L80, L97, L99, L100, L120, L122, L128, L161, L17, L600, L1000000, L1024, L1408, isB0, isB1, subdm, inT, inFl, inFh]
theorem letterX {x : Int32} (h : isBy x) : (isLt (ub x) = true → fX4_isLetter x = some (nI 1)) ∧ (¬ isLt (ub x) = true → fX4_isLetter x = some (nI 0)) := by
  unfold fX4_isLetter
  rcases by_ub h with ⟨e, hl⟩ | ⟨hn, hl⟩
  · generalize ub x = c at e hl ⊢
    subst e
    refine ⟨fun q => ?_, fun q => ?_⟩
    · have q := isLt_iff.mp q
      simp (disch := omega) only [bd_some, gd_true, inR_nI, nI_clamp, nI_add, pk_mul, pk_sub, leT, leF, ltT, ltF, eqT, eqF, ite_true, ite_false, reduceIte, nz_nI, oc_s, oc_n, pk_div, pk_rem, m1F, L0, L1, L2, L3, L4, L5, L6, L7, L8, L9, L10, L11, L12, L19, L20, L24, L25, L27, L28, L30, L32, L37, L39, L40, L47, L48, L50, L55, L57, L60, L61, L63, L71, L80, L97, L99, L100, L120, L122, L128, L161, L17, L600, L1000000, L1024, L1408, isB0, isB1, subdm, inT, inFl, inFh]
    · have q : ¬ (97 ≤ c ∧ c ≤ 122) := fun z => q (isLt_iff.mpr z)
      by_cases z : c < 97
      · simp (disch := omega) only [bd_some, gd_true, inR_nI, nI_clamp, nI_add, pk_mul, pk_sub, leT, leF, ltT, ltF, eqT, eqF, ite_true, ite_false, reduceIte, nz_nI, oc_s, oc_n, pk_div, pk_rem, m1F, L0, L1, L2, L3, L4, L5, L6, L7, L8, L9, L10, L11, L12, L19, L20, L24, L25, L27, L28, L30, L32, L37, L39, L40, L47, L48, L50, L55, L57, L60, L61, L63, L71, L80, L97, L99, L100, L120, L122, L128, L161, L17, L600, L1000000, L1024, L1408, isB0, isB1, subdm, inT, inFl, inFh]
      · simp (disch := omega) only [bd_some, gd_true, inR_nI, nI_clamp, nI_add, pk_mul, pk_sub, leT, leF, ltT, ltF, eqT, eqF, ite_true, ite_false, reduceIte, nz_nI, oc_s, oc_n, pk_div, pk_rem, m1F, L0, L1, L2, L3, L4, L5, L6, L7, L8, L9, L10, L11, L12, L19, L20, L24, L25, L27, L28, L30, L32, L37, L39, L40, L47, L48, L50, L55, L57, L60, L61, L63, L71, L80, L97, L99, L100, L120, L122, L128, L161, L17, L600, L1000000, L1024, L1408, isB0, isB1, subdm, inT, inFl, inFh]
  · refine ⟨fun q => ?_, fun q => ?_⟩
    · have := isLt_iff.mp q; omega
    · simp (disch := omega) only [neg1 hn, bd_some, gd_true, inR_nI, nI_clamp, nI_add, pk_mul, pk_sub, leT, leF, ltT, ltF, eqT, eqF, ite_true, ite_false, reduceIte, nz_nI, oc_s, oc_n, pk_div, pk_rem, m1F, L0, L1, L2, L3, L4, L5, L6, L7, L8, L9, L10, L11, L12, L19, L20, L24, L25, L27, L28, L30, L32, L37, L39, L40, L47, L48, L50, L55, L57, L60, L61, L63, L71, L80, L97, L99, L100, L120, L122, L128, L161, L17, L600, L1000000, L1024, L1408, isB0, isB1, subdm, inT, inFl, inFh]
theorem digitX {x : Int32} (h : isBy x) : (isDg (ub x) = true → fX4_isDigit x = some (nI 1)) ∧ (¬ isDg (ub x) = true → fX4_isDigit x = some (nI 0)) := by
  unfold fX4_isDigit
  rcases by_ub h with ⟨e, hl⟩ | ⟨hn, hl⟩
  · generalize ub x = c at e hl ⊢
    subst e
    refine ⟨fun q => ?_, fun q => ?_⟩
    · have q := isDg_iff.mp q
      simp (disch := omega) only [bd_some, gd_true, inR_nI, nI_clamp, nI_add, pk_mul, pk_sub, leT, leF, ltT, ltF, eqT, eqF, ite_true, ite_false, reduceIte, nz_nI, oc_s, oc_n, pk_div, pk_rem, m1F, L0, L1, L2, L3, L4, L5, L6, L7, L8, L9, L10, L11, L12, L19, L20, L24, L25, L27, L28, L30, L32, L37, L39, L40, L47, L48, L50, L55, L57, L60, L61, L63, L71, L80, L97, L99, L100, L120, L122, L128, L161, L17, L600, L1000000, L1024, L1408, isB0, isB1, subdm, inT, inFl, inFh]
    · have q : ¬ (48 ≤ c ∧ c ≤ 57) := fun z => q (isDg_iff.mpr z)
      by_cases z : c < 48
      · simp (disch := omega) only [bd_some, gd_true, inR_nI, nI_clamp, nI_add, pk_mul, pk_sub, leT, leF, ltT, ltF, eqT, eqF, ite_true, ite_false, reduceIte, nz_nI, oc_s, oc_n, pk_div, pk_rem, m1F, L0, L1, L2, L3, L4, L5, L6, L7, L8, L9, L10, L11, L12, L19, L20, L24, L25, L27, L28, L30, L32, L37, L39, L40, L47, L48, L50, L55, L57, L60, L61, L63, L71, L80, L97, L99, L100, L120, L122, L128, L161, L17, L600, L1000000, L1024, L1408, isB0, isB1, subdm, inT, inFl, inFh]
      · simp (disch := omega) only [bd_some, gd_true, inR_nI, nI_clamp, nI_add, pk_mul, pk_sub, leT, leF, ltT, ltF, eqT, eqF, ite_true, ite_false, reduceIte, nz_nI, oc_s, oc_n, pk_div, pk_rem, m1F, L0, L1, L2, L3, L4, L5, L6, L7, L8, L9, L10, L11, L12, L19, L20, L24, L25, L27, L28, L30, L32, L37, L39, L40, L47, L48, L50, L55, L57, L60, L61, L63, L71, L80, L97, L99, L100, L120, L122, L128, L161, L17, L600, L1000000, L1024, L1408, isB0, isB1, subdm, inT, inFl, inFh]
  · refine ⟨fun q => ?_, fun q => ?_⟩
    · have := isDg_iff.mp q; omega
    · simp (disch := omega) only [neg1 hn, bd_some, gd_true, inR_nI, nI_clamp, nI_add, pk_mul, pk_sub, leT, leF, ltT, ltF, eqT, eqF, ite_true, ite_false, reduceIte, nz_nI, oc_s, oc_n, pk_div, pk_rem, m1F, L0, L1, L2, L3, L4, L5, L6, L7, L8, L9, L10, L11, L12, L19, L20, L24, L25, L27, L28, L30, L32, L37, L39, L40, L47, L48, L50, L55, L57, L60, L61, L63, L71, L80, L97, L99, L100, L120, L122, L128, L161, L17, L600, L1000000, L1024, L1408, isB0, isB1, subdm, inT, inFl, inFh]
theorem eq_byte {x : Int32} (h : isBy x) {c : Nat} (hc : c < 128) : x = nI c ↔ ub x = c := by
  rcases by_ub h with ⟨e, hl⟩ | ⟨hn, hl⟩
  · rw [e]
    generalize ub x = d at hl
    constructor
    · intro q
      have e2 : ub (nI d) = d := by
        unfold ub
        rw [pk_tn (by omega)]
        omega
      rw [e2]
      exact (nI_eq (by omega) (by omega)).mp q
    · intro q
      have e2 : ub (nI d) = d := by
        unfold ub
        rw [pk_tn (by omega)]
        omega
      rw [e2] at q
      rw [q]
  · exact ⟨fun q => absurd (by rw [← q]; exact hn) (nI_nlt0 (n := c) (by omega)), fun q => by omega⟩
/-! tokens -/
def sk (P : Nat → Bool) (u : Nat → Nat) : Nat → Nat → Nat
  | 0, i => i
  | m + 1, i => if P (u i) then sk P u m (i + 1) else i
theorem sk_b {P : Nat → Bool} {u : Nat → Nat} : ∀ m i, i ≤ sk P u m i ∧ sk P u m i ≤ i + m ∧ ∀ j, i ≤ j → j < sk P u m i → P (u j) = true
  | 0, i => ⟨Nat.le_refl _, Nat.le_refl _, fun j h1 h2 => by have h2 : j < i := h2; omega⟩
  | m + 1, i => by
    by_cases c : P (u i) = true
    · have e : sk P u (m + 1) i = sk P u m (i + 1) := if_pos c
      obtain ⟨h1, h2, h3⟩ := sk_b (P := P) (u := u) m (i + 1)
      rw [e]
      refine ⟨by omega, by omega, fun j a b => ?_⟩
      by_cases d : j = i
      · rw [d]; exact c
      · exact h3 j (by omega) b
    · have e : sk P u (m + 1) i = i := if_neg c
      rw [e]
      exact ⟨Nat.le_refl _, by omega, fun j a b => by omega⟩
theorem sk_pos {P : Nat → Bool} {u : Nat → Nat} {m i : Nat} (hm : 0 < m) (c : P (u i) = true) : i < sk P u m i := by
  obtain ⟨k, rfl⟩ : ∃ k, m = k + 1 := ⟨m - 1, by omega⟩
  have e : sk P u (k + 1) i = sk P u k (i + 1) := if_pos c
  have := (sk_b (P := P) (u := u) k (i + 1)).1
  rw [e]
  omega
def tok (u : Nat → Nat) (n i : Nat) : Nat × Nat × Nat := if n ≤ sk isBl u (n - i) i then (0, sk isBl u (n - i) i, sk isBl u (n - i) i) else if isLt (u (sk isBl u (n - i) i)) then (1, sk isBl u (n - i) i, sk isLt u (n - sk isBl u (n - i) i) (sk isBl u (n - i) i)) else if isDg (u (sk isBl u (n - i) i)) then ((if sk isDg u (n - sk isBl u (n - i) i) (sk isBl u (n - i) i) - sk isBl u (n - i) i ≤ 2 then 2 else 4), sk isBl u (n - i) i, sk isDg u (n - sk isBl u (n - i) i) (sk isBl u (n - i) i)) else ((if u (sk isBl u (n - i) i) = 59 then 3 else 4), sk isBl u (n - i) i, sk isBl u (n - i) i + 1)
def tkk (u : Nat → Nat) (n i : Nat) : Nat := (tok u n i).1
def tks (u : Nat → Nat) (n i : Nat) : Nat := (tok u n i).2.1
def tke (u : Nat → Nat) (n i : Nat) : Nat := (tok u n i).2.2
/-- the class's reader holds a tape -/
def Tp (c : Rec) (u : Nat → Nat) (n : Nat) : Prop := n ≤ 600 ∧ gi c 1 = nI n ∧ ∀ j, j < n → isBy (ga c 0 j) ∧ ub (ga c 0 j) = u j
def nxR (c : Rec) (u : Nat → Nat) (n i : Nat) : Rec := si (si (si c 3 (nI (tks u n i))) 2 (nI (tkk u n i))) 4 (nI (tke u n i))
theorem tokX_64 {c : Rec} {u : Nat → Nat} {n : Nat} (h : Tp c u n) : ∀ m i, i + m = n → iter (fun st : Int32 => bX4_nextToken_64 c st) (nI i) = bX4_nextToken_90 c (nI (sk isLt u m i)) := by
  obtain ⟨hn, h1, ht⟩ := h
  intro m
  induction m with
  | zero =>
    intro i hi
    refine iter_out (step := fun st : Int32 => bX4_nextToken_64 c st) (s := nI i) ?_
    show bX4_nextToken_64 c (nI i) = out1 (bX4_nextToken_90 c (nI i))
    unfold bX4_nextToken_64
    simp (disch := omega) only [h1, bd_some, gd_true, inR_nI, nI_clamp, nI_add, pk_mul, pk_sub, leT, leF, ltT, ltF, eqT, eqF, ite_true, ite_false, reduceIte, nz_nI, oc_s, oc_n, pk_div, pk_rem, m1F, L0, L1, L2, L3, L4, L5, L6, L7, L8, L9, L10, L11, L12, L19, L20, L24, L25, L27, L28, L30, L32, L37, L39, L40, L47, L48, L50, L55, L57, L60, L61, L63, L71, L80, L97, L99, L100, L120, L122, L128, L161, L17, L600, L1000000, L1024, L1408, isB0, isB1, subdm, inT, inFl, inFh]
  | succ m ih =>
    intro i hi
    have hb := ht i (by omega)
    have hl := letterX hb.1
    rw [hb.2] at hl
    by_cases q : isLt (u i) = true
    · have e : sk isLt u (m + 1) i = sk isLt u m (i + 1) := if_pos q
      have hl := hl.1 q
      rw [e, iter_step (step := fun st : Int32 => bX4_nextToken_64 c st) (s := nI i) (s' := nI (i + 1)) (by
        show bX4_nextToken_64 c (nI i) = _
        unfold bX4_nextToken_64
        simp (disch := omega) only [h1, hl, bd_some, gd_true, inR_nI, nI_clamp, nI_add, pk_mul, pk_sub, leT, leF, ltT, ltF, eqT, eqF, ite_true, ite_false, reduceIte, nz_nI, oc_s, oc_n, pk_div, pk_rem, m1F, L0, L1, L2, L3, L4, L5, L6, L7, L8, L9, L10, L11, L12, L19, L20, L24, L25, L27, L28, L30, L32, L37, L39, L40, L47, L48, L50, L55, L57, L60, L61, L63, L71, L80, L97, L99, L100, L120, L122, L128, L161, L17, L600, L1000000, L1024, L1408, isB0, isB1, subdm, inT, inFl, inFh])]
      exact ih (i + 1) (by omega)
    · have e : sk isLt u (m + 1) i = i := if_neg q
      have hl := hl.2 q
      rw [e]
      refine iter_out (step := fun st : Int32 => bX4_nextToken_64 c st) (s := nI i) ?_
      show bX4_nextToken_64 c (nI i) = _
      unfold bX4_nextToken_64
      simp (disch := omega) only [h1, hl, bd_some, gd_true, inR_nI, nI_clamp, nI_add, pk_mul, pk_sub, leT, leF, ltT, ltF, eqT, eqF, ite_true, ite_false, reduceIte, nz_nI, oc_s, oc_n, pk_div, pk_rem, m1F, L0, L1, L2, L3, L4, L5, L6, L7, L8, L9, L10, L11, L12, L19, L20, L24, L25, L27, L28, L30, L32, L37, L39, L40, L47, L48, L50, L55, L57, L60, L61, L63, L71, L80, L97, L99, L100, L120, L122, L128, L161, L17, L600, L1000000, L1024, L1408, isB0, isB1, subdm, inT, inFl, inFh]
theorem tokX_110 {c : Rec} {u : Nat → Nat} {n : Nat} (h : Tp c u n) : ∀ m i, i + m = n → iter (fun st : Int32 => bX4_nextToken_110 c st) (nI i) = bX4_nextToken_136 c (nI (sk isDg u m i)) := by
  obtain ⟨hn, h1, ht⟩ := h
  intro m
  induction m with
  | zero =>
    intro i hi
    refine iter_out (step := fun st : Int32 => bX4_nextToken_110 c st) (s := nI i) ?_
    show bX4_nextToken_110 c (nI i) = out1 (bX4_nextToken_136 c (nI i))
    unfold bX4_nextToken_110
    simp (disch := omega) only [h1, bd_some, gd_true, inR_nI, nI_clamp, nI_add, pk_mul, pk_sub, leT, leF, ltT, ltF, eqT, eqF, ite_true, ite_false, reduceIte, nz_nI, oc_s, oc_n, pk_div, pk_rem, m1F, L0, L1, L2, L3, L4, L5, L6, L7, L8, L9, L10, L11, L12, L19, L20, L24, L25, L27, L28, L30, L32, L37, L39, L40, L47, L48, L50, L55, L57, L60, L61, L63, L71, L80, L97, L99, L100, L120, L122, L128, L161, L17, L600, L1000000, L1024, L1408, isB0, isB1, subdm, inT, inFl, inFh]
  | succ m ih =>
    intro i hi
    have hb := ht i (by omega)
    have hl := digitX hb.1
    rw [hb.2] at hl
    by_cases q : isDg (u i) = true
    · have e : sk isDg u (m + 1) i = sk isDg u m (i + 1) := if_pos q
      have hl := hl.1 q
      rw [e, iter_step (step := fun st : Int32 => bX4_nextToken_110 c st) (s := nI i) (s' := nI (i + 1)) (by
        show bX4_nextToken_110 c (nI i) = _
        unfold bX4_nextToken_110
        simp (disch := omega) only [h1, hl, bd_some, gd_true, inR_nI, nI_clamp, nI_add, pk_mul, pk_sub, leT, leF, ltT, ltF, eqT, eqF, ite_true, ite_false, reduceIte, nz_nI, oc_s, oc_n, pk_div, pk_rem, m1F, L0, L1, L2, L3, L4, L5, L6, L7, L8, L9, L10, L11, L12, L19, L20, L24, L25, L27, L28, L30, L32, L37, L39, L40, L47, L48, L50, L55, L57, L60, L61, L63, L71, L80, L97, L99, L100, L120, L122, L128, L161, L17, L600, L1000000, L1024, L1408, isB0, isB1, subdm, inT, inFl, inFh])]
      exact ih (i + 1) (by omega)
    · have e : sk isDg u (m + 1) i = i := if_neg q
      have hl := hl.2 q
      rw [e]
      refine iter_out (step := fun st : Int32 => bX4_nextToken_110 c st) (s := nI i) ?_
      show bX4_nextToken_110 c (nI i) = _
      unfold bX4_nextToken_110
      simp (disch := omega) only [h1, hl, bd_some, gd_true, inR_nI, nI_clamp, nI_add, pk_mul, pk_sub, leT, leF, ltT, ltF, eqT, eqF, ite_true, ite_false, reduceIte, nz_nI, oc_s, oc_n, pk_div, pk_rem, m1F, L0, L1, L2, L3, L4, L5, L6, L7, L8, L9, L10, L11, L12, L19, L20, L24, L25, L27, L28, L30, L32, L37, L39, L40, L47, L48, L50, L55, L57, L60, L61, L63, L71, L80, L97, L99, L100, L120, L122, L128, L161, L17, L600, L1000000, L1024, L1408, isB0, isB1, subdm, inT, inFl, inFh]
theorem tokX_5 {c : Rec} {u : Nat → Nat} {n : Nat} (h : Tp c u n) : ∀ m i, i + m = n → iter (fun st : Int32 => bX4_nextToken_5 c st) (nI i) = bX4_nextToken_31 c (nI (sk isBl u m i)) := by
  obtain ⟨hn, h1, ht⟩ := h
  intro m
  induction m with
  | zero =>
    intro i hi
    refine iter_out (step := fun st : Int32 => bX4_nextToken_5 c st) (s := nI i) ?_
    show bX4_nextToken_5 c (nI i) = out1 (bX4_nextToken_31 c (nI i))
    unfold bX4_nextToken_5
    simp (disch := omega) only [h1, bd_some, gd_true, inR_nI, nI_clamp, nI_add, pk_mul, pk_sub, leT, leF, ltT, ltF, eqT, eqF, ite_true, ite_false, reduceIte, nz_nI, oc_s, oc_n, pk_div, pk_rem, m1F, L0, L1, L2, L3, L4, L5, L6, L7, L8, L9, L10, L11, L12, L19, L20, L24, L25, L27, L28, L30, L32, L37, L39, L40, L47, L48, L50, L55, L57, L60, L61, L63, L71, L80, L97, L99, L100, L120, L122, L128, L161, L17, L600, L1000000, L1024, L1408, isB0, isB1, subdm, inT, inFl, inFh]
  | succ m ih =>
    intro i hi
    have hb := ht i (by omega)
    have hl := blankX hb.1
    rw [hb.2] at hl
    by_cases q : isBl (u i) = true
    · have e : sk isBl u (m + 1) i = sk isBl u m (i + 1) := if_pos q
      have hl := hl.1 q
      rw [e, iter_step (step := fun st : Int32 => bX4_nextToken_5 c st) (s := nI i) (s' := nI (i + 1)) (by
        show bX4_nextToken_5 c (nI i) = _
        unfold bX4_nextToken_5
        simp (disch := omega) only [h1, hl, bd_some, gd_true, inR_nI, nI_clamp, nI_add, pk_mul, pk_sub, leT, leF, ltT, ltF, eqT, eqF, ite_true, ite_false, reduceIte, nz_nI, oc_s, oc_n, pk_div, pk_rem, m1F, L0, L1, L2, L3, L4, L5, L6, L7, L8, L9, L10, L11, L12, L19, L20, L24, L25, L27, L28, L30, L32, L37, L39, L40, L47, L48, L50, L55, L57, L60, L61, L63, L71, L80, L97, L99, L100, L120, L122, L128, L161, L17, L600, L1000000, L1024, L1408, isB0, isB1, subdm, inT, inFl, inFh])]
      exact ih (i + 1) (by omega)
    · have e : sk isBl u (m + 1) i = i := if_neg q
      have hl := hl.2 q
      rw [e]
      refine iter_out (step := fun st : Int32 => bX4_nextToken_5 c st) (s := nI i) ?_
      show bX4_nextToken_5 c (nI i) = _
      unfold bX4_nextToken_5
      simp (disch := omega) only [h1, hl, bd_some, gd_true, inR_nI, nI_clamp, nI_add, pk_mul, pk_sub, leT, leF, ltT, ltF, eqT, eqF, ite_true, ite_false, reduceIte, nz_nI, oc_s, oc_n, pk_div, pk_rem, m1F, L0, L1, L2, L3, L4, L5, L6, L7, L8, L9, L10, L11, L12, L19, L20, L24, L25, L27, L28, L30, L32, L37, L39, L40, L47, L48, L50, L55, L57, L60, L61, L63, L71, L80, L97, L99, L100, L120, L122, L128, L161, L17, L600, L1000000, L1024, L1408, isB0, isB1, subdm, inT, inFl, inFh]
theorem L59 : (59 : Int32) = nI 59 := rfl
theorem nextTok {c : Rec} {u : Nat → Nat} {n i : Nat} (h : Tp c u n) (h4 : gi c 4 = nI i) (hi : i ≤ n) : fX4_nextToken c = some (nxR c u n i) := by
  have e5 := tokX_5 h (n - i) i (by omega)
  unfold fX4_nextToken
  rw [h4, e5]
  obtain ⟨b1, b2, -⟩ := sk_b (P := isBl) (u := u) (n - i) i
  unfold nxR tks tkk tke tok
  obtain ⟨s, hs⟩ : ∃ s, s = sk isBl u (n - i) i := ⟨_, rfl⟩
  rw [← hs] at b1 b2 ⊢
  have h3 : Tp (si c 3 (nI s)) u n := h
  obtain ⟨hn, h1, ht⟩ := h
  have h1' : gi (si c 3 (nI s)) 1 = nI n := h1
  have g3 : gi (si c 3 (nI s)) 3 = nI s := rfl
  by_cases c0 : n ≤ s
  · rw [if_pos c0]
    unfold bX4_nextToken_31 bX4_nextToken_181
    simp (disch := omega) only [h1', bd_some, gd_true, inR_nI, nI_clamp, nI_add, pk_mul, pk_sub, leT, leF, ltT, ltF, eqT, eqF, ite_true, ite_false, reduceIte, nz_nI, oc_s, oc_n, pk_div, pk_rem, m1F, L0, L1, L2, L3, L4, L5, L6, L7, L8, L9, L10, L11, L12, L19, L20, L24, L25, L27, L28, L30, L32, L37, L39, L40, L47, L48, L50, L55, L57, L60, L61, L63, L71, L80, L97, L99, L100, L120, L122, L128, L161, L17, L600, L1000000, L1024, L1408, isB0, isB1, subdm, inT, inFl, inFh]
  · rw [if_neg c0]
    have hb := ht s (by omega)
    have hb1 : isBy (ga (si c 3 (nI s)) 0 s) := hb.1
    have hb2 : ub (ga (si c 3 (nI s)) 0 s) = u s := hb.2
    have hl := letterX hb1
    have hg := digitX hb1
    rw [hb2] at hl hg
    by_cases cl : isLt (u s) = true
    · rw [if_pos cl]
      have hl := hl.1 cl
      have e64 := tokX_64 h3 (n - s) s (by omega)
      unfold bX4_nextToken_31
      simp (disch := omega) only [h1', hl, bd_some, gd_true, inR_nI, nI_clamp, nI_add, pk_mul, pk_sub, leT, leF, ltT, ltF, eqT, eqF, ite_true, ite_false, reduceIte, nz_nI, oc_s, oc_n, pk_div, pk_rem, m1F, L0, L1, L2, L3, L4, L5, L6, L7, L8, L9, L10, L11, L12, L19, L20, L24, L25, L27, L28, L30, L32, L37, L39, L40, L47, L48, L50, L55, L57, L60, L61, L63, L71, L80, L97, L99, L100, L120, L122, L128, L161, L17, L600, L1000000, L1024, L1408, isB0, isB1, subdm, inT, inFl, inFh]
      refine e64.trans ?_
      unfold bX4_nextToken_90 bX4_nextToken_181
      simp (disch := omega) only [bd_some, gd_true, inR_nI, nI_clamp, nI_add, pk_mul, pk_sub, leT, leF, ltT, ltF, eqT, eqF, ite_true, ite_false, reduceIte, nz_nI, oc_s, oc_n, pk_div, pk_rem, m1F, L0, L1, L2, L3, L4, L5, L6, L7, L8, L9, L10, L11, L12, L19, L20, L24, L25, L27, L28, L30, L32, L37, L39, L40, L47, L48, L50, L55, L57, L60, L61, L63, L71, L80, L97, L99, L100, L120, L122, L128, L161, L17, L600, L1000000, L1024, L1408, isB0, isB1, subdm, inT, inFl, inFh]
    · rw [if_neg cl]
      have hl := hl.2 cl
      by_cases cd : isDg (u s) = true
      · rw [if_pos cd]
        have hg := hg.1 cd
        have e110 := tokX_110 h3 (n - s) s (by omega)
        obtain ⟨d1, d2, -⟩ := sk_b (P := isDg) (u := u) (n - s) s
        unfold bX4_nextToken_31
        simp (disch := omega) only [h1', hl, hg, bd_some, gd_true, inR_nI, nI_clamp, nI_add, pk_mul, pk_sub, leT, leF, ltT, ltF, eqT, eqF, ite_true, ite_false, reduceIte, nz_nI, oc_s, oc_n, pk_div, pk_rem, m1F, L0, L1, L2, L3, L4, L5, L6, L7, L8, L9, L10, L11, L12, L19, L20, L24, L25, L27, L28, L30, L32, L37, L39, L40, L47, L48, L50, L55, L57, L60, L61, L63, L71, L80, L97, L99, L100, L120, L122, L128, L161, L17, L600, L1000000, L1024, L1408, isB0, isB1, subdm, inT, inFl, inFh]
        refine e110.trans ?_
        generalize sk isDg u (n - s) s = e at d1 d2 ⊢
        unfold bX4_nextToken_136 bX4_nextToken_152 bX4_nextToken_181
        by_cases c2 : e - s ≤ 2
        · rw [if_pos c2]
          simp (disch := omega) only [g3, bd_some, gd_true, inR_nI, nI_clamp, nI_add, pk_mul, pk_sub, leT, leF, ltT, ltF, eqT, eqF, ite_true, ite_false, reduceIte, nz_nI, oc_s, oc_n, pk_div, pk_rem, m1F, L0, L1, L2, L3, L4, L5, L6, L7, L8, L9, L10, L11, L12, L19, L20, L24, L25, L27, L28, L30, L32, L37, L39, L40, L47, L48, L50, L55, L57, L60, L61, L63, L71, L80, L97, L99, L100, L120, L122, L128, L161, L17, L600, L1000000, L1024, L1408, isB0, isB1, subdm, inT, inFl, inFh]
        · rw [if_neg c2]
          simp (disch := omega) only [g3, bd_some, gd_true, inR_nI, nI_clamp, nI_add, pk_mul, pk_sub, leT, leF, ltT, ltF, eqT, eqF, ite_true, ite_false, reduceIte, nz_nI, oc_s, oc_n, pk_div, pk_rem, m1F, L0, L1, L2, L3, L4, L5, L6, L7, L8, L9, L10, L11, L12, L19, L20, L24, L25, L27, L28, L30, L32, L37, L39, L40, L47, L48, L50, L55, L57, L60, L61, L63, L71, L80, L97, L99, L100, L120, L122, L128, L161, L17, L600, L1000000, L1024, L1408, isB0, isB1, subdm, inT, inFl, inFh]
      · rw [if_neg cd]
        have hg := hg.2 cd
        have h59 := eq_byte hb1 (c := 59) (by decide)
        rw [hb2] at h59
        unfold bX4_nextToken_31 bX4_nextToken_175 bX4_nextToken_181
        by_cases c9 : u s = 59
        · rw [if_pos c9]
          have h59 : (ga (si c 3 (nI s)) 0 s = nI 59) = True := eq_true (h59.mpr c9)
          simp (disch := omega) only [h1', hl, hg, h59, L59, bd_some, gd_true, inR_nI, nI_clamp, nI_add, pk_mul, pk_sub, leT, leF, ltT, ltF, eqT, eqF, ite_true, ite_false, reduceIte, nz_nI, oc_s, oc_n, pk_div, pk_rem, m1F, L0, L1, L2, L3, L4, L5, L6, L7, L8, L9, L10, L11, L12, L19, L20, L24, L25, L27, L28, L30, L32, L37, L39, L40, L47, L48, L50, L55, L57, L60, L61, L63, L71, L80, L97, L99, L100, L120, L122, L128, L161, L17, L600, L1000000, L1024, L1408, isB0, isB1, subdm, inT, inFl, inFh]
        · rw [if_neg c9]
          have h59 : (ga (si c 3 (nI s)) 0 s = nI 59) = False := eq_false (fun q => c9 (h59.mp q))
          simp (disch := omega) only [h1', hl, hg, h59, L59, bd_some, gd_true, inR_nI, nI_clamp, nI_add, pk_mul, pk_sub, leT, leF, ltT, ltF, eqT, eqF, ite_true, ite_false, reduceIte, nz_nI, oc_s, oc_n, pk_div, pk_rem, m1F, L0, L1, L2, L3, L4, L5, L6, L7, L8, L9, L10, L11, L12, L19, L20, L24, L25, L27, L28, L30, L32, L37, L39, L40, L47, L48, L50, L55, L57, L60, L61, L63, L71, L80, L97, L99, L100, L120, L122, L128, L161, L17, L600, L1000000, L1024, L1408, isB0, isB1, subdm, inT, inFl, inFh]
