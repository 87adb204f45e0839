theorem subdm (a d : Nat) : a - a / d * d = a % d := by
  have := Nat.div_add_mod a d
  rw [Nat.mul_comm]
  omega
theorem isB0 : isB (nI 0) = true := rfl
theorem isB1 : isB (nI 1) = true := rfl
theorem inT {n lo k : Nat} (h1 : lo ≤ n) (h2 : n ≤ k) (hk : k < 2 ^ 31) : fX10_in (nI n) (nI lo) (nI k) = some (nI 1) := by
  unfold fX10_in
  simp (disch := omega) only [bd_some, gd_true, inR_nI, nI_clamp, nI_add, pk_mul, pk_sub, leT, leF, ltT, ltF, eqT, eqF, ite_true, ite_false, reduceIte, nz_nI, oc_s, oc_n, pk_div, pk_rem, m1F, L0, L1, L2, L3, L4, L5, L6, L7, L8, L9, L10, L11, L12, L19, L20, L24, L25, L27, L28, L30, L32, L37, L39, L40, L47, L48, L50, L55, L57, L60, L61, L63, L71, L80, L97, L99, L100, L120, L122, L128, L161, L17, L600, L1000000, L1024, L1408]
theorem inFl {n lo k : Nat} (h1 : n < lo) (hk : lo < 2 ^ 31) : fX10_in (nI n) (nI lo) (nI k) = some (nI 0) := by
  unfold fX10_in
  simp (disch := omega) only [bd_some, gd_true, inR_nI, nI_clamp, nI_add, pk_mul, pk_sub, leT, leF, ltT, ltF, eqT, eqF, ite_true, ite_false, reduceIte, nz_nI, oc_s, oc_n, pk_div, pk_rem, m1F, L0, L1, L2, L3, L4, L5, L6, L7, L8, L9, L10, L11, L12, L19, L20, L24, L25, L27, L28, L30, L32, L37, L39, L40, L47, L48, L50, L55, L57, L60, L61, L63, L71, L80, L97, L99, L100, L120, L122, L128, L161, L17, L600, L1000000, L1024, L1408]
theorem inFh {n lo k : Nat} (h1 : k < n) (hk : n < 2 ^ 31) : fX10_in (nI n) (nI lo) (nI k) = some (nI 0) := by
  unfold fX10_in
  by_cases h : n < lo
  · by_cases h2 : lo < 2 ^ 31
    · simp (disch := omega) only [bd_some, gd_true, inR_nI, nI_clamp, nI_add, pk_mul, pk_sub, leT, leF, ltT, ltF, eqT, eqF, ite_true, ite_false, reduceIte, nz_nI, oc_s, oc_n, pk_div, pk_rem, m1F, L0, L1, L2, L3, L4, L5, L6, L7, L8, L9, L10, L11, L12, L19, L20, L24, L25, L27, L28, L30, L32, L37, L39, L40, L47, L48, L50, L55, L57, L60, L61, L63, L71, L80, L97, L99, L100, L120, L122, L128, L161, L17, L600, L1000000, L1024, L1408]
    · split
      · rfl
      · simp (disch := omega) only [bd_some, gd_true, inR_nI, nI_clamp, nI_add, pk_mul, pk_sub, leT, leF, ltT, ltF, eqT, eqF, ite_true, ite_false, reduceIte, nz_nI, oc_s, oc_n, pk_div, pk_rem, m1F, L0, L1, L2, L3, L4, L5, L6, L7, L8, L9, L10, L11, L12, L19, L20, L24, L25, L27, L28, L30, L32, L37, L39, L40, L47, L48, L50, L55, L57, L60, L61, L63, L71, L80, L97, L99, L100, L120, L122, L128, L161, L17, L600, L1000000, L1024, L1408]
  · simp (disch := omega) only [bd_some, gd_true, inR_nI, nI_clamp, nI_add, pk_mul, pk_sub, leT, leF, ltT, ltF, eqT, eqF, ite_true, ite_false, reduceIte, nz_nI, oc_s, oc_n, pk_div, pk_rem, m1F, L0, L1, L2, L3, L4, L5, L6, L7, L8, L9, L10, L11, L12, L19, L20, L24, L25, L27, L28, L30, L32, L37, L39, L40, L47, L48, L50, L55, L57, L60, L61, L63, L71, L80, L97, L99, L100, L120, L122, L128, L161, L17, L600, L1000000, L1024, L1408]
theorem in_neg {x : Int32} {lo k : Nat} (h : x < 0) (hl : lo < 2 ^ 31) : fX10_in x (nI lo) (nI k) = some (nI 0) := by
  unfold fX10_in
  rw [if_pos (by
    rw [Int32.lt_iff_toInt_lt] at h ⊢
    rw [nI_toInt hl]
    have : (0 : Int32).toInt = 0 := rfl
    omega)]
  rfl
/-- a number: below 0, too great, or good -/
theorem rng (x : Int32) (k : Nat) : (x < 0) ∨ (∃ m, k < m ∧ m < 2 ^ 31 ∧ x = nI m) ∨ ∃ m, m ≤ k ∧ m < 2 ^ 31 ∧ x = nI m := by
  rcases i32_cases x with h | ⟨m, hm, rfl⟩
  · exact Or.inl h
  · by_cases h : k < m
    · exact Or.inr (Or.inl ⟨m, h, hm, rfl⟩)
    · exact Or.inr (Or.inr ⟨m, by omega, hm, rfl⟩)
theorem neg0 {x : Int32} (h : x < 0) : (x < nI 0) = True := eq_true h
theorem neg0' {x : Int32} (h : x < 0) : (nI 0 ≤ x) = False := eq_false (fun k => by
  rw [Int32.le_iff_toInt_le] at k
  rw [Int32.lt_iff_toInt_lt] at h
  have : (nI 0 : Int32).toInt = 0 := rfl
  have : (0 : Int32).toInt = 0 := rfl
  omega)
theorem neg1 {x : Int32} {k : Nat} (h : x < 0) (hk : k < 2 ^ 31) : (x < nI k) = True := eq_true (by
  rw [Int32.lt_iff_toInt_lt] at h ⊢
  rw [nI_toInt hk]
  have : (0 : Int32).toInt = 0 := rfl
  omega)
theorem neg1' {x : Int32} {k : Nat} (h : x < 0) (hk : k < 2 ^ 31) : (nI k ≤ x) = False := eq_false (fun q => by
  rw [Int32.le_iff_toInt_le, nI_toInt hk] at q
  rw [Int32.lt_iff_toInt_lt] at h
  have : (0 : Int32).toInt = 0 := rfl
  omega)
theorem m1le {a : Nat} (h : a < 2 ^ 31) : (nI a ≤ -nI 1) = False := eq_false (fun q => by
  rw [Int32.le_iff_toInt_le, nI_toInt h] at q
  have : (-nI 1 : Int32).toInt = -1 := by decide
  omega)
theorem gr_m1 {a : Nat} (h : a < 2 ^ 31) : fX10_greater (-nI 1) (nI a) = some (nI a) := by
  unfold fX10_greater
  rw [if_pos (by
    rw [Int32.le_iff_toInt_le, nI_toInt h]
    have : (-nI 1 : Int32).toInt = -1 := by decide
    omega)]
/-! lasting -/
/-- the first of the greatest, of 0 .. k -/
def amx (f : Nat → Nat) : Nat → Nat
  | 0 => 0
  | k + 1 => if f (amx f k) < f (k + 1) then k + 1 else amx f k
theorem amx_le (f : Nat → Nat) (k : Nat) : amx f k ≤ k := by
  induction k with
  | zero => exact Nat.le_refl _
  | succ k ih => unfold amx; split <;> omega
theorem amx_max (f : Nat → Nat) (k : Nat) : max (f (amx f k)) (f (k + 1)) = f (amx f (k + 1)) := by
  rw [show amx f (k + 1) = if f (amx f k) < f (k + 1) then k + 1 else amx f k from rfl]
  split <;> omega
theorem we_le {v : Hv} (ok : HvOK v) {p : Nat} (hp : p < hP v) : hWe v p ≤ 9 := by have := (ok.2.2.2.1 p hp).2; omega
def shB (v : Hv) (p n s : Nat) : Nat := wv v s p - n * hWe v p
theorem shB_le {v : Hv} (ok : HvOK v) {p n s : Nat} (hs : s < hS v) : shB v p n s ≤ 60 := by have := wv_le ok hs (p := p); unfold shB; omega
theorem prod_le {a b x y : Nat} (h1 : a ≤ x) (h2 : b ≤ y) : a * b ≤ x * y := Nat.mul_le_mul h1 h2
theorem shineBehind_nI {h : Rec} {v : Hv} (ok : HvOK v) (hx : HX h v) {s p n : Nat} (hs : s < hS v) (hp : p < hP v) (hn : n ≤ 60) : fX2_shineBehind h (nI s) (nI p) (nI n) = some (nI (shB v p n s)) := by
  have hP8 := ok.1
  have h1 := wv_le ok hs (p := p)
  have h2 := prod_le hn (we_le ok hp)
  unfold fX2_shineBehind
  simp (disch := omega) only [worthTo_nI ok hx, hx.we, mx0, shB, bd_some, gd_true, inR_nI, nI_clamp, nI_add, pk_mul, pk_sub, leT, leF, ltT, ltF, eqT, eqF, ite_true, ite_false, reduceIte, nz_nI, oc_s, oc_n, pk_div, pk_rem, m1F, L0, L1, L2, L3, L4, L5, L6, L7, L8, L9, L10, L11, L12, L19, L20, L24, L25, L27, L28, L30, L32, L37, L39, L40, L47, L48, L50, L55, L57, L60, L61, L63, L71, L80, L97, L99, L100, L120, L122, L128, L161, L17, L600, L1000000, L1024, L1408]
theorem longestShining_nI {h : Rec} {v : Hv} (ok : HvOK v) (hx : HX h v) {p n : Nat} (hp : p < hP v) (hn : n ≤ 60) (hS0 : 0 < hS v) : fX2_longestShining h (nI p) (nI n) = some (nI (amx (shB v p n) (hS v - 1))) := by
  have hS10 := ok.2.1
  unfold fX2_longestShining
  refine loopA (step := fun st : Int32 × Int32 => bX2_longestShining_5 h (nI p) (nI n) st.1 st.2) (fun i => (nI (amx (shB v p n) (i - 1)), nI i)) 1 (hS v) hS0 (fun i h1 h2 => ?_) ?_
  · show bX2_longestShining_5 h (nI p) (nI n) (nI (amx (shB v p n) (i - 1))) (nI i) = _
    have h3 := amx_le (shB v p n) (i - 1)
    have h4 := shB_le ok (p := p) (n := n) (s := i) (by omega)
    have h5 := shB_le ok (p := p) (n := n) (s := amx (shB v p n) (i - 1)) (by omega)
    obtain ⟨j, rfl⟩ : ∃ j, i = j + 1 := ⟨i - 1, by omega⟩
    simp only [Nat.add_sub_cancel] at h3 h4 h5 ⊢
    unfold bX2_longestShining_5 bX2_longestShining_35
    by_cases c : shB v p n (amx (shB v p n) j) < shB v p n (j + 1)
    · simp (disch := omega) only [hx.S, shineBehind_nI ok hx, amx, c, bd_some, gd_true, inR_nI, nI_clamp, nI_add, pk_mul, pk_sub, leT, leF, ltT, ltF, eqT, eqF, ite_true, ite_false, reduceIte, nz_nI, oc_s, oc_n, pk_div, pk_rem, m1F, L0, L1, L2, L3, L4, L5, L6, L7, L8, L9, L10, L11, L12, L19, L20, L24, L25, L27, L28, L30, L32, L37, L39, L40, L47, L48, L50, L55, L57, L60, L61, L63, L71, L80, L97, L99, L100, L120, L122, L128, L161, L17, L600, L1000000, L1024, L1408]
    · simp (disch := omega) only [hx.S, shineBehind_nI ok hx, amx, c, bd_some, gd_true, inR_nI, nI_clamp, nI_add, pk_mul, pk_sub, leT, leF, ltT, ltF, eqT, eqF, ite_true, ite_false, reduceIte, nz_nI, oc_s, oc_n, pk_div, pk_rem, m1F, L0, L1, L2, L3, L4, L5, L6, L7, L8, L9, L10, L11, L12, L19, L20, L24, L25, L27, L28, L30, L32, L37, L39, L40, L47, L48, L50, L55, L57, L60, L61, L63, L71, L80, L97, L99, L100, L120, L122, L128, L161, L17, L600, L1000000, L1024, L1408]
  · show bX2_longestShining_5 h (nI p) (nI n) _ (nI (hS v)) = _
    unfold bX2_longestShining_5
    simp (disch := omega) only [hx.S, bd_some, gd_true, inR_nI, nI_clamp, nI_add, pk_mul, pk_sub, leT, leF, ltT, ltF, eqT, eqF, ite_true, ite_false, reduceIte, nz_nI, oc_s, oc_n, pk_div, pk_rem, m1F, L0, L1, L2, L3, L4, L5, L6, L7, L8, L9, L10, L11, L12, L19, L20, L24, L25, L27, L28, L30, L32, L37, L39, L40, L47, L48, L50, L55, L57, L60, L61, L63, L71, L80, L97, L99, L100, L120, L122, L128, L161, L17, L600, L1000000, L1024, L1408]
    rfl
theorem lasting_nI {r : Rec} {k : Nat} {v : Hv} (ok : HvOK v) (hd : Hd r k v) {p n : Nat} (a4 : Int32) (hp : p < hP v) (hn : n ≤ 60) (hS0 : 0 < hS v) : iter (fun st : Int32 × Int32 × Int32 => bX10_lasting_42 r (nI p) (nI n) a4 st.1 st.2.1 st.2.2) (-nI 1, -nI 1, nI 0) = bX10_lasting_103 r a4 (nI (amx (shB v p n) (hS v - 1))) (nI (shB v p n (amx (shB v p n) (hS v - 1)))) := by
  have hS10 := ok.2.1
  have hP8 := ok.1
  have h2 := prod_le (we_le ok hp) hn
  have e : ∀ s, wv v s p - hWe v p * n = shB v p n s := fun s => by unfold shB; rw [Nat.mul_comm]
  have h40 := shB_le ok (p := p) (n := n) (s := 0) (by omega)
  have h60 := wv_le ok (p := p) (s := 0) (by omega)
  rw [iter_step (s := (-nI 1, -nI 1, nI 0)) (s' := (nI 0, nI (shB v p n 0), nI 1)) (by
    show bX10_lasting_42 r (nI p) (nI n) a4 (-nI 1) (-nI 1) (nI 0) = _
    unfold bX10_lasting_42 bX10_lasting_86
    simp (disch := omega) only [hd.S, worthNow_nI ok hd, wear_nI hd, gr0, e, m1le, gr_m1, bd_some, gd_true, inR_nI, nI_clamp, nI_add, pk_mul, pk_sub, leT, leF, ltT, ltF, eqT, eqF, ite_true, ite_false, reduceIte, nz_nI, oc_s, oc_n, pk_div, pk_rem, m1F, L0, L1, L2, L3, L4, L5, L6, L7, L8, L9, L10, L11, L12, L19, L20, L24, L25, L27, L28, L30, L32, L37, L39, L40, L47, L48, L50, L55, L57, L60, L61, L63, L71, L80, L97, L99, L100, L120, L122, L128, L161, L17, L600, L1000000, L1024, L1408])]
  refine loopA (step := fun st : Int32 × Int32 × Int32 => bX10_lasting_42 r (nI p) (nI n) a4 st.1 st.2.1 st.2.2) (fun i => (nI (amx (shB v p n) (i - 1)), nI (shB v p n (amx (shB v p n) (i - 1))), nI i)) 1 (hS v) hS0 (fun i h1 h2 => ?_) ?_
  · show bX10_lasting_42 r (nI p) (nI n) a4 (nI (amx (shB v p n) (i - 1))) (nI (shB v p n (amx (shB v p n) (i - 1)))) (nI i) = _
    have h3 := amx_le (shB v p n) (i - 1)
    have h4 := shB_le ok (p := p) (n := n) (s := i) (by omega)
    have h5 := shB_le ok (p := p) (n := n) (s := amx (shB v p n) (i - 1)) (by omega)
    have h6 := wv_le ok (p := p) (s := i) (by omega)
    obtain ⟨j, rfl⟩ : ∃ j, i = j + 1 := ⟨i - 1, by omega⟩
    simp only [Nat.add_sub_cancel] at h3 h4 h5 ⊢
    unfold bX10_lasting_42 bX10_lasting_86
    by_cases c : shB v p n (amx (shB v p n) j) < shB v p n (j + 1)
    · simp (disch := omega) only [hd.S, worthNow_nI ok hd, wear_nI hd, gr0, e, gr_nI, amx_max, amx, c, bd_some, gd_true, inR_nI, nI_clamp, nI_add, pk_mul, pk_sub, leT, leF, ltT, ltF, eqT, eqF, ite_true, ite_false, reduceIte, nz_nI, oc_s, oc_n, pk_div, pk_rem, m1F, L0, L1, L2, L3, L4, L5, L6, L7, L8, L9, L10, L11, L12, L19, L20, L24, L25, L27, L28, L30, L32, L37, L39, L40, L47, L48, L50, L55, L57, L60, L61, L63, L71, L80, L97, L99, L100, L120, L122, L128, L161, L17, L600, L1000000, L1024, L1408]
    · simp (disch := omega) only [hd.S, worthNow_nI ok hd, wear_nI hd, gr0, e, gr_nI, amx_max, amx, c, bd_some, gd_true, inR_nI, nI_clamp, nI_add, pk_mul, pk_sub, leT, leF, ltT, ltF, eqT, eqF, ite_true, ite_false, reduceIte, nz_nI, oc_s, oc_n, pk_div, pk_rem, m1F, L0, L1, L2, L3, L4, L5, L6, L7, L8, L9, L10, L11, L12, L19, L20, L24, L25, L27, L28, L30, L32, L37, L39, L40, L47, L48, L50, L55, L57, L60, L61, L63, L71, L80, L97, L99, L100, L120, L122, L128, L161, L17, L600, L1000000, L1024, L1408]
  · show bX10_lasting_42 r (nI p) (nI n) a4 _ _ (nI (hS v)) = _
    unfold bX10_lasting_42
    simp (disch := omega) only [hd.S, bd_some, gd_true, inR_nI, nI_clamp, nI_add, pk_mul, pk_sub, leT, leF, ltT, ltF, eqT, eqF, ite_true, ite_false, reduceIte, nz_nI, oc_s, oc_n, pk_div, pk_rem, m1F, L0, L1, L2, L3, L4, L5, L6, L7, L8, L9, L10, L11, L12, L19, L20, L24, L25, L27, L28, L30, L32, L37, L39, L40, L47, L48, L50, L55, L57, L60, L61, L63, L71, L80, L97, L99, L100, L120, L122, L128, L161, L17, L600, L1000000, L1024, L1408]
theorem m0 (r : Rec) : MP r (si r 0 (nI 0)) := MP.si _ _ _
theorem ob_lasting : Ob_lasting Inv := by
  intro g a1 a2 a3 a4 hI h4
  rcases house_cases hI a1 with ⟨h1, h2⟩ | ⟨n, v, hn, rfl, ok, hx, h1, h2, h3⟩
  · have h2 := h2 _ (m0 _)
    refine ⟨-1, _, ?_, ?_, hI.keep (XP.rf hI.1) (m0 _)⟩
    · unfold fX9_lasting; simp (disch := omega) only [h1, bd_some, gd_true, inR_nI, nI_clamp, nI_add, pk_mul, pk_sub, leT, leF, ltT, ltF, eqT, eqF, ite_true, ite_false, reduceIte, nz_nI, oc_s, oc_n, pk_div, pk_rem, m1F, L0, L1, L2, L3, L4, L5, L6, L7, L8, L9, L10, L11, L12, L19, L20, L24, L25, L27, L28, L30, L32, L37, L39, L40, L47, L48, L50, L55, L57, L60, L61, L63, L71, L80, L97, L99, L100, L120, L122, L128, L161, L17, L600, L1000000, L1024, L1408]
    · unfold fX10_lasting
      rcases rng a3 60 with k | ⟨m, k, k2, rfl⟩ | ⟨m, k, k2, rfl⟩
      · simp (disch := omega) only [in_neg k, h2, bd_some, gd_true, inR_nI, nI_clamp, nI_add, pk_mul, pk_sub, leT, leF, ltT, ltF, eqT, eqF, ite_true, ite_false, reduceIte, nz_nI, oc_s, oc_n, pk_div, pk_rem, m1F, L0, L1, L2, L3, L4, L5, L6, L7, L8, L9, L10, L11, L12, L19, L20, L24, L25, L27, L28, L30, L32, L37, L39, L40, L47, L48, L50, L55, L57, L60, L61, L63, L71, L80, L97, L99, L100, L120, L122, L128, L161, L17, L600, L1000000, L1024, L1408]
      · simp (disch := omega) only [inFh, h2, bd_some, gd_true, inR_nI, nI_clamp, nI_add, pk_mul, pk_sub, leT, leF, ltT, ltF, eqT, eqF, ite_true, ite_false, reduceIte, nz_nI, oc_s, oc_n, pk_div, pk_rem, m1F, L0, L1, L2, L3, L4, L5, L6, L7, L8, L9, L10, L11, L12, L19, L20, L24, L25, L27, L28, L30, L32, L37, L39, L40, L47, L48, L50, L55, L57, L60, L61, L63, L71, L80, L97, L99, L100, L120, L122, L128, L161, L17, L600, L1000000, L1024, L1408]
      · simp (disch := omega) only [inT, h2, bd_some, gd_true, inR_nI, nI_clamp, nI_add, pk_mul, pk_sub, leT, leF, ltT, ltF, eqT, eqF, ite_true, ite_false, reduceIte, nz_nI, oc_s, oc_n, pk_div, pk_rem, m1F, L0, L1, L2, L3, L4, L5, L6, L7, L8, L9, L10, L11, L12, L19, L20, L24, L25, L27, L28, L30, L32, L37, L39, L40, L47, L48, L50, L55, L57, L60, L61, L63, L71, L80, L97, L99, L100, L120, L122, L128, L161, L17, L600, L1000000, L1024, L1408]
  · obtain ⟨r', e1, hd, m1⟩ := h3 _ (m0 _)
    have hP8 := ok.1
    have hS10 := ok.2.1
    rcases rng a3 60 with k | ⟨m, k, k2, rfl⟩ | ⟨m, k, k2, rfl⟩
    · refine ⟨-1, _, ?_, ?_, hI.keep (XP.rf hI.1) (m0 _)⟩
      · unfold fX9_lasting
        rcases piece_cases hx.P hd.P hP8 a2 with ⟨p1, p2⟩ | ⟨p, hp, rfl, p1, p2⟩
        · simp (disch := omega) only [h1, h2, p1, bd_some, gd_true, inR_nI, nI_clamp, nI_add, pk_mul, pk_sub, leT, leF, ltT, ltF, eqT, eqF, ite_true, ite_false, reduceIte, nz_nI, oc_s, oc_n, pk_div, pk_rem, m1F, L0, L1, L2, L3, L4, L5, L6, L7, L8, L9, L10, L11, L12, L19, L20, L24, L25, L27, L28, L30, L32, L37, L39, L40, L47, L48, L50, L55, L57, L60, L61, L63, L71, L80, L97, L99, L100, L120, L122, L128, L161, L17, L600, L1000000, L1024, L1408]
        · by_cases c : hS v = 0
          · simp (disch := omega) only [h1, h2, p1, hx.S, bd_some, gd_true, inR_nI, nI_clamp, nI_add, pk_mul, pk_sub, leT, leF, ltT, ltF, eqT, eqF, ite_true, ite_false, reduceIte, nz_nI, oc_s, oc_n, pk_div, pk_rem, m1F, L0, L1, L2, L3, L4, L5, L6, L7, L8, L9, L10, L11, L12, L19, L20, L24, L25, L27, L28, L30, L32, L37, L39, L40, L47, L48, L50, L55, L57, L60, L61, L63, L71, L80, L97, L99, L100, L120, L122, L128, L161, L17, L600, L1000000, L1024, L1408]
          · simp (disch := omega) only [h1, h2, p1, hx.S, neg0 k, bd_some, gd_true, inR_nI, nI_clamp, nI_add, pk_mul, pk_sub, leT, leF, ltT, ltF, eqT, eqF, ite_true, ite_false, reduceIte, nz_nI, oc_s, oc_n, pk_div, pk_rem, m1F, L0, L1, L2, L3, L4, L5, L6, L7, L8, L9, L10, L11, L12, L19, L20, L24, L25, L27, L28, L30, L32, L37, L39, L40, L47, L48, L50, L55, L57, L60, L61, L63, L71, L80, L97, L99, L100, L120, L122, L128, L161, L17, L600, L1000000, L1024, L1408]
      · unfold fX10_lasting
        simp (disch := omega) only [in_neg k, bd_some, gd_true, inR_nI, nI_clamp, nI_add, pk_mul, pk_sub, leT, leF, ltT, ltF, eqT, eqF, ite_true, ite_false, reduceIte, nz_nI, oc_s, oc_n, pk_div, pk_rem, m1F, L0, L1, L2, L3, L4, L5, L6, L7, L8, L9, L10, L11, L12, L19, L20, L24, L25, L27, L28, L30, L32, L37, L39, L40, L47, L48, L50, L55, L57, L60, L61, L63, L71, L80, L97, L99, L100, L120, L122, L128, L161, L17, L600, L1000000, L1024, L1408]
    · refine ⟨-1, _, ?_, ?_, hI.keep (XP.rf hI.1) (m0 _)⟩
      · unfold fX9_lasting
        rcases piece_cases hx.P hd.P hP8 a2 with ⟨p1, p2⟩ | ⟨p, hp, rfl, p1, p2⟩
        · simp (disch := omega) only [h1, h2, p1, bd_some, gd_true, inR_nI, nI_clamp, nI_add, pk_mul, pk_sub, leT, leF, ltT, ltF, eqT, eqF, ite_true, ite_false, reduceIte, nz_nI, oc_s, oc_n, pk_div, pk_rem, m1F, L0, L1, L2, L3, L4, L5, L6, L7, L8, L9, L10, L11, L12, L19, L20, L24, L25, L27, L28, L30, L32, L37, L39, L40, L47, L48, L50, L55, L57, L60, L61, L63, L71, L80, L97, L99, L100, L120, L122, L128, L161, L17, L600, L1000000, L1024, L1408]
        · by_cases c : hS v = 0
          · simp (disch := omega) only [h1, h2, p1, hx.S, bd_some, gd_true, inR_nI, nI_clamp, nI_add, pk_mul, pk_sub, leT, leF, ltT, ltF, eqT, eqF, ite_true, ite_false, reduceIte, nz_nI, oc_s, oc_n, pk_div, pk_rem, m1F, L0, L1, L2, L3, L4, L5, L6, L7, L8, L9, L10, L11, L12, L19, L20, L24, L25, L27, L28, L30, L32, L37, L39, L40, L47, L48, L50, L55, L57, L60, L61, L63, L71, L80, L97, L99, L100, L120, L122, L128, L161, L17, L600, L1000000, L1024, L1408]
          · simp (disch := omega) only [h1, h2, p1, hx.S, bd_some, gd_true, inR_nI, nI_clamp, nI_add, pk_mul, pk_sub, leT, leF, ltT, ltF, eqT, eqF, ite_true, ite_false, reduceIte, nz_nI, oc_s, oc_n, pk_div, pk_rem, m1F, L0, L1, L2, L3, L4, L5, L6, L7, L8, L9, L10, L11, L12, L19, L20, L24, L25, L27, L28, L30, L32, L37, L39, L40, L47, L48, L50, L55, L57, L60, L61, L63, L71, L80, L97, L99, L100, L120, L122, L128, L161, L17, L600, L1000000, L1024, L1408]
      · unfold fX10_lasting
        simp (disch := omega) only [inFh, bd_some, gd_true, inR_nI, nI_clamp, nI_add, pk_mul, pk_sub, leT, leF, ltT, ltF, eqT, eqF, ite_true, ite_false, reduceIte, nz_nI, oc_s, oc_n, pk_div, pk_rem, m1F, L0, L1, L2, L3, L4, L5, L6, L7, L8, L9, L10, L11, L12, L19, L20, L24, L25, L27, L28, L30, L32, L37, L39, L40, L47, L48, L50, L55, L57, L60, L61, L63, L71, L80, L97, L99, L100, L120, L122, L128, L161, L17, L600, L1000000, L1024, L1408]
    · rcases piece_cases hx.P hd.P hP8 a2 with ⟨p1, p2⟩ | ⟨p, hp, rfl, p1, p2⟩
      · refine ⟨-1, r', ?_, ?_, hI.keep (XP.rf hI.1) ((m0 _).tr m1)⟩
        · unfold fX9_lasting
          simp (disch := omega) only [h1, h2, p1, bd_some, gd_true, inR_nI, nI_clamp, nI_add, pk_mul, pk_sub, leT, leF, ltT, ltF, eqT, eqF, ite_true, ite_false, reduceIte, nz_nI, oc_s, oc_n, pk_div, pk_rem, m1F, L0, L1, L2, L3, L4, L5, L6, L7, L8, L9, L10, L11, L12, L19, L20, L24, L25, L27, L28, L30, L32, L37, L39, L40, L47, L48, L50, L55, L57, L60, L61, L63, L71, L80, L97, L99, L100, L120, L122, L128, L161, L17, L600, L1000000, L1024, L1408]
        · unfold fX10_lasting
          simp (disch := omega) only [inT, e1, p2, bd_some, gd_true, inR_nI, nI_clamp, nI_add, pk_mul, pk_sub, leT, leF, ltT, ltF, eqT, eqF, ite_true, ite_false, reduceIte, nz_nI, oc_s, oc_n, pk_div, pk_rem, m1F, L0, L1, L2, L3, L4, L5, L6, L7, L8, L9, L10, L11, L12, L19, L20, L24, L25, L27, L28, L30, L32, L37, L39, L40, L47, L48, L50, L55, L57, L60, L61, L63, L71, L80, L97, L99, L100, L120, L122, L128, L161, L17, L600, L1000000, L1024, L1408]
      · by_cases c : hS v = 0
        · refine ⟨-1, r', ?_, ?_, hI.keep (XP.rf hI.1) ((m0 _).tr m1)⟩
          · unfold fX9_lasting
            simp (disch := omega) only [h1, h2, p1, hx.S, bd_some, gd_true, inR_nI, nI_clamp, nI_add, pk_mul, pk_sub, leT, leF, ltT, ltF, eqT, eqF, ite_true, ite_false, reduceIte, nz_nI, oc_s, oc_n, pk_div, pk_rem, m1F, L0, L1, L2, L3, L4, L5, L6, L7, L8, L9, L10, L11, L12, L19, L20, L24, L25, L27, L28, L30, L32, L37, L39, L40, L47, L48, L50, L55, L57, L60, L61, L63, L71, L80, L97, L99, L100, L120, L122, L128, L161, L17, L600, L1000000, L1024, L1408]
          · unfold fX10_lasting
            simp (disch := omega) only [inT, e1, p2, bd_some, gd_true, inR_nI, nI_clamp, nI_add, pk_mul, pk_sub, leT, leF, ltT, ltF, eqT, eqF, ite_true, ite_false, reduceIte, nz_nI, oc_s, oc_n, pk_div, pk_rem, m1F, L0, L1, L2, L3, L4, L5, L6, L7, L8, L9, L10, L11, L12, L19, L20, L24, L25, L27, L28, L30, L32, L37, L39, L40, L47, L48, L50, L55, L57, L60, L61, L63, L71, L80, L97, L99, L100, L120, L122, L128, L161, L17, L600, L1000000, L1024, L1408]
            refine iter_out ?_
            show bX10_lasting_42 r' (nI p) (nI m) a4 (-nI 1) (-nI 1) (nI 0) = _
            unfold bX10_lasting_42 bX10_lasting_103
            rcases h4 with rfl | rfl
            · simp (disch := omega) only [hd.S, bd_some, gd_true, inR_nI, nI_clamp, nI_add, pk_mul, pk_sub, leT, leF, ltT, ltF, eqT, eqF, ite_true, ite_false, reduceIte, nz_nI, oc_s, oc_n, pk_div, pk_rem, m1F, L0, L1, L2, L3, L4, L5, L6, L7, L8, L9, L10, L11, L12, L19, L20, L24, L25, L27, L28, L30, L32, L37, L39, L40, L47, L48, L50, L55, L57, L60, L61, L63, L71, L80, L97, L99, L100, L120, L122, L128, L161, L17, L600, L1000000, L1024, L1408]
            · simp (disch := omega) only [hd.S, bd_some, gd_true, inR_nI, nI_clamp, nI_add, pk_mul, pk_sub, leT, leF, ltT, ltF, eqT, eqF, ite_true, ite_false, reduceIte, nz_nI, oc_s, oc_n, pk_div, pk_rem, m1F, L0, L1, L2, L3, L4, L5, L6, L7, L8, L9, L10, L11, L12, L19, L20, L24, L25, L27, L28, L30, L32, L37, L39, L40, L47, L48, L50, L55, L57, L60, L61, L63, L71, L80, L97, L99, L100, L120, L122, L128, L161, L17, L600, L1000000, L1024, L1408]
        · have hb := amx_le (shB v p m) (hS v - 1)
          refine ⟨if a4 = 0 then nI (amx (shB v p m) (hS v - 1)) else nI (shB v p m (amx (shB v p m) (hS v - 1))), r', ?_, ?_, hI.keep (XP.rf hI.1) ((m0 _).tr m1)⟩
          · unfold fX9_lasting
            rcases h4 with rfl | rfl
            · simp (disch := omega) only [h1, h2, p1, hx.S, longestShining_nI ok hx, bd_some, gd_true, inR_nI, nI_clamp, nI_add, pk_mul, pk_sub, leT, leF, ltT, ltF, eqT, eqF, ite_true, ite_false, reduceIte, nz_nI, oc_s, oc_n, pk_div, pk_rem, m1F, L0, L1, L2, L3, L4, L5, L6, L7, L8, L9, L10, L11, L12, L19, L20, L24, L25, L27, L28, L30, L32, L37, L39, L40, L47, L48, L50, L55, L57, L60, L61, L63, L71, L80, L97, L99, L100, L120, L122, L128, L161, L17, L600, L1000000, L1024, L1408]
            · simp (disch := omega) only [h1, h2, p1, hx.S, longestShining_nI ok hx, shineBehind_nI ok hx, bd_some, gd_true, inR_nI, nI_clamp, nI_add, pk_mul, pk_sub, leT, leF, ltT, ltF, eqT, eqF, ite_true, ite_false, reduceIte, nz_nI, oc_s, oc_n, pk_div, pk_rem, m1F, L0, L1, L2, L3, L4, L5, L6, L7, L8, L9, L10, L11, L12, L19, L20, L24, L25, L27, L28, L30, L32, L37, L39, L40, L47, L48, L50, L55, L57, L60, L61, L63, L71, L80, L97, L99, L100, L120, L122, L128, L161, L17, L600, L1000000, L1024, L1408]
          · unfold fX10_lasting
            rcases h4 with rfl | rfl
            · simp (disch := omega) only [inT, e1, p2, lasting_nI ok hd, bX10_lasting_103, bd_some, gd_true, inR_nI, nI_clamp, nI_add, pk_mul, pk_sub, leT, leF, ltT, ltF, eqT, eqF, ite_true, ite_false, reduceIte, nz_nI, oc_s, oc_n, pk_div, pk_rem, m1F, L0, L1, L2, L3, L4, L5, L6, L7, L8, L9, L10, L11, L12, L19, L20, L24, L25, L27, L28, L30, L32, L37, L39, L40, L47, L48, L50, L55, L57, L60, L61, L63, L71, L80, L97, L99, L100, L120, L122, L128, L161, L17, L600, L1000000, L1024, L1408]
            · simp (disch := omega) only [inT, e1, p2, lasting_nI ok hd, bX10_lasting_103, bd_some, gd_true, inR_nI, nI_clamp, nI_add, pk_mul, pk_sub, leT, leF, ltT, ltF, eqT, eqF, ite_true, ite_false, reduceIte, nz_nI, oc_s, oc_n, pk_div, pk_rem, m1F, L0, L1, L2, L3, L4, L5, L6, L7, L8, L9, L10, L11, L12, L19, L20, L24, L25, L27, L28, L30, L32, L37, L39, L40, L47, L48, L50, L55, L57, L60, L61, L63, L71, L80, L97, L99, L100, L120, L122, L128, L161, L17, L600, L1000000, L1024, L1408]
