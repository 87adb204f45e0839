theorem L0 : (0 : Int32) = nI 0 := rfl
theorem L1 : (1 : Int32) = nI 1 := rfl
theorem L2 : (2 : Int32) = nI 2 := rfl
theorem L3 : (3 : Int32) = nI 3 := rfl
theorem L4 : (4 : Int32) = nI 4 := rfl
theorem L5 : (5 : Int32) = nI 5 := rfl
theorem L6 : (6 : Int32) = nI 6 := rfl
theorem L7 : (7 : Int32) = nI 7 := rfl
theorem L8 : (8 : Int32) = nI 8 := rfl
theorem L9 : (9 : Int32) = nI 9 := rfl
theorem L10 : (10 : Int32) = nI 10 := rfl
theorem L11 : (11 : Int32) = nI 11 := rfl
theorem L12 : (12 : Int32) = nI 12 := rfl
theorem L19 : (19 : Int32) = nI 19 := rfl
theorem L20 : (20 : Int32) = nI 20 := rfl
theorem L24 : (24 : Int32) = nI 24 := rfl
theorem L25 : (25 : Int32) = nI 25 := rfl
theorem L27 : (27 : Int32) = nI 27 := rfl
theorem L28 : (28 : Int32) = nI 28 := rfl
theorem L30 : (30 : Int32) = nI 30 := rfl
theorem L32 : (32 : Int32) = nI 32 := rfl
theorem L37 : (37 : Int32) = nI 37 := rfl
theorem L39 : (39 : Int32) = nI 39 := rfl
theorem L40 : (40 : Int32) = nI 40 := rfl
theorem L47 : (47 : Int32) = nI 47 := rfl
theorem L48 : (48 : Int32) = nI 48 := rfl
theorem L50 : (50 : Int32) = nI 50 := rfl
theorem L55 : (55 : Int32) = nI 55 := rfl
theorem L57 : (57 : Int32) = nI 57 := rfl
theorem L60 : (60 : Int32) = nI 60 := rfl
theorem L61 : (61 : Int32) = nI 61 := rfl
theorem L63 : (63 : Int32) = nI 63 := rfl
theorem L71 : (71 : Int32) = nI 71 := rfl
theorem L80 : (80 : Int32) = nI 80 := rfl
theorem L97 : (97 : Int32) = nI 97 := rfl
theorem L99 : (99 : Int32) = nI 99 := rfl
theorem L100 : (100 : Int32) = nI 100 := rfl
theorem L120 : (120 : Int32) = nI 120 := rfl
theorem L122 : (122 : Int32) = nI 122 := rfl
theorem L128 : (128 : Int32) = nI 128 := rfl
theorem L161 : (161 : Int32) = nI 161 := rfl
theorem L17 : (17 : Int32) = nI 17 := rfl
theorem L600 : (600 : Int32) = nI 600 := rfl
theorem L1000000 : (1000000 : Int32) = nI 1000000 := rfl
theorem L1024 : (1024 : Int32) = nI 1024 := rfl
theorem L1408 : (1408 : Int32) = nI 1408 := rfl
theorem leT {a b : Nat} (h : a ≤ b) (hb : b < 2 ^ 31) : (nI a ≤ nI b) = True := eq_true ((nI_leI (by omega) hb).mpr h)
theorem leF {a b : Nat} (h : b < a) (ha : a < 2 ^ 31) : (nI a ≤ nI b) = False := eq_false (fun k => by have := (nI_leI ha (by omega)).mp k; omega)
theorem ltT {a b : Nat} (h : a < b) (hb : b < 2 ^ 31) : (nI a < nI b) = True := eq_true ((nI_ltI (by omega) hb).mpr h)
theorem ltF {a b : Nat} (h : b ≤ a) (ha : a < 2 ^ 31) : (nI a < nI b) = False := eq_false (fun k => by have := (nI_ltI ha (by omega)).mp k; omega)
theorem eqT {a b : Nat} (h : a = b) : (nI a = nI b) = True := eq_true (by rw [h])
theorem eqF {a b : Nat} (h : ¬ a = b) (ha : a < 2 ^ 31) (hb : b < 2 ^ 31) : (nI a = nI b) = False := eq_false (fun k => h ((nI_eq ha hb).mp k))
theorem m1F {a : Nat} (ha : a < 2 ^ 31) : (nI a = -nI 1) = False := eq_false (m1_ne ha)
theorem nz_nI {a : Nat} (h : 0 < a) (ha : a < 2 ^ 31) : nz (nI a) = true := decide_eq_true (fun k => by have := (nI_eq (b := 0) ha (by decide)).mp k; omega)
theorem oc_s {α β : Type} (z : β) (a : Option α) (b : β → Option α) : oc (some z) a b = b z := rfl
theorem oc_n {α β : Type} (a : Option α) (b : β → Option α) : oc none a b = a := rfl
theorem iter_none {σ ρ : Type} {step : σ → Option (σ ⊕ ρ)} {s : σ} (h : step s = none) : iter step s = none := by
  cases h2 : iter step s with
  | none => rfl
  | some x =>
    obtain ⟨n, hn⟩ := iter_ex h2
    cases n with
    | zero => cases hn
    | succ n =>
      unfold itN at hn
      rw [h] at hn
      cases hn
theorem iter_out {σ ρ : Type} {step : σ → Option (σ ⊕ ρ)} {s : σ} {x : Option ρ} (h : step s = out1 x) : iter step s = x := by
  cases x with
  | none => exact iter_none h
  | some y => exact iter_end h
/-- a counted loop, and what follows it -/
theorem loopO {σ ρ : Type} {step : σ → Option (σ ⊕ ρ)} (st : Nat → σ) (n : Nat) {x : Option ρ} (hs : ∀ i, i < n → step (st i) = some (.inl (st (i + 1)))) (he : step (st n) = out1 x) : iter step (st 0) = x := (iter_seq st n hs).trans (iter_out he)
theorem loopA {σ ρ : Type} {step : σ → Option (σ ⊕ ρ)} (st : Nat → σ) (a n : Nat) {x : Option ρ} (ha : a ≤ n) (hs : ∀ i, a ≤ i → i < n → step (st i) = some (.inl (st (i + 1)))) (he : step (st n) = out1 x) : iter step (st a) = x := by
  have h := loopO (step := step) (fun i => st (a + i)) (n - a) (x := x) (fun i hi => hs (a + i) (by omega) (by omega)) (by
    show step (st (a + (n - a))) = _
    rw [show a + (n - a) = n by omega]
    exact he)
  exact h
theorem HX.ta {h : Rec} {v : Hv} (hx : HX h v) {p : Nat} (hp : p < hP v) : ga h 3 p = nI (hTa v p) := (hx.2.2.2.1 p hp).1
theorem HX.we {h : Rec} {v : Hv} (hx : HX h v) {p : Nat} (hp : p < hP v) : ga h 4 p = nI (hWe v p) := (hx.2.2.2.1 p hp).2
theorem HX.kn {h : Rec} {v : Hv} (hx : HX h v) {p : Nat} (hp : p < 8) : ga h 5 p = nI (hKn v p) := hx.2.2.2.2.1 p hp
theorem HX.ki {h : Rec} {v : Hv} (hx : HX h v) {s : Nat} (hs : s < hS v) : ga h 6 s = nI (hKi v s) := (hx.2.2.2.2.2.1 s hs).1
theorem HX.wt {h : Rec} {v : Hv} (hx : HX h v) {s : Nat} (hs : s < hS v) : ga h 7 s = nI (hWt v s) := (hx.2.2.2.2.2.1 s hs).2
theorem HX.a1 {h : Rec} {v : Hv} (hx : HX h v) {l : Nat} (hl : l < hL v) : ga h 8 l = nI (hA1 v l) := (hx.2.2.2.2.2.2 l hl).1
theorem HX.a2 {h : Rec} {v : Hv} (hx : HX h v) {l : Nat} (hl : l < hL v) : ga h 9 l = nI (hA2 v l) := (hx.2.2.2.2.2.2 l hl).2.1
theorem HX.a3 {h : Rec} {v : Hv} (hx : HX h v) {l : Nat} (hl : l < hL v) : ga h 10 l = nI (hA3 v l) := (hx.2.2.2.2.2.2 l hl).2.2
theorem Hd.of {r : Rec} {n : Nat} {v : Hv} (hd : Hd r n v) {a : Nat} (ha : a < 71) : fX10_of r (nI a) = some (ga r 6 (71 * n + a)) := of_nI hd.2.1 hd.1 ha
theorem Hd.ta {r : Rec} {n : Nat} {v : Hv} (ok : HvOK v) (hd : Hd r n v) {p : Nat} (hp : p < hP v) : fX10_of r (nI (3 + p)) = some (nI (hTa v p)) := by
  have := ok.1
  rw [hd.of (by omega), ← Nat.add_assoc, hd.2.2.2.2.2.2.2.2.1 p hp]
theorem Hd.we {r : Rec} {n : Nat} {v : Hv} (hd : Hd r n v) {p : Nat} (hp : p < 8) : fX10_of r (nI (11 + p)) = some (nI (hWe v p)) := by
  rw [hd.of (by omega), ← Nat.add_assoc, hd.2.2.2.2.2.2.2.2.2.1 p hp]
theorem Hd.ki {r : Rec} {n : Nat} {v : Hv} (ok : HvOK v) (hd : Hd r n v) {s : Nat} (hs : s < hS v) : fX10_of r (nI (27 + s)) = some (nI (hKi v s)) := by
  have := ok.2.1
  rw [hd.of (by omega), ← Nat.add_assoc, (hd.2.2.2.2.2.2.2.2.2.2.2.1 s hs).1]
theorem Hd.wt {r : Rec} {n : Nat} {v : Hv} (ok : HvOK v) (hd : Hd r n v) {s : Nat} (hs : s < hS v) : fX10_of r (nI (37 + s)) = some (nI (hWt v s)) := by
  have := ok.2.1
  rw [hd.of (by omega), ← Nat.add_assoc, (hd.2.2.2.2.2.2.2.2.2.2.2.1 s hs).2]
theorem Hd.a1 {r : Rec} {n : Nat} {v : Hv} (ok : HvOK v) (hd : Hd r n v) {l : Nat} (hl : l < hL v) : fX10_of r (nI (47 + l)) = some (nI (hA1 v l)) := by
  have := ok.2.2.1
  rw [hd.of (by omega), ← Nat.add_assoc, (hd.2.2.2.2.2.2.2.2.2.2.2.2 l hl).1]
theorem Hd.a2 {r : Rec} {n : Nat} {v : Hv} (ok : HvOK v) (hd : Hd r n v) {l : Nat} (hl : l < hL v) : fX10_of r (nI (55 + l)) = some (nI (hA2 v l)) := by
  have := ok.2.2.1
  rw [hd.of (by omega), ← Nat.add_assoc, (hd.2.2.2.2.2.2.2.2.2.2.2.2 l hl).2.1]
theorem Hd.a3 {r : Rec} {n : Nat} {v : Hv} (ok : HvOK v) (hd : Hd r n v) {l : Nat} (hl : l < hL v) : fX10_of r (nI (63 + l)) = some (nI (hA3 v l)) := by
  have := ok.2.2.1
  rw [hd.of (by omega), ← Nat.add_assoc, (hd.2.2.2.2.2.2.2.2.2.2.2.2 l hl).2.2]
theorem Hd.lk {r : Rec} {n : Nat} {v : Hv} (hd : Hd r n v) : fX10_of r (nI 2) = some (nI (hL v)) := by
  rw [hd.of (by omega), hd.2.2.2.2.2.2.2.1]
theorem Hd.kn {r : Rec} {n : Nat} {v : Hv} (hd : Hd r n v) {p : Nat} (hp : p < 8) : ga r 28 p = nI (hKn v p) := hd.2.2.2.2.1 p hp
theorem Hd.P {r : Rec} {n : Nat} {v : Hv} (hd : Hd r n v) : gi r 26 = nI (hP v) := hd.2.2.1
theorem Hd.S {r : Rec} {n : Nat} {v : Hv} (hd : Hd r n v) : gi r 27 = nI (hS v) := hd.2.2.2.1
theorem HX.P {h : Rec} {v : Hv} (hx : HX h v) : gi h 0 = nI (hP v) := hx.1
theorem HX.S {h : Rec} {v : Hv} (hx : HX h v) : gi h 1 = nI (hS v) := hx.2.1
theorem HX.L {h : Rec} {v : Hv} (hx : HX h v) : gi h 2 = nI (hL v) := hx.2.2.1
theorem wear_nI {r : Rec} {n : Nat} {v : Hv} (hd : Hd r n v) {p : Nat} (hp : p < 8) : fX10_wear r (nI p) = some (nI (hWe v p)) := by
  unfold fX10_wear
  simp (disch := omega) only [hd.we, bd_some, gd_true, inR_nI, nI_clamp, nI_add, pk_mul, pk_sub, leT, leF, ltT, ltF, eqT, eqF, ite_true, ite_false, reduceIte, nz_nI, oc_s, oc_n, pk_div, pk_rem, m1F, L0, L1, L2, L3, L4, L5, L6, L7, L8, L9, L10, L11, L12, L19, L20, L24, L25, L27, L28, L30, L32, L37, L39, L40, L47, L48, L50, L55, L57, L60, L61, L63, L71, L80, L97, L99, L100, L120, L122, L128, L161, L17, L600, L1000000, L1024, L1408]
/-! the greater, the lesser -/
theorem sub_neg {a b : Nat} (ha : a < 2 ^ 30) (hb : b < 2 ^ 30) (h : a < b) : nI a - nI b < 0 := pk_sneg hb h
theorem mx0 {a b : Nat} (ha : a < 2 ^ 30) (hb : b < 2 ^ 30) : mxi (nI 0) (nI a - nI b) = nI (a - b) := by
  unfold mxi
  by_cases h : a < b
  · rw [if_neg (fun k => by have h1 := sub_neg ha hb h; rw [Int32.lt_iff_toInt_lt] at h1 k; have : (nI 0 : Int32).toInt = 0 := rfl; have : (0 : Int32).toInt = 0 := rfl; omega), show a - b = 0 by omega]
  · rw [pk_sub (by omega)]
    by_cases h2 : a = b
    · rw [show a - b = 0 by omega]; rfl
    · simp (disch := omega) only [bd_some, gd_true, inR_nI, nI_clamp, nI_add, pk_mul, pk_sub, leT, leF, ltT, ltF, eqT, eqF, ite_true, ite_false, reduceIte, nz_nI, oc_s, oc_n, pk_div, pk_rem, m1F, L0, L1, L2, L3, L4, L5, L6, L7, L8, L9, L10, L11, L12, L19, L20, L24, L25, L27, L28, L30, L32, L37, L39, L40, L47, L48, L50, L55, L57, L60, L61, L63, L71, L80, L97, L99, L100, L120, L122, L128, L161, L17, L600, L1000000, L1024, L1408]
theorem gr0 {a b : Nat} (ha : a < 2 ^ 30) (hb : b < 2 ^ 30) : fX10_greater (nI 0) (nI a - nI b) = some (nI (a - b)) := by
  unfold fX10_greater
  by_cases h : a < b
  · rw [if_neg (fun k => by have h1 := sub_neg ha hb h; rw [Int32.le_iff_toInt_le] at k; rw [Int32.lt_iff_toInt_lt] at h1; have : (nI 0 : Int32).toInt = 0 := rfl; have : (0 : Int32).toInt = 0 := rfl; omega), show a - b = 0 by omega]
  · rw [pk_sub (by omega)]
    simp (disch := omega) only [bd_some, gd_true, inR_nI, nI_clamp, nI_add, pk_mul, pk_sub, leT, leF, ltT, ltF, eqT, eqF, ite_true, ite_false, reduceIte, nz_nI, oc_s, oc_n, pk_div, pk_rem, m1F, L0, L1, L2, L3, L4, L5, L6, L7, L8, L9, L10, L11, L12, L19, L20, L24, L25, L27, L28, L30, L32, L37, L39, L40, L47, L48, L50, L55, L57, L60, L61, L63, L71, L80, L97, L99, L100, L120, L122, L128, L161, L17, L600, L1000000, L1024, L1408]
theorem mx_nI {a b : Nat} (ha : a < 2 ^ 31) (hb : b < 2 ^ 31) : mxi (nI a) (nI b) = nI (max a b) := by
  unfold mxi
  by_cases h : a < b
  · simp (disch := omega) only [show max a b = b by omega, bd_some, gd_true, inR_nI, nI_clamp, nI_add, pk_mul, pk_sub, leT, leF, ltT, ltF, eqT, eqF, ite_true, ite_false, reduceIte, nz_nI, oc_s, oc_n, pk_div, pk_rem, m1F, L0, L1, L2, L3, L4, L5, L6, L7, L8, L9, L10, L11, L12, L19, L20, L24, L25, L27, L28, L30, L32, L37, L39, L40, L47, L48, L50, L55, L57, L60, L61, L63, L71, L80, L97, L99, L100, L120, L122, L128, L161, L17, L600, L1000000, L1024, L1408]
  · simp (disch := omega) only [show max a b = a by omega, bd_some, gd_true, inR_nI, nI_clamp, nI_add, pk_mul, pk_sub, leT, leF, ltT, ltF, eqT, eqF, ite_true, ite_false, reduceIte, nz_nI, oc_s, oc_n, pk_div, pk_rem, m1F, L0, L1, L2, L3, L4, L5, L6, L7, L8, L9, L10, L11, L12, L19, L20, L24, L25, L27, L28, L30, L32, L37, L39, L40, L47, L48, L50, L55, L57, L60, L61, L63, L71, L80, L97, L99, L100, L120, L122, L128, L161, L17, L600, L1000000, L1024, L1408]
theorem mn_nI {a b : Nat} (ha : a < 2 ^ 31) (hb : b < 2 ^ 31) : mni (nI a) (nI b) = nI (min a b) := by
  unfold mni
  by_cases h : b < a
  · simp (disch := omega) only [show min a b = b by omega, bd_some, gd_true, inR_nI, nI_clamp, nI_add, pk_mul, pk_sub, leT, leF, ltT, ltF, eqT, eqF, ite_true, ite_false, reduceIte, nz_nI, oc_s, oc_n, pk_div, pk_rem, m1F, L0, L1, L2, L3, L4, L5, L6, L7, L8, L9, L10, L11, L12, L19, L20, L24, L25, L27, L28, L30, L32, L37, L39, L40, L47, L48, L50, L55, L57, L60, L61, L63, L71, L80, L97, L99, L100, L120, L122, L128, L161, L17, L600, L1000000, L1024, L1408]
  · simp (disch := omega) only [show min a b = a by omega, bd_some, gd_true, inR_nI, nI_clamp, nI_add, pk_mul, pk_sub, leT, leF, ltT, ltF, eqT, eqF, ite_true, ite_false, reduceIte, nz_nI, oc_s, oc_n, pk_div, pk_rem, m1F, L0, L1, L2, L3, L4, L5, L6, L7, L8, L9, L10, L11, L12, L19, L20, L24, L25, L27, L28, L30, L32, L37, L39, L40, L47, L48, L50, L55, L57, L60, L61, L63, L71, L80, L97, L99, L100, L120, L122, L128, L161, L17, L600, L1000000, L1024, L1408]
theorem gr_nI {a b : Nat} (ha : a < 2 ^ 31) (hb : b < 2 ^ 31) : fX10_greater (nI a) (nI b) = some (nI (max a b)) := by
  unfold fX10_greater
  by_cases h : a ≤ b
  · simp (disch := omega) only [show max a b = b by omega, bd_some, gd_true, inR_nI, nI_clamp, nI_add, pk_mul, pk_sub, leT, leF, ltT, ltF, eqT, eqF, ite_true, ite_false, reduceIte, nz_nI, oc_s, oc_n, pk_div, pk_rem, m1F, L0, L1, L2, L3, L4, L5, L6, L7, L8, L9, L10, L11, L12, L19, L20, L24, L25, L27, L28, L30, L32, L37, L39, L40, L47, L48, L50, L55, L57, L60, L61, L63, L71, L80, L97, L99, L100, L120, L122, L128, L161, L17, L600, L1000000, L1024, L1408]
  · simp (disch := omega) only [show max a b = a by omega, bd_some, gd_true, inR_nI, nI_clamp, nI_add, pk_mul, pk_sub, leT, leF, ltT, ltF, eqT, eqF, ite_true, ite_false, reduceIte, nz_nI, oc_s, oc_n, pk_div, pk_rem, m1F, L0, L1, L2, L3, L4, L5, L6, L7, L8, L9, L10, L11, L12, L19, L20, L24, L25, L27, L28, L30, L32, L37, L39, L40, L47, L48, L50, L55, L57, L60, L61, L63, L71, L80, L97, L99, L100, L120, L122, L128, L161, L17, L600, L1000000, L1024, L1408]
theorem ls_nI {a b : Nat} (ha : a < 2 ^ 31) (hb : b < 2 ^ 31) : fX10_lesser (nI a) (nI b) = some (nI (min a b)) := by
  unfold fX10_lesser
  by_cases h : b ≤ a
  · simp (disch := omega) only [show min a b = b by omega, bd_some, gd_true, inR_nI, nI_clamp, nI_add, pk_mul, pk_sub, leT, leF, ltT, ltF, eqT, eqF, ite_true, ite_false, reduceIte, nz_nI, oc_s, oc_n, pk_div, pk_rem, m1F, L0, L1, L2, L3, L4, L5, L6, L7, L8, L9, L10, L11, L12, L19, L20, L24, L25, L27, L28, L30, L32, L37, L39, L40, L47, L48, L50, L55, L57, L60, L61, L63, L71, L80, L97, L99, L100, L120, L122, L128, L161, L17, L600, L1000000, L1024, L1408]
  · simp (disch := omega) only [show min a b = a by omega, bd_some, gd_true, inR_nI, nI_clamp, nI_add, pk_mul, pk_sub, leT, leF, ltT, ltF, eqT, eqF, ite_true, ite_false, reduceIte, nz_nI, oc_s, oc_n, pk_div, pk_rem, m1F, L0, L1, L2, L3, L4, L5, L6, L7, L8, L9, L10, L11, L12, L19, L20, L24, L25, L27, L28, L30, L32, L37, L39, L40, L47, L48, L50, L55, L57, L60, L61, L63, L71, L80, L97, L99, L100, L120, L122, L128, L161, L17, L600, L1000000, L1024, L1408]
