/-! Euclid -/
def euc : Nat → Nat → Nat → Nat
  | 0, a, _ => a
  | n + 1, a, b => if b = 0 then a else euc n b (a % b)
theorem euc_gcd : ∀ n a b, b < 2 ^ n → euc (2 * n) a b = Nat.gcd a b ∧ euc (2 * n + 1) a b = Nat.gcd a b
  | 0, a, b, h => by
    have : b = 0 := by omega
    subst this
    exact ⟨(Nat.gcd_zero_right a).symm, by show (if 0 = 0 then a else _) = _; rw [if_pos rfl, Nat.gcd_zero_right]⟩
  | n + 1, a, b, h => by
    have step : ∀ m a b, b ≠ 0 → euc (m + 1) a b = euc m b (a % b) := fun m a b hb => by show (if b = 0 then a else euc m b (a % b)) = _; rw [if_neg hb]
    have zero : ∀ m a, euc m a 0 = a := fun m a => by cases m with
      | zero => rfl
      | succ m => show (if 0 = 0 then a else _) = _; rw [if_pos rfl]
    by_cases hb : b = 0
    · subst hb
      rw [zero, zero, Nat.gcd_zero_right]
      exact ⟨rfl, rfl⟩
    · have hr := Nat.mod_lt a (show 0 < b by omega)
      have g1 : Nat.gcd a b = Nat.gcd b (a % b) := by rw [Nat.gcd_comm a b, Nat.gcd_rec, Nat.gcd_comm]
      by_cases hr0 : a % b = 0
      · rw [show 2 * (n + 1) = (2 * n + 1) + 1 by omega, step _ _ _ hb, step (2 * n + 1 + 1) _ _ hb, hr0, zero, zero, g1, hr0, Nat.gcd_zero_right]
        exact ⟨rfl, rfl⟩
      · have g2 : Nat.gcd b (a % b) = Nat.gcd (a % b) (b % (a % b)) := by rw [Nat.gcd_comm b (a % b), Nat.gcd_rec, Nat.gcd_comm]
        have hm : b % (a % b) < 2 ^ n := by
          have h1 := Nat.div_add_mod b (a % b)
          have h2 := Nat.mod_lt b (show 0 < a % b by omega)
          have h3 : 1 ≤ b / (a % b) := (Nat.one_le_div_iff (by omega)).mpr (by omega)
          have h4 : (a % b) * 1 ≤ (a % b) * (b / (a % b)) := Nat.mul_le_mul_left _ h3
          have h5 : 2 ^ (n + 1) = 2 * 2 ^ n := by rw [Nat.pow_succ, Nat.mul_comm]
          omega
        have ih := euc_gcd n (a % b) (b % (a % b)) hm
        rw [show 2 * (n + 1) = (2 * n + 1) + 1 by omega, step _ _ _ hb, step (2 * n + 1 + 1) _ _ hb, step _ _ _ hr0, step _ _ _ hr0, g1, g2]
        exact ih
theorem lcmp_T : lg_cmp (lN 0) (lN 0) = nI 0 := rfl
theorem lcmp_F {a : Nat} (ha : a < 2 ^ 31) (h : 0 < a) : (lg_cmp (lN a) (lN 0) = nI 0) = False := eq_false (fun q => by
  have hnl : lN a > lN 0 := (lN_lt (by decide) ha).mpr h
  unfold lg_cmp at q
  rw [if_pos hnl] at q
  exact absurd q (by decide))
theorem K0 : (0 : Int64) = lN 0 := rfl
theorem K1 : (1 : Int64) = lN 1 := rfl
theorem nzl_nI {a : Nat} (h : 0 < a) (ha : a < 2 ^ 31) : nzl (lN a) = true := decide_eq_true (fun k => by have := (lN_eq (b := 0) ha (by decide)).mp k; omega)
theorem common_nI : ∀ b a, a < 2 ^ 31 → b < 2 ^ 31 → iter (fun st : Int64 × Int64 => bX10_common_6 st.1 st.2) (lN a, lN b) = some (lN (Nat.gcd a b)) := by
  intro b
  induction b using Nat.strongRecOn with
  | ind b ih =>
    intro a ha hb
    by_cases h : b = 0
    · subst h
      refine iter_out ?_
      show bX10_common_6 (lN a) (lN 0) = _
      unfold bX10_common_6 bX10_common_31
      simp (disch := omega) only [K0, lcmp_T, Nat.gcd_zero_right, bd_some, gd_true, inR_nI, nI_clamp, nI_add, pk_mul, pk_sub, leT, leF, ltT, ltF, eqT, eqF, ite_true, ite_false, reduceIte, nz_nI, oc_s, oc_n, pk_div, pk_rem, m1F, L0, L1, L2, L3, L4, L5, L6, L7, L8, L9, L10, L11, L12, L19, L20, L24, L25, L27, L28, L30, L32, L37, L39, L40, L47, L48, L50, L55, L57, L60, L61, L63, L71, L80, L97, L99, L100, L120, L122, L128, L161, L17, L600, L1000000, L1024, L1408, isB0, isB1, subdm, inT, inFl, inFh]
    · have hr := Nat.mod_lt a (show 0 < b by omega)
      rw [iter_step (s := (lN a, lN b)) (s' := (lN b, lN (a % b))) (by
        show bX10_common_6 (lN a) (lN b) = _
        unfold bX10_common_6
        rw [pk_lRem (by omega) (by omega) (by omega)]
        simp (disch := omega) only [K0, lcmp_F, nzl_nI, bd_some, gd_true, inR_nI, nI_clamp, nI_add, pk_mul, pk_sub, leT, leF, ltT, ltF, eqT, eqF, ite_true, ite_false, reduceIte, nz_nI, oc_s, oc_n, pk_div, pk_rem, m1F, L0, L1, L2, L3, L4, L5, L6, L7, L8, L9, L10, L11, L12, L19, L20, L24, L25, L27, L28, L30, L32, L37, L39, L40, L47, L48, L50, L55, L57, L60, L61, L63, L71, L80, L97, L99, L100, L120, L122, L128, L161, L17, L600, L1000000, L1024, L1408, isB0, isB1, subdm, inT, inFl, inFh]), ih (a % b) hr b hb (by omega)]
      rw [show Nat.gcd b (a % b) = Nat.gcd a b by rw [Nat.gcd_comm a b, Nat.gcd_rec b a, Nat.gcd_comm]]
theorem frac_nI (v0 v2 : Int64) (a4 : Int32) : ∀ n k a b, k + n = 128 → a < 2 ^ 31 → b < 2 ^ 31 → iter (fun st : Int64 × Int64 × Int32 => bX9_fractionPart_9 v0 v2 a4 st.1 st.2.1 st.2.2) (lN a, lN b, nI k) = bX9_fractionPart_45 v0 v2 a4 (lN (euc n a b)) := by
  intro n
  induction n with
  | zero =>
    intro k a b hk ha hb
    refine iter_out ?_
    show bX9_fractionPart_9 v0 v2 a4 (lN a) (lN b) (nI k) = _
    unfold bX9_fractionPart_9
    simp (disch := omega) only [euc, bd_some, gd_true, inR_nI, nI_clamp, nI_add, pk_mul, pk_sub, leT, leF, ltT, ltF, eqT, eqF, ite_true, ite_false, reduceIte, nz_nI, oc_s, oc_n, pk_div, pk_rem, m1F, L0, L1, L2, L3, L4, L5, L6, L7, L8, L9, L10, L11, L12, L19, L20, L24, L25, L27, L28, L30, L32, L37, L39, L40, L47, L48, L50, L55, L57, L60, L61, L63, L71, L80, L97, L99, L100, L120, L122, L128, L161, L17, L600, L1000000, L1024, L1408, isB0, isB1, subdm, inT, inFl, inFh]
  | succ n ih =>
    intro k a b hk ha hb
    by_cases h : b = 0
    · subst h
      refine iter_out ?_
      show bX9_fractionPart_9 v0 v2 a4 (lN a) (lN 0) (nI k) = _
      unfold bX9_fractionPart_9
      simp (disch := omega) only [euc, K0, lcmp_T, bd_some, gd_true, inR_nI, nI_clamp, nI_add, pk_mul, pk_sub, leT, leF, ltT, ltF, eqT, eqF, ite_true, ite_false, reduceIte, nz_nI, oc_s, oc_n, pk_div, pk_rem, m1F, L0, L1, L2, L3, L4, L5, L6, L7, L8, L9, L10, L11, L12, L19, L20, L24, L25, L27, L28, L30, L32, L37, L39, L40, L47, L48, L50, L55, L57, L60, L61, L63, L71, L80, L97, L99, L100, L120, L122, L128, L161, L17, L600, L1000000, L1024, L1408, isB0, isB1, subdm, inT, inFl, inFh]
    · have hr := Nat.mod_lt a (show 0 < b by omega)
      rw [iter_step (s := (lN a, lN b, nI k)) (s' := (lN b, lN (a % b), nI (k + 1))) (by
        show bX9_fractionPart_9 v0 v2 a4 (lN a) (lN b) (nI k) = _
        unfold bX9_fractionPart_9
        rw [pk_lRem (by omega) (by omega) (by omega)]
        simp (disch := omega) only [K0, lcmp_F, nzl_nI, bd_some, gd_true, inR_nI, nI_clamp, nI_add, pk_mul, pk_sub, leT, leF, ltT, ltF, eqT, eqF, ite_true, ite_false, reduceIte, nz_nI, oc_s, oc_n, pk_div, pk_rem, m1F, L0, L1, L2, L3, L4, L5, L6, L7, L8, L9, L10, L11, L12, L19, L20, L24, L25, L27, L28, L30, L32, L37, L39, L40, L47, L48, L50, L55, L57, L60, L61, L63, L71, L80, L97, L99, L100, L120, L122, L128, L161, L17, L600, L1000000, L1024, L1408, isB0, isB1, subdm, inT, inFl, inFh]), ih (k + 1) b (a % b) (by omega) hb (by omega)]
      simp (disch := omega) only [euc, h, bd_some, gd_true, inR_nI, nI_clamp, nI_add, pk_mul, pk_sub, leT, leF, ltT, ltF, eqT, eqF, ite_true, ite_false, reduceIte, nz_nI, oc_s, oc_n, pk_div, pk_rem, m1F, L0, L1, L2, L3, L4, L5, L6, L7, L8, L9, L10, L11, L12, L19, L20, L24, L25, L27, L28, L30, L32, L37, L39, L40, L47, L48, L50, L55, L57, L60, L61, L63, L71, L80, L97, L99, L100, L120, L122, L128, L161, L17, L600, L1000000, L1024, L1408, isB0, isB1, subdm, inT, inFl, inFh]
/-- a fraction's part, in least terms -/
theorem part_nI {up dn : Nat} (hu : up < 2 ^ 31) (hd0 : 0 < dn) (hd : dn < 2 ^ 31) (a : Int32) (ha : a = 0 ∨ a = 1) : fX9_fractionPart (lN up) (lN dn) a = some (lN ((if a = 0 then up else dn) / Nat.gcd up dn)) ∧ fX10_part (lN up) (lN dn) a = some (lN ((if a = 0 then up else dn) / Nat.gcd up dn)) := by
  have hg0 : 0 < Nat.gcd up dn := Nat.gcd_pos_of_pos_right _ hd0
  have hg : Nat.gcd up dn ≤ dn := Nat.gcd_le_right _ hd0
  have hg0' : 0 < Nat.gcd dn up := by rw [Nat.gcd_comm]; exact hg0
  have e : euc 128 up dn = Nat.gcd up dn := (euc_gcd 64 up dn (by omega)).1
  have hf := frac_nI (lN up) (lN dn) a 128 0 up dn rfl hu hd
  have hc := common_nI up dn hd hu
  unfold fX9_fractionPart fX10_part bX10_part_10 fX10_common
  constructor
  · rw [e] at hf
    refine Eq.trans hf ?_
    rcases ha with rfl | rfl
    · simp (disch := omega) only [bX9_fractionPart_45, bX9_fractionPart_55, K0, lcmp_F, nzl_nI, pk_lDiv, bd_some, gd_true, inR_nI, nI_clamp, nI_add, pk_mul, pk_sub, leT, leF, ltT, ltF, eqT, eqF, ite_true, ite_false, reduceIte, nz_nI, oc_s, oc_n, pk_div, pk_rem, m1F, L0, L1, L2, L3, L4, L5, L6, L7, L8, L9, L10, L11, L12, L19, L20, L24, L25, L27, L28, L30, L32, L37, L39, L40, L47, L48, L50, L55, L57, L60, L61, L63, L71, L80, L97, L99, L100, L120, L122, L128, L161, L17, L600, L1000000, L1024, L1408, isB0, isB1, subdm, inT, inFl, inFh]
    · simp (disch := omega) only [bX9_fractionPart_45, bX9_fractionPart_55, K0, lcmp_F, nzl_nI, pk_lDiv, bd_some, gd_true, inR_nI, nI_clamp, nI_add, pk_mul, pk_sub, leT, leF, ltT, ltF, eqT, eqF, ite_true, ite_false, reduceIte, nz_nI, oc_s, oc_n, pk_div, pk_rem, m1F, L0, L1, L2, L3, L4, L5, L6, L7, L8, L9, L10, L11, L12, L19, L20, L24, L25, L27, L28, L30, L32, L37, L39, L40, L47, L48, L50, L55, L57, L60, L61, L63, L71, L80, L97, L99, L100, L120, L122, L128, L161, L17, L600, L1000000, L1024, L1408, isB0, isB1, subdm, inT, inFl, inFh]
  · rw [Nat.gcd_comm dn up] at hc
    rcases ha with rfl | rfl
    · simp (disch := omega) only [hc, nzl_nI, pk_lDiv, bd_some, gd_true, inR_nI, nI_clamp, nI_add, pk_mul, pk_sub, leT, leF, ltT, ltF, eqT, eqF, ite_true, ite_false, reduceIte, nz_nI, oc_s, oc_n, pk_div, pk_rem, m1F, L0, L1, L2, L3, L4, L5, L6, L7, L8, L9, L10, L11, L12, L19, L20, L24, L25, L27, L28, L30, L32, L37, L39, L40, L47, L48, L50, L55, L57, L60, L61, L63, L71, L80, L97, L99, L100, L120, L122, L128, L161, L17, L600, L1000000, L1024, L1408, isB0, isB1, subdm, inT, inFl, inFh]
    · simp (disch := omega) only [hc, nzl_nI, pk_lDiv, bd_some, gd_true, inR_nI, nI_clamp, nI_add, pk_mul, pk_sub, leT, leF, ltT, ltF, eqT, eqF, ite_true, ite_false, reduceIte, nz_nI, oc_s, oc_n, pk_div, pk_rem, m1F, L0, L1, L2, L3, L4, L5, L6, L7, L8, L9, L10, L11, L12, L19, L20, L24, L25, L27, L28, L30, L32, L37, L39, L40, L47, L48, L50, L55, L57, L60, L61, L63, L71, L80, L97, L99, L100, L120, L122, L128, L161, L17, L600, L1000000, L1024, L1408, isB0, isB1, subdm, inT, inFl, inFh]
/-! hidden, leaks -/
def csN (n k : Nat) : Nat := sm (fun t => if pc t = n then 1 else 0) k
noncomputable def chN (v : Hv) (s n k : Nat) : Nat := sm (fun t => if pc t = n ∧ (clo v 8 t).testBit s = false then 1 else 0) k
noncomputable def lkN (v : Hv) (n k : Nat) : Nat := sm (fun t => if pc t = n then wof v (clo v 8 t) else 0) k
theorem csN_pos {n S : Nat} (h : n ≤ S) (hS : S ≤ 10) : 0 < csN n (2 ^ S) := by
  have h1 : ∀ n, n ≤ 10 → pc (2 ^ n - 1) = n := by decide +kernel
  have h2 : ∀ t k, t < k → pc t = n → 0 < csN n k := by
    intro t k
    induction k with
    | zero => intro h; omega
    | succ k ih =>
      intro h3 h4
      show 0 < csN n k + (if pc k = n then 1 else 0)
      by_cases e : t = k
      · rw [← e, if_pos h4]; omega
      · have := ih (by omega) h4
        omega
  have h3 : 2 ^ n ≤ 2 ^ S := Nat.pow_le_pow_right (by decide) h
  have := p1 n
  exact h2 (2 ^ n - 1) _ (by omega) (h1 n (by omega))
theorem csN_le {n k : Nat} : csN n k ≤ k := by
  have := sm_le (f := fun t => if pc t = n then 1 else 0) (c := 1) (n := k) (fun i _ => by split <;> omega)
  unfold csN
  omega
theorem chN_le {v : Hv} {s n k : Nat} : chN v s n k ≤ k := by
  have := sm_le (f := fun t => if pc t = n ∧ (clo v 8 t).testBit s = false then 1 else 0) (c := 1) (n := k) (fun i _ => by split <;> omega)
  unfold chN
  omega
theorem lkN_le {v : Hv} (ok : HvOK v) {n k : Nat} : lkN v n k ≤ k * 300 := by
  exact sm_le (f := fun t => if pc t = n then wof v (clo v 8 t) else 0) (c := 300) (n := k) (fun i _ => by have := wof_le ok (clo v 8 i); split <;> omega)
theorem countSets_nI {h : Rec} {v : Hv} (ok : HvOK v) (hx : HX h v) {n : Nat} (hn : n ≤ 10) : fX2_countSets h (nI n) = some (nI (csN n (2 ^ hS v))) := by
  have hpS := pS ok
  unfold fX2_countSets
  refine loopO (step := fun st : Int32 × Int32 => bX2_countSets_4 h (nI n) st.1 st.2) (fun i => (nI (csN n i), nI i)) (2 ^ hS v) (fun i hi => ?_) ?_
  · show bX2_countSets_4 h (nI n) (nI (csN n i)) (nI i) = some (.inl (nI (csN n i + if pc i = n then 1 else 0), nI (i + 1)))
    have hp := pc_le i
    unfold bX2_countSets_4 bX2_countSets_26
    by_cases c : pc i = n
    · simp (disch := omega) only [secretSets_nI ok hx, bitCount_nI, c, bd_some, gd_true, inR_nI, nI_clamp, nI_add, pk_mul, pk_sub, leT, leF, ltT, ltF, eqT, eqF, ite_true, ite_false, reduceIte, nz_nI, oc_s, oc_n, pk_div, pk_rem, m1F, L0, L1, L2, L3, L4, L5, L6, L7, L8, L9, L10, L11, L12, L19, L20, L24, L25, L27, L28, L30, L32, L37, L39, L40, L47, L48, L50, L55, L57, L60, L61, L63, L71, L80, L97, L99, L100, L120, L122, L128, L161, L17, L600, L1000000, L1024, L1408, isB0, isB1, subdm, inT, inFl, inFh]
    · simp (disch := omega) only [secretSets_nI ok hx, bitCount_nI, if_neg c, bd_some, gd_true, inR_nI, nI_clamp, nI_add, pk_mul, pk_sub, leT, leF, ltT, ltF, eqT, eqF, ite_true, ite_false, reduceIte, nz_nI, oc_s, oc_n, pk_div, pk_rem, m1F, L0, L1, L2, L3, L4, L5, L6, L7, L8, L9, L10, L11, L12, L19, L20, L24, L25, L27, L28, L30, L32, L37, L39, L40, L47, L48, L50, L55, L57, L60, L61, L63, L71, L80, L97, L99, L100, L120, L122, L128, L161, L17, L600, L1000000, L1024, L1408, isB0, isB1, subdm, inT, inFl, inFh]
  · show bX2_countSets_4 h (nI n) _ (nI (2 ^ hS v)) = _
    unfold bX2_countSets_4
    simp (disch := omega) only [secretSets_nI ok hx, bd_some, gd_true, inR_nI, nI_clamp, nI_add, pk_mul, pk_sub, leT, leF, ltT, ltF, eqT, eqF, ite_true, ite_false, reduceIte, nz_nI, oc_s, oc_n, pk_div, pk_rem, m1F, L0, L1, L2, L3, L4, L5, L6, L7, L8, L9, L10, L11, L12, L19, L20, L24, L25, L27, L28, L30, L32, L37, L39, L40, L47, L48, L50, L55, L57, L60, L61, L63, L71, L80, L97, L99, L100, L120, L122, L128, L161, L17, L600, L1000000, L1024, L1408, isB0, isB1, subdm, inT, inFl, inFh]
    all_goals rfl
theorem countHiding_nI {h : Rec} {v : Hv} (ok : HvOK v) (hx : HX h v) {s n : Nat} (hs : s < hS v) (hn : n ≤ 10) : fX2_countHiding h (nI s) (nI n) = some (nI (chN v s n (2 ^ hS v))) := by
  have hpS := pS ok
  have hS10 := ok.2.1
  unfold fX2_countHiding
  refine loopO (step := fun st : Int32 × Int32 => bX2_countHiding_5 h (nI s) (nI n) st.1 st.2) (fun i => (nI (chN v s n i), nI i)) (2 ^ hS v) (fun i hi => ?_) ?_
  · show bX2_countHiding_5 h (nI s) (nI n) (nI (chN v s n i)) (nI i) = some (.inl (nI (chN v s n i + if pc i = n ∧ (clo v 8 i).testBit s = false then 1 else 0), nI (i + 1)))
    have hp := pc_le i
    have hc := clo_lt ok (wo := 8) hi
    unfold bX2_countHiding_5 bX2_countHiding_40
    by_cases c : pc i = n
    · cases b : (clo v 8 i).testBit s
      · simp (disch := omega) only [secretSets_nI ok hx, bitCount_nI, c, closure_nI ok hx Lo.none hi, hasBit_nI, b, Bool.false_eq_true, and_self, bd_some, gd_true, inR_nI, nI_clamp, nI_add, pk_mul, pk_sub, leT, leF, ltT, ltF, eqT, eqF, ite_true, ite_false, reduceIte, nz_nI, oc_s, oc_n, pk_div, pk_rem, m1F, L0, L1, L2, L3, L4, L5, L6, L7, L8, L9, L10, L11, L12, L19, L20, L24, L25, L27, L28, L30, L32, L37, L39, L40, L47, L48, L50, L55, L57, L60, L61, L63, L71, L80, L97, L99, L100, L120, L122, L128, L161, L17, L600, L1000000, L1024, L1408, isB0, isB1, subdm, inT, inFl, inFh]
      · simp (disch := omega) only [secretSets_nI ok hx, bitCount_nI, c, closure_nI ok hx Lo.none hi, hasBit_nI, b, Bool.true_eq_false, and_false, Nat.add_zero, bd_some, gd_true, inR_nI, nI_clamp, nI_add, pk_mul, pk_sub, leT, leF, ltT, ltF, eqT, eqF, ite_true, ite_false, reduceIte, nz_nI, oc_s, oc_n, pk_div, pk_rem, m1F, L0, L1, L2, L3, L4, L5, L6, L7, L8, L9, L10, L11, L12, L19, L20, L24, L25, L27, L28, L30, L32, L37, L39, L40, L47, L48, L50, L55, L57, L60, L61, L63, L71, L80, L97, L99, L100, L120, L122, L128, L161, L17, L600, L1000000, L1024, L1408, isB0, isB1, subdm, inT, inFl, inFh]
    · simp (disch := omega) only [secretSets_nI ok hx, bitCount_nI, c, false_and, Nat.add_zero, bd_some, gd_true, inR_nI, nI_clamp, nI_add, pk_mul, pk_sub, leT, leF, ltT, ltF, eqT, eqF, ite_true, ite_false, reduceIte, nz_nI, oc_s, oc_n, pk_div, pk_rem, m1F, L0, L1, L2, L3, L4, L5, L6, L7, L8, L9, L10, L11, L12, L19, L20, L24, L25, L27, L28, L30, L32, L37, L39, L40, L47, L48, L50, L55, L57, L60, L61, L63, L71, L80, L97, L99, L100, L120, L122, L128, L161, L17, L600, L1000000, L1024, L1408, isB0, isB1, subdm, inT, inFl, inFh]
  · show bX2_countHiding_5 h (nI s) (nI n) _ (nI (2 ^ hS v)) = _
    unfold bX2_countHiding_5
    simp (disch := omega) only [secretSets_nI ok hx, bd_some, gd_true, inR_nI, nI_clamp, nI_add, pk_mul, pk_sub, leT, leF, ltT, ltF, eqT, eqF, ite_true, ite_false, reduceIte, nz_nI, oc_s, oc_n, pk_div, pk_rem, m1F, L0, L1, L2, L3, L4, L5, L6, L7, L8, L9, L10, L11, L12, L19, L20, L24, L25, L27, L28, L30, L32, L37, L39, L40, L47, L48, L50, L55, L57, L60, L61, L63, L71, L80, L97, L99, L100, L120, L122, L128, L161, L17, L600, L1000000, L1024, L1408, isB0, isB1, subdm, inT, inFl, inFh]
    all_goals rfl
theorem weightLeaking_nI {h : Rec} {v : Hv} (ok : HvOK v) (hx : HX h v) {n : Nat} (hn : n ≤ 10) : fX2_weightLeaking h (nI n) = some (nI (lkN v n (2 ^ hS v))) := by
  have hpS := pS ok
  have hS10 := ok.2.1
  unfold fX2_weightLeaking
  refine loopO (step := fun st : Int32 × Int32 => bX2_weightLeaking_4 h (nI n) st.1 st.2) (fun i => (nI (lkN v n i), nI i)) (2 ^ hS v) (fun i hi => ?_) ?_
  · show bX2_weightLeaking_4 h (nI n) (nI (lkN v n i)) (nI i) = some (.inl (nI (lkN v n i + if pc i = n then wof v (clo v 8 i) else 0), nI (i + 1)))
    have hp := pc_le i
    have hc := clo_lt ok (wo := 8) hi
    unfold bX2_weightLeaking_4 bX2_weightLeaking_33
    by_cases c : pc i = n
    · simp (disch := omega) only [secretSets_nI ok hx, bitCount_nI, c, closure_nI ok hx Lo.none hi, weightOf_nI ok hx, bd_some, gd_true, inR_nI, nI_clamp, nI_add, pk_mul, pk_sub, leT, leF, ltT, ltF, eqT, eqF, ite_true, ite_false, reduceIte, nz_nI, oc_s, oc_n, pk_div, pk_rem, m1F, L0, L1, L2, L3, L4, L5, L6, L7, L8, L9, L10, L11, L12, L19, L20, L24, L25, L27, L28, L30, L32, L37, L39, L40, L47, L48, L50, L55, L57, L60, L61, L63, L71, L80, L97, L99, L100, L120, L122, L128, L161, L17, L600, L1000000, L1024, L1408, isB0, isB1, subdm, inT, inFl, inFh]
    · simp (disch := omega) only [secretSets_nI ok hx, bitCount_nI, if_neg c, Nat.add_zero, bd_some, gd_true, inR_nI, nI_clamp, nI_add, pk_mul, pk_sub, leT, leF, ltT, ltF, eqT, eqF, ite_true, ite_false, reduceIte, nz_nI, oc_s, oc_n, pk_div, pk_rem, m1F, L0, L1, L2, L3, L4, L5, L6, L7, L8, L9, L10, L11, L12, L19, L20, L24, L25, L27, L28, L30, L32, L37, L39, L40, L47, L48, L50, L55, L57, L60, L61, L63, L71, L80, L97, L99, L100, L120, L122, L128, L161, L17, L600, L1000000, L1024, L1408, isB0, isB1, subdm, inT, inFl, inFh]
  · show bX2_weightLeaking_4 h (nI n) _ (nI (2 ^ hS v)) = _
    unfold bX2_weightLeaking_4
    simp (disch := omega) only [secretSets_nI ok hx, bd_some, gd_true, inR_nI, nI_clamp, nI_add, pk_mul, pk_sub, leT, leF, ltT, ltF, eqT, eqF, ite_true, ite_false, reduceIte, nz_nI, oc_s, oc_n, pk_div, pk_rem, m1F, L0, L1, L2, L3, L4, L5, L6, L7, L8, L9, L10, L11, L12, L19, L20, L24, L25, L27, L28, L30, L32, L37, L39, L40, L47, L48, L50, L55, L57, L60, L61, L63, L71, L80, L97, L99, L100, L120, L122, L128, L161, L17, L600, L1000000, L1024, L1408, isB0, isB1, subdm, inT, inFl, inFh]
    all_goals rfl
theorem hiddenM {r : Rec} {m : Nat} {v : Hv} (ok : HvOK v) (hd : Hd r m v) {s n : Nat} (hs : s < hS v) (hn : n ≤ 10) (a : Int32) : iter (fun st : Int64 × Int64 × Int32 => bX10_hidden_46 r (nI s) (nI n) a st.1 st.2.1 st.2.2) (lN 0, lN 0, nI 0) = bX10_hidden_100 r a (lN (chN v s n (2 ^ hS v))) (lN (csN n (2 ^ hS v))) := by
  have hpS := pS ok
  have hp1 := p1 (hS v)
  have hS10 := ok.2.1
  refine loopO (step := fun st : Int64 × Int64 × Int32 => bX10_hidden_46 r (nI s) (nI n) a st.1 st.2.1 st.2.2) (fun i => (lN (chN v s n i), lN (csN n i), nI i)) (2 ^ hS v) (fun i hi => ?_) ?_
  · show bX10_hidden_46 r (nI s) (nI n) a (lN (chN v s n i)) (lN (csN n i)) (nI i) = some (.inl (lN (chN v s n i + if pc i = n ∧ (clo v 8 i).testBit s = false then 1 else 0), lN (csN n i + if pc i = n then 1 else 0), nI (i + 1)))
    have hp := pc_le i
    have hc := clo_lt ok (wo := 8) hi
    unfold bX10_hidden_46 bX10_hidden_91 bX10_hidden_94
    by_cases c : pc i = n
    · cases b : (clo v 8 i).testBit s
      · simp (disch := omega) only [everything_nI ok hd, ones_nI, c, comesOf_nI ok hd Lo.none hi, has_nI, b, Bool.false_eq_true, and_self, K0, K1, lN_add, bd_some, gd_true, inR_nI, nI_clamp, nI_add, pk_mul, pk_sub, leT, leF, ltT, ltF, eqT, eqF, ite_true, ite_false, reduceIte, nz_nI, oc_s, oc_n, pk_div, pk_rem, m1F, L0, L1, L2, L3, L4, L5, L6, L7, L8, L9, L10, L11, L12, L19, L20, L24, L25, L27, L28, L30, L32, L37, L39, L40, L47, L48, L50, L55, L57, L60, L61, L63, L71, L80, L97, L99, L100, L120, L122, L128, L161, L17, L600, L1000000, L1024, L1408, isB0, isB1, subdm, inT, inFl, inFh]
      · simp (disch := omega) only [everything_nI ok hd, ones_nI, c, comesOf_nI ok hd Lo.none hi, has_nI, b, Bool.true_eq_false, and_false, K0, K1, lN_add, bd_some, gd_true, inR_nI, nI_clamp, nI_add, pk_mul, pk_sub, leT, leF, ltT, ltF, eqT, eqF, ite_true, ite_false, reduceIte, nz_nI, oc_s, oc_n, pk_div, pk_rem, m1F, L0, L1, L2, L3, L4, L5, L6, L7, L8, L9, L10, L11, L12, L19, L20, L24, L25, L27, L28, L30, L32, L37, L39, L40, L47, L48, L50, L55, L57, L60, L61, L63, L71, L80, L97, L99, L100, L120, L122, L128, L161, L17, L600, L1000000, L1024, L1408, isB0, isB1, subdm, inT, inFl, inFh]
    · simp (disch := omega) only [everything_nI ok hd, ones_nI, c, false_and, Nat.add_zero, bd_some, gd_true, inR_nI, nI_clamp, nI_add, pk_mul, pk_sub, leT, leF, ltT, ltF, eqT, eqF, ite_true, ite_false, reduceIte, nz_nI, oc_s, oc_n, pk_div, pk_rem, m1F, L0, L1, L2, L3, L4, L5, L6, L7, L8, L9, L10, L11, L12, L19, L20, L24, L25, L27, L28, L30, L32, L37, L39, L40, L47, L48, L50, L55, L57, L60, L61, L63, L71, L80, L97, L99, L100, L120, L122, L128, L161, L17, L600, L1000000, L1024, L1408, isB0, isB1, subdm, inT, inFl, inFh]
  · show bX10_hidden_46 r (nI s) (nI n) a _ _ (nI (2 ^ hS v)) = _
    unfold bX10_hidden_46
    simp (disch := omega) only [everything_nI ok hd, bd_some, gd_true, inR_nI, nI_clamp, nI_add, pk_mul, pk_sub, leT, leF, ltT, ltF, eqT, eqF, ite_true, ite_false, reduceIte, nz_nI, oc_s, oc_n, pk_div, pk_rem, m1F, L0, L1, L2, L3, L4, L5, L6, L7, L8, L9, L10, L11, L12, L19, L20, L24, L25, L27, L28, L30, L32, L37, L39, L40, L47, L48, L50, L55, L57, L60, L61, L63, L71, L80, L97, L99, L100, L120, L122, L128, L161, L17, L600, L1000000, L1024, L1408, isB0, isB1, subdm, inT, inFl, inFh]
theorem leaksM {r : Rec} {m : Nat} {v : Hv} (ok : HvOK v) (hd : Hd r m v) {n : Nat} (hn : n ≤ 10) (a : Int32) : iter (fun st : Int64 × Int64 × Int32 => bX10_leaks_38 r (nI n) a st.1 st.2.1 st.2.2) (lN 0, lN 0, nI 0) = bX10_leaks_85 r a (lN (lkN v n (2 ^ hS v))) (lN (csN n (2 ^ hS v))) := by
  have hpS := pS ok
  have hp1 := p1 (hS v)
  have hS10 := ok.2.1
  refine loopO (step := fun st : Int64 × Int64 × Int32 => bX10_leaks_38 r (nI n) a st.1 st.2.1 st.2.2) (fun i => (lN (lkN v n i), lN (csN n i), nI i)) (2 ^ hS v) (fun i hi => ?_) ?_
  · show bX10_leaks_38 r (nI n) a (lN (lkN v n i)) (lN (csN n i)) (nI i) = some (.inl (lN (lkN v n i + if pc i = n then wof v (clo v 8 i) else 0), lN (csN n i + if pc i = n then 1 else 0), nI (i + 1)))
    have hp := pc_le i
    have hc := clo_lt ok (wo := 8) hi
    have hw := wof_le ok (clo v 8 i)
    unfold bX10_leaks_38 bX10_leaks_79
    by_cases c : pc i = n
    · simp (disch := omega) only [everything_nI ok hd, ones_nI, c, comesOf_nI ok hd Lo.none hi, weightM_nI ok hd, nI_l, K1, lN_add, bd_some, gd_true, inR_nI, nI_clamp, nI_add, pk_mul, pk_sub, leT, leF, ltT, ltF, eqT, eqF, ite_true, ite_false, reduceIte, nz_nI, oc_s, oc_n, pk_div, pk_rem, m1F, L0, L1, L2, L3, L4, L5, L6, L7, L8, L9, L10, L11, L12, L19, L20, L24, L25, L27, L28, L30, L32, L37, L39, L40, L47, L48, L50, L55, L57, L60, L61, L63, L71, L80, L97, L99, L100, L120, L122, L128, L161, L17, L600, L1000000, L1024, L1408, isB0, isB1, subdm, inT, inFl, inFh]
    · simp (disch := omega) only [everything_nI ok hd, ones_nI, if_neg c, Nat.add_zero, bd_some, gd_true, inR_nI, nI_clamp, nI_add, pk_mul, pk_sub, leT, leF, ltT, ltF, eqT, eqF, ite_true, ite_false, reduceIte, nz_nI, oc_s, oc_n, pk_div, pk_rem, m1F, L0, L1, L2, L3, L4, L5, L6, L7, L8, L9, L10, L11, L12, L19, L20, L24, L25, L27, L28, L30, L32, L37, L39, L40, L47, L48, L50, L55, L57, L60, L61, L63, L71, L80, L97, L99, L100, L120, L122, L128, L161, L17, L600, L1000000, L1024, L1408, isB0, isB1, subdm, inT, inFl, inFh]
  · show bX10_leaks_38 r (nI n) a _ _ (nI (2 ^ hS v)) = _
    unfold bX10_leaks_38
    simp (disch := omega) only [everything_nI ok hd, bd_some, gd_true, inR_nI, nI_clamp, nI_add, pk_mul, pk_sub, leT, leF, ltT, ltF, eqT, eqF, ite_true, ite_false, reduceIte, nz_nI, oc_s, oc_n, pk_div, pk_rem, m1F, L0, L1, L2, L3, L4, L5, L6, L7, L8, L9, L10, L11, L12, L19, L20, L24, L25, L27, L28, L30, L32, L37, L39, L40, L47, L48, L50, L55, L57, L60, L61, L63, L71, L80, L97, L99, L100, L120, L122, L128, L161, L17, L600, L1000000, L1024, L1408, isB0, isB1, subdm, inT, inFl, inFh]
theorem ob_hidden : Ob_hidden Inv := by
  intro g a1 a2 a3 a4 hI h4
  rcases house_cases hI a1 with ⟨h1, h2⟩ | ⟨n, v, hn, rfl, ok, hx, h1, h2, h3⟩
  · have h2 := h2 _ (m0 _)
    refine ⟨-1, _, ?_, ?_, hI.keep (XP.rf hI.1) (m0 _)⟩
    · unfold fX9_hidden; simp (disch := omega) only [h1, bd_some, gd_true, inR_nI, nI_clamp, nI_add, pk_mul, pk_sub, leT, leF, ltT, ltF, eqT, eqF, ite_true, ite_false, reduceIte, nz_nI, oc_s, oc_n, pk_div, pk_rem, m1F, L0, L1, L2, L3, L4, L5, L6, L7, L8, L9, L10, L11, L12, L19, L20, L24, L25, L27, L28, L30, L32, L37, L39, L40, L47, L48, L50, L55, L57, L60, L61, L63, L71, L80, L97, L99, L100, L120, L122, L128, L161, L17, L600, L1000000, L1024, L1408, isB0, isB1, subdm, inT, inFl, inFh]
    · unfold fX10_hidden; simp (disch := omega) only [h2, bd_some, gd_true, inR_nI, nI_clamp, nI_add, pk_mul, pk_sub, leT, leF, ltT, ltF, eqT, eqF, ite_true, ite_false, reduceIte, nz_nI, oc_s, oc_n, pk_div, pk_rem, m1F, L0, L1, L2, L3, L4, L5, L6, L7, L8, L9, L10, L11, L12, L19, L20, L24, L25, L27, L28, L30, L32, L37, L39, L40, L47, L48, L50, L55, L57, L60, L61, L63, L71, L80, L97, L99, L100, L120, L122, L128, L161, L17, L600, L1000000, L1024, L1408, isB0, isB1, subdm, inT, inFl, inFh]
  · obtain ⟨r', e1, hd, m1⟩ := h3 _ (m0 _)
    have hS10 := ok.2.1
    have hpS := pS ok
    rcases secret_cases hx.S hd.S hS10 a2 with ⟨s1, s2⟩ | ⟨s, hs, rfl, s1, s2⟩
    · refine ⟨-1, r', ?_, ?_, hI.keep (XP.rf hI.1) ((m0 _).tr m1)⟩
      · unfold fX9_hidden; simp (disch := omega) only [h1, h2, s1, bd_some, gd_true, inR_nI, nI_clamp, nI_add, pk_mul, pk_sub, leT, leF, ltT, ltF, eqT, eqF, ite_true, ite_false, reduceIte, nz_nI, oc_s, oc_n, pk_div, pk_rem, m1F, L0, L1, L2, L3, L4, L5, L6, L7, L8, L9, L10, L11, L12, L19, L20, L24, L25, L27, L28, L30, L32, L37, L39, L40, L47, L48, L50, L55, L57, L60, L61, L63, L71, L80, L97, L99, L100, L120, L122, L128, L161, L17, L600, L1000000, L1024, L1408, isB0, isB1, subdm, inT, inFl, inFh]
      · unfold fX10_hidden; simp (disch := omega) only [e1, s2, bd_some, gd_true, inR_nI, nI_clamp, nI_add, pk_mul, pk_sub, leT, leF, ltT, ltF, eqT, eqF, ite_true, ite_false, reduceIte, nz_nI, oc_s, oc_n, pk_div, pk_rem, m1F, L0, L1, L2, L3, L4, L5, L6, L7, L8, L9, L10, L11, L12, L19, L20, L24, L25, L27, L28, L30, L32, L37, L39, L40, L47, L48, L50, L55, L57, L60, L61, L63, L71, L80, L97, L99, L100, L120, L122, L128, L161, L17, L600, L1000000, L1024, L1408, isB0, isB1, subdm, inT, inFl, inFh]
    · rcases rng a3 (hS v) with k | ⟨m, k, k2, rfl⟩ | ⟨m, k, k2, rfl⟩
      · refine ⟨-1, r', ?_, ?_, hI.keep (XP.rf hI.1) ((m0 _).tr m1)⟩
        · unfold fX9_hidden; simp (disch := omega) only [h1, h2, s1, neg0 k, bd_some, gd_true, inR_nI, nI_clamp, nI_add, pk_mul, pk_sub, leT, leF, ltT, ltF, eqT, eqF, ite_true, ite_false, reduceIte, nz_nI, oc_s, oc_n, pk_div, pk_rem, m1F, L0, L1, L2, L3, L4, L5, L6, L7, L8, L9, L10, L11, L12, L19, L20, L24, L25, L27, L28, L30, L32, L37, L39, L40, L47, L48, L50, L55, L57, L60, L61, L63, L71, L80, L97, L99, L100, L120, L122, L128, L161, L17, L600, L1000000, L1024, L1408, isB0, isB1, subdm, inT, inFl, inFh]
        · unfold fX10_hidden; simp (disch := omega) only [e1, s2, hd.S, in_neg k, bd_some, gd_true, inR_nI, nI_clamp, nI_add, pk_mul, pk_sub, leT, leF, ltT, ltF, eqT, eqF, ite_true, ite_false, reduceIte, nz_nI, oc_s, oc_n, pk_div, pk_rem, m1F, L0, L1, L2, L3, L4, L5, L6, L7, L8, L9, L10, L11, L12, L19, L20, L24, L25, L27, L28, L30, L32, L37, L39, L40, L47, L48, L50, L55, L57, L60, L61, L63, L71, L80, L97, L99, L100, L120, L122, L128, L161, L17, L600, L1000000, L1024, L1408, isB0, isB1, subdm, inT, inFl, inFh]
      · refine ⟨-1, r', ?_, ?_, hI.keep (XP.rf hI.1) ((m0 _).tr m1)⟩
        · unfold fX9_hidden; simp (disch := omega) only [h1, h2, s1, hx.S, bd_some, gd_true, inR_nI, nI_clamp, nI_add, pk_mul, pk_sub, leT, leF, ltT, ltF, eqT, eqF, ite_true, ite_false, reduceIte, nz_nI, oc_s, oc_n, pk_div, pk_rem, m1F, L0, L1, L2, L3, L4, L5, L6, L7, L8, L9, L10, L11, L12, L19, L20, L24, L25, L27, L28, L30, L32, L37, L39, L40, L47, L48, L50, L55, L57, L60, L61, L63, L71, L80, L97, L99, L100, L120, L122, L128, L161, L17, L600, L1000000, L1024, L1408, isB0, isB1, subdm, inT, inFl, inFh]
        · unfold fX10_hidden; simp (disch := omega) only [e1, s2, hd.S, bd_some, gd_true, inR_nI, nI_clamp, nI_add, pk_mul, pk_sub, leT, leF, ltT, ltF, eqT, eqF, ite_true, ite_false, reduceIte, nz_nI, oc_s, oc_n, pk_div, pk_rem, m1F, L0, L1, L2, L3, L4, L5, L6, L7, L8, L9, L10, L11, L12, L19, L20, L24, L25, L27, L28, L30, L32, L37, L39, L40, L47, L48, L50, L55, L57, L60, L61, L63, L71, L80, L97, L99, L100, L120, L122, L128, L161, L17, L600, L1000000, L1024, L1408, isB0, isB1, subdm, inT, inFl, inFh]
      · have c1 := csN_pos k hS10
        have c2 := csN_le (n := m) (k := 2 ^ hS v)
        have c3 := chN_le (v := v) (s := s) (n := m) (k := 2 ^ hS v)
        obtain ⟨p1, p2⟩ := part_nI (up := chN v s m (2 ^ hS v)) (dn := csN m (2 ^ hS v)) (by omega) c1 (by omega) a4 h4
        refine ⟨lN ((if a4 = 0 then chN v s m (2 ^ hS v) else csN m (2 ^ hS v)) / Nat.gcd (chN v s m (2 ^ hS v)) (csN m (2 ^ hS v))), r', ?_, ?_, hI.keep (XP.rf hI.1) ((m0 _).tr m1)⟩
        · unfold fX9_hidden; simp (disch := omega) only [h1, h2, s1, hx.S, countHiding_nI ok hx, countSets_nI ok hx, nI_l, p1, bd_some, gd_true, inR_nI, nI_clamp, nI_add, pk_mul, pk_sub, leT, leF, ltT, ltF, eqT, eqF, ite_true, ite_false, reduceIte, nz_nI, oc_s, oc_n, pk_div, pk_rem, m1F, L0, L1, L2, L3, L4, L5, L6, L7, L8, L9, L10, L11, L12, L19, L20, L24, L25, L27, L28, L30, L32, L37, L39, L40, L47, L48, L50, L55, L57, L60, L61, L63, L71, L80, L97, L99, L100, L120, L122, L128, L161, L17, L600, L1000000, L1024, L1408, isB0, isB1, subdm, inT, inFl, inFh]
        · unfold fX10_hidden; simp (disch := omega) only [e1, s2, hd.S, K0, hiddenM ok hd, bX10_hidden_100, p2, bd_some, gd_true, inR_nI, nI_clamp, nI_add, pk_mul, pk_sub, leT, leF, ltT, ltF, eqT, eqF, ite_true, ite_false, reduceIte, nz_nI, oc_s, oc_n, pk_div, pk_rem, m1F, L0, L1, L2, L3, L4, L5, L6, L7, L8, L9, L10, L11, L12, L19, L20, L24, L25, L27, L28, L30, L32, L37, L39, L40, L47, L48, L50, L55, L57, L60, L61, L63, L71, L80, L97, L99, L100, L120, L122, L128, L161, L17, L600, L1000000, L1024, L1408, isB0, isB1, subdm, inT, inFl, inFh]
theorem ob_leaks : Ob_leaks Inv := by
  intro g a1 a2 a3 hI h4
  rcases house_cases hI a1 with ⟨h1, h2⟩ | ⟨n, v, hn, rfl, ok, hx, h1, h2, h3⟩
  · have h2 := h2 _ (m0 _)
    refine ⟨-1, _, ?_, ?_, hI.keep (XP.rf hI.1) (m0 _)⟩
    · unfold fX9_leaks; simp (disch := omega) only [h1, bd_some, gd_true, inR_nI, nI_clamp, nI_add, pk_mul, pk_sub, leT, leF, ltT, ltF, eqT, eqF, ite_true, ite_false, reduceIte, nz_nI, oc_s, oc_n, pk_div, pk_rem, m1F, L0, L1, L2, L3, L4, L5, L6, L7, L8, L9, L10, L11, L12, L19, L20, L24, L25, L27, L28, L30, L32, L37, L39, L40, L47, L48, L50, L55, L57, L60, L61, L63, L71, L80, L97, L99, L100, L120, L122, L128, L161, L17, L600, L1000000, L1024, L1408, isB0, isB1, subdm, inT, inFl, inFh]
    · unfold fX10_leaks; simp (disch := omega) only [h2, bd_some, gd_true, inR_nI, nI_clamp, nI_add, pk_mul, pk_sub, leT, leF, ltT, ltF, eqT, eqF, ite_true, ite_false, reduceIte, nz_nI, oc_s, oc_n, pk_div, pk_rem, m1F, L0, L1, L2, L3, L4, L5, L6, L7, L8, L9, L10, L11, L12, L19, L20, L24, L25, L27, L28, L30, L32, L37, L39, L40, L47, L48, L50, L55, L57, L60, L61, L63, L71, L80, L97, L99, L100, L120, L122, L128, L161, L17, L600, L1000000, L1024, L1408, isB0, isB1, subdm, inT, inFl, inFh]
  · obtain ⟨r', e1, hd, m1⟩ := h3 _ (m0 _)
    have hS10 := ok.2.1
    have hpS := pS ok
    rcases rng a2 (hS v) with k | ⟨m, k, k2, rfl⟩ | ⟨m, k, k2, rfl⟩
    · refine ⟨-1, r', ?_, ?_, hI.keep (XP.rf hI.1) ((m0 _).tr m1)⟩
      · unfold fX9_leaks; simp (disch := omega) only [h1, h2, neg0 k, bd_some, gd_true, inR_nI, nI_clamp, nI_add, pk_mul, pk_sub, leT, leF, ltT, ltF, eqT, eqF, ite_true, ite_false, reduceIte, nz_nI, oc_s, oc_n, pk_div, pk_rem, m1F, L0, L1, L2, L3, L4, L5, L6, L7, L8, L9, L10, L11, L12, L19, L20, L24, L25, L27, L28, L30, L32, L37, L39, L40, L47, L48, L50, L55, L57, L60, L61, L63, L71, L80, L97, L99, L100, L120, L122, L128, L161, L17, L600, L1000000, L1024, L1408, isB0, isB1, subdm, inT, inFl, inFh]
      · unfold fX10_leaks; simp (disch := omega) only [e1, hd.S, in_neg k, bd_some, gd_true, inR_nI, nI_clamp, nI_add, pk_mul, pk_sub, leT, leF, ltT, ltF, eqT, eqF, ite_true, ite_false, reduceIte, nz_nI, oc_s, oc_n, pk_div, pk_rem, m1F, L0, L1, L2, L3, L4, L5, L6, L7, L8, L9, L10, L11, L12, L19, L20, L24, L25, L27, L28, L30, L32, L37, L39, L40, L47, L48, L50, L55, L57, L60, L61, L63, L71, L80, L97, L99, L100, L120, L122, L128, L161, L17, L600, L1000000, L1024, L1408, isB0, isB1, subdm, inT, inFl, inFh]
    · refine ⟨-1, r', ?_, ?_, hI.keep (XP.rf hI.1) ((m0 _).tr m1)⟩
      · unfold fX9_leaks; simp (disch := omega) only [h1, h2, hx.S, bd_some, gd_true, inR_nI, nI_clamp, nI_add, pk_mul, pk_sub, leT, leF, ltT, ltF, eqT, eqF, ite_true, ite_false, reduceIte, nz_nI, oc_s, oc_n, pk_div, pk_rem, m1F, L0, L1, L2, L3, L4, L5, L6, L7, L8, L9, L10, L11, L12, L19, L20, L24, L25, L27, L28, L30, L32, L37, L39, L40, L47, L48, L50, L55, L57, L60, L61, L63, L71, L80, L97, L99, L100, L120, L122, L128, L161, L17, L600, L1000000, L1024, L1408, isB0, isB1, subdm, inT, inFl, inFh]
      · unfold fX10_leaks; simp (disch := omega) only [e1, hd.S, bd_some, gd_true, inR_nI, nI_clamp, nI_add, pk_mul, pk_sub, leT, leF, ltT, ltF, eqT, eqF, ite_true, ite_false, reduceIte, nz_nI, oc_s, oc_n, pk_div, pk_rem, m1F, L0, L1, L2, L3, L4, L5, L6, L7, L8, L9, L10, L11, L12, L19, L20, L24, L25, L27, L28, L30, L32, L37, L39, L40, L47, L48, L50, L55, L57, L60, L61, L63, L71, L80, L97, L99, L100, L120, L122, L128, L161, L17, L600, L1000000, L1024, L1408, isB0, isB1, subdm, inT, inFl, inFh]
    · have c1 := csN_pos k hS10
      have c2 := csN_le (n := m) (k := 2 ^ hS v)
      have c3 := lkN_le ok (n := m) (k := 2 ^ hS v)
      obtain ⟨p1, p2⟩ := part_nI (up := lkN v m (2 ^ hS v)) (dn := csN m (2 ^ hS v)) (by omega) c1 (by omega) a3 h4
      refine ⟨lN ((if a3 = 0 then lkN v m (2 ^ hS v) else csN m (2 ^ hS v)) / Nat.gcd (lkN v m (2 ^ hS v)) (csN m (2 ^ hS v))), r', ?_, ?_, hI.keep (XP.rf hI.1) ((m0 _).tr m1)⟩
      · unfold fX9_leaks; simp (disch := omega) only [h1, h2, hx.S, weightLeaking_nI ok hx, countSets_nI ok hx, nI_l, p1, bd_some, gd_true, inR_nI, nI_clamp, nI_add, pk_mul, pk_sub, leT, leF, ltT, ltF, eqT, eqF, ite_true, ite_false, reduceIte, nz_nI, oc_s, oc_n, pk_div, pk_rem, m1F, L0, L1, L2, L3, L4, L5, L6, L7, L8, L9, L10, L11, L12, L19, L20, L24, L25, L27, L28, L30, L32, L37, L39, L40, L47, L48, L50, L55, L57, L60, L61, L63, L71, L80, L97, L99, L100, L120, L122, L128, L161, L17, L600, L1000000, L1024, L1408, isB0, isB1, subdm, inT, inFl, inFh]
      · unfold fX10_leaks; simp (disch := omega) only [e1, hd.S, K0, leaksM ok hd, bX10_leaks_85, p2, bd_some, gd_true, inR_nI, nI_clamp, nI_add, pk_mul, pk_sub, leT, leF, ltT, ltF, eqT, eqF, ite_true, ite_false, reduceIte, nz_nI, oc_s, oc_n, pk_div, pk_rem, m1F, L0, L1, L2, L3, L4, L5, L6, L7, L8, L9, L10, L11, L12, L19, L20, L24, L25, L27, L28, L30, L32, L37, L39, L40, L47, L48, L50, L55, L57, L60, L61, L63, L71, L80, L97, L99, L100, L120, L122, L128, L161, L17, L600, L1000000, L1024, L1408, isB0, isB1, subdm, inT, inFl, inFh]
