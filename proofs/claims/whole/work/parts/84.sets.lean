def pc (t : Nat) : Nat := sm (fun k => if t.testBit k then 1 else 0) 10
theorem bitCount_nI : ∀ t, t < 1024 → fJ6_bitCount_0f7a4 (nI t) = some (nI (pc t)) := by decide +kernel
theorem pc_le (t : Nat) : pc t ≤ 10 := by
  have := sm_le (f := fun k => if t.testBit k then 1 else 0) (c := 1) (n := 10) (fun i _ => by split <;> omega)
  exact this
theorem ones_nI {t : Nat} (ht : t < 2 ^ 31) : fX10_ones (nI t) = some (nI (pc t)) := by
  unfold fX10_ones
  refine loopO (step := fun st : Int32 × Int32 => bX10_ones_4 (nI t) st.1 st.2) (fun i => (nI (sm (fun k => if t.testBit k then 1 else 0) i), nI i)) 10 (fun i hi => ?_) ?_
  · show bX10_ones_4 (nI t) (nI (sm (fun k => if t.testBit k then 1 else 0) i)) (nI i) = some (.inl (nI (sm (fun k => if t.testBit k then 1 else 0) i + if t.testBit i then 1 else 0), nI (i + 1)))
    unfold bX10_ones_4 bX10_ones_24
    generalize sm (fun k => if t.testBit k then 1 else 0) i = a
    cases c : t.testBit i
    · simp (disch := omega) only [has_nI, c, Bool.false_eq_true, bd_some, gd_true, inR_nI, nI_clamp, nI_add, pk_mul, pk_sub, leT, leF, ltT, ltF, eqT, eqF, ite_true, ite_false, reduceIte, nz_nI, oc_s, oc_n, pk_div, pk_rem, m1F, L0, L1, L2, L3, L4, L5, L6, L7, L8, L9, L10, L11, L12, L19, L20, L24, L25, L27, L28, L30, L32, L37, L39, L40, L47, L48, L50, L55, L57, L60, L61, L63, L71, L80, L97, L99, L100, L120, L122, L128, L161, L17, L600, L1000000, L1024, L1408, isB0, isB1, subdm, inT, inFl, inFh]
    · simp (disch := omega) only [has_nI, c, bd_some, gd_true, inR_nI, nI_clamp, nI_add, pk_mul, pk_sub, leT, leF, ltT, ltF, eqT, eqF, ite_true, ite_false, reduceIte, nz_nI, oc_s, oc_n, pk_div, pk_rem, m1F, L0, L1, L2, L3, L4, L5, L6, L7, L8, L9, L10, L11, L12, L19, L20, L24, L25, L27, L28, L30, L32, L37, L39, L40, L47, L48, L50, L55, L57, L60, L61, L63, L71, L80, L97, L99, L100, L120, L122, L128, L161, L17, L600, L1000000, L1024, L1408, isB0, isB1, subdm, inT, inFl, inFh]
  · show bX10_ones_4 (nI t) _ (nI 10) = _
    unfold bX10_ones_4
    simp (disch := omega) only [bd_some, gd_true, inR_nI, nI_clamp, nI_add, pk_mul, pk_sub, leT, leF, ltT, ltF, eqT, eqF, ite_true, ite_false, reduceIte, nz_nI, oc_s, oc_n, pk_div, pk_rem, m1F, L0, L1, L2, L3, L4, L5, L6, L7, L8, L9, L10, L11, L12, L19, L20, L24, L25, L27, L28, L30, L32, L37, L39, L40, L47, L48, L50, L55, L57, L60, L61, L63, L71, L80, L97, L99, L100, L120, L122, L128, L161, L17, L600, L1000000, L1024, L1408, isB0, isB1, subdm, inT, inFl, inFh]
    all_goals rfl
/-! sets -/
def Sub (t u : Nat) : Prop := ∀ k, t.testBit k = true → u.testBit k = true
theorem Sub.rf (t : Nat) : Sub t t := fun _ h => h
theorem Sub.tr {a b c : Nat} (h : Sub a b) (k : Sub b c) : Sub a c := fun i q => k i (h i q)
theorem Sub.eq {a b : Nat} (h : Sub a b) (k : Sub b a) : a = b := by
  apply Nat.eq_of_testBit_eq
  intro i
  cases h1 : a.testBit i
  · cases h2 : b.testBit i
    · rfl
    · rw [k i h2] at h1; cases h1
  · rw [h i h1]
theorem Sub.or (t u : Nat) : Sub t (t ||| u) := fun k h => by rw [Nat.testBit_or, h]; rfl
theorem pc_sub {a b : Nat} (h : Sub a b) (hb : b < 2 ^ 10) (hne : a ≠ b) : pc a < pc b := by
  have hle : ∀ n, sm (fun k => if a.testBit k then 1 else 0) n ≤ sm (fun k => if b.testBit k then 1 else 0) n := by
    intro n
    induction n with
    | zero => exact Nat.le_refl _
    | succ n ih =>
      show sm _ n + (if a.testBit n then 1 else 0) ≤ sm _ n + (if b.testBit n then 1 else 0)
      cases c : a.testBit n
      · rw [if_neg (by decide)]; omega
      · rw [h n c]; omega
  have hlt : ∀ n i, i < n → a.testBit i = false → b.testBit i = true → sm (fun k => if a.testBit k then 1 else 0) n < sm (fun k => if b.testBit k then 1 else 0) n := by
    intro n
    induction n with
    | zero => intro i hi; omega
    | succ n ih =>
      intro i hi h1 h2
      show sm _ n + (if a.testBit n then 1 else 0) < sm _ n + (if b.testBit n then 1 else 0)
      by_cases e : i = n
      · subst e
        have := hle i
        rw [h1, h2]
        simp only [Bool.false_eq_true, if_false, if_true]
        omega
      · have := ih i (by omega) h1 h2
        cases c : a.testBit n
        · rw [if_neg (by decide)]; omega
        · rw [h n c]; omega
  obtain ⟨i, hi⟩ : ∃ i, a.testBit i ≠ b.testBit i := by
    apply Classical.byContradiction
    intro q
    apply hne
    apply Nat.eq_of_testBit_eq
    intro i
    apply Classical.byContradiction
    intro k
    exact q ⟨i, k⟩
  have hi2 : b.testBit i = true ∧ a.testBit i = false := by
    cases h1 : a.testBit i
    · cases h2 : b.testBit i
      · rw [h1, h2] at hi; exact absurd rfl hi
      · exact ⟨rfl, rfl⟩
    · rw [h1, h i h1] at hi; exact absurd rfl hi
  have hi10 : i < 10 := by
    apply Classical.byContradiction
    intro q
    have : b.testBit i = false := Nat.testBit_lt_two_pow (Nat.lt_of_lt_of_le hb (Nat.pow_le_pow_right (by decide) (by omega)))
    rw [this] at hi2
    exact absurd hi2.1 (by decide)
  exact hlt 10 i hi10 hi2.2 hi2.1
/-- rounds until nothing changes -/
def itF (f : Nat → Nat) : Nat → Nat → Nat
  | 0, t => t
  | n + 1, t => if f t = t then t else itF f n (f t)
theorem itF_lt {f : Nat → Nat} {b : Nat} (hf : ∀ t, t < b → f t < b) : ∀ n t, t < b → itF f n t < b
  | 0, t, h => h
  | n + 1, t, h => by
    unfold itF
    split
    · exact h
    · exact itF_lt hf n _ (hf t h)
theorem itF_fix {f : Nat → Nat} {S : Nat} (hS : S ≤ 10) (hf : ∀ t, t < 2 ^ S → f t < 2 ^ S) (hi : ∀ t, Sub t (f t)) : ∀ n t, t < 2 ^ S → 10 ≤ pc t + n → f (itF f n t) = itF f n t := by
  have h10 : 2 ^ S ≤ 2 ^ 10 := Nat.pow_le_pow_right (by decide) hS
  intro n
  induction n with
  | zero =>
    intro t ht hp
    show f t = t
    apply Classical.byContradiction
    intro e
    have := pc_sub (hi t) (Nat.lt_of_lt_of_le (hf t ht) h10) (fun h => e h.symm)
    have := pc_le (f t)
    omega
  | succ n ih =>
    intro t ht hp
    unfold itF
    by_cases e : f t = t
    · rw [if_pos e, e]
    · rw [if_neg e]
      have := pc_sub (hi t) (Nat.lt_of_lt_of_le (hf t ht) h10) (fun h => e h.symm)
      exact ih (f t) (hf t ht) (by omega)
theorem itF_sub {f : Nat → Nat} (hi : ∀ t, Sub t (f t)) : ∀ n t, Sub t (itF f n t)
  | 0, t => Sub.rf t
  | n + 1, t => by
    unfold itF
    split
    · exact Sub.rf t
    · exact (hi t).tr (itF_sub hi n (f t))
theorem itF_least {f : Nat → Nat} {u : Nat} (hu : ∀ t, Sub t u → Sub (f t) u) : ∀ n t, Sub t u → Sub (itF f n t) u
  | 0, t, h => h
  | n + 1, t, h => by
    unfold itF
    split
    · exact h
    · exact itF_least hu n (f t) (hu t h)
/-! what comes of secrets -/
def mkB (v : Hv) (wo l t : Nat) : Prop := l ≠ wo ∧ t.testBit (hA1 v l) = true ∧ t.testBit (hA2 v l) = true
noncomputable def ln (v : Hv) (wo l t u : Nat) : Nat := @ite Nat (mkB v wo l t) (Classical.propDecidable _) (u ||| 2 ^ hA3 v l) u
theorem ln_pos {v : Hv} {wo l t u : Nat} (h : mkB v wo l t) : ln v wo l t u = u ||| 2 ^ hA3 v l := if_pos h
theorem ln_neg {v : Hv} {wo l t u : Nat} (h : ¬ mkB v wo l t) : ln v wo l t u = u := if_neg h
noncomputable def rndN (v : Hv) (wo t n : Nat) : Nat := fo (fun l u => ln v wo l t u) t n
noncomputable def sqN (v : Hv) (wo t n : Nat) : Nat := fo (fun l u => ln v wo l u u) t n
noncomputable def rnd (v : Hv) (wo t : Nat) : Nat := rndN v wo t (hL v)
noncomputable def sq (v : Hv) (wo t : Nat) : Nat := sqN v wo t (hL v)
noncomputable def clo (v : Hv) (wo t : Nat) : Nat := itF (rnd v wo) 11 t
noncomputable def clS (v : Hv) (wo t : Nat) : Nat := itF (sq v wo) 11 t
def Clsd (v : Hv) (wo u : Nat) : Prop := ∀ l, l < hL v → mkB v wo l u → u.testBit (hA3 v l) = true
theorem mkB.mono {v : Hv} {wo l t u : Nat} (h : mkB v wo l t) (hs : Sub t u) : mkB v wo l u := ⟨h.1, hs _ h.2.1, hs _ h.2.2⟩
theorem Sub.ln (v : Hv) (wo l t u : Nat) : Sub u (ln v wo l t u) := by
  by_cases h : mkB v wo l t
  · rw [ln_pos h]; exact Sub.or _ _
  · rw [ln_neg h]; exact Sub.rf _
theorem ln_lt {v : Hv} (ok : HvOK v) {wo l t u : Nat} (hl : l < hL v) (hu : u < 2 ^ hS v) : ln v wo l t u < 2 ^ hS v := by
  by_cases h : mkB v wo l t
  · rw [ln_pos h]
    exact Nat.or_lt_two_pow hu (Nat.pow_lt_pow_right (by decide) (ok.2.2.2.2.2.2.2 l hl).2.2)
  · rw [ln_neg h]; exact hu
theorem ln_sub {v : Hv} {wo l t u w : Nat} (hw : Clsd v wo w) (hl : l < hL v) (ht : Sub t w) (hu : Sub u w) : Sub (ln v wo l t u) w := by
  by_cases h : mkB v wo l t
  · rw [ln_pos h]
    intro k hk
    rw [Nat.testBit_or, Nat.testBit_two_pow] at hk
    cases c : u.testBit k
    · rw [c] at hk
      have : hA3 v l = k := by simpa using hk
      rw [← this]
      exact hw l hl (h.mono ht)
    · exact hu k c
  · rw [ln_neg h]; exact hu
theorem rndN_lt {v : Hv} (ok : HvOK v) {wo t : Nat} (ht : t < 2 ^ hS v) : ∀ n, n ≤ hL v → rndN v wo t n < 2 ^ hS v
  | 0, _ => ht
  | n + 1, h => ln_lt ok (by omega) (rndN_lt ok ht n (by omega))
theorem sqN_lt {v : Hv} (ok : HvOK v) {wo t : Nat} (ht : t < 2 ^ hS v) : ∀ n, n ≤ hL v → sqN v wo t n < 2 ^ hS v
  | 0, _ => ht
  | n + 1, h => ln_lt ok (by omega) (sqN_lt ok ht n (by omega))
theorem rndN_sub (v : Hv) (wo t : Nat) : ∀ n, Sub t (rndN v wo t n)
  | 0 => Sub.rf t
  | n + 1 => (rndN_sub v wo t n).tr (Sub.ln v wo n t _)
theorem sqN_sub (v : Hv) (wo t : Nat) : ∀ n, Sub t (sqN v wo t n)
  | 0 => Sub.rf t
  | n + 1 => (sqN_sub v wo t n).tr (Sub.ln v wo n _ _)
theorem rndN_mono (v : Hv) (wo t : Nat) (n : Nat) : ∀ d, Sub (rndN v wo t n) (rndN v wo t (n + d))
  | 0 => Sub.rf _
  | d + 1 => (rndN_mono v wo t n d).tr (Sub.ln v wo (n + d) t _)
theorem sqN_mono (v : Hv) (wo t : Nat) (n : Nat) : ∀ d, Sub (sqN v wo t n) (sqN v wo t (n + d))
  | 0 => Sub.rf _
  | d + 1 => (sqN_mono v wo t n d).tr (Sub.ln v wo (n + d) _ _)
theorem rndN_least {v : Hv} {wo t w : Nat} (hw : Clsd v wo w) (ht : Sub t w) : ∀ n, n ≤ hL v → Sub (rndN v wo t n) w
  | 0, _ => ht
  | n + 1, h => ln_sub hw (by omega) ht (rndN_least hw ht n (by omega))
theorem sqN_least {v : Hv} {wo t w : Nat} (hw : Clsd v wo w) (ht : Sub t w) : ∀ n, n ≤ hL v → Sub (sqN v wo t n) w
  | 0, _ => ht
  | n + 1, h => ln_sub hw (by omega) (sqN_least hw ht n (by omega)) (sqN_least hw ht n (by omega))
theorem bit_or (u k : Nat) : (u ||| 2 ^ k).testBit k = true := by rw [Nat.testBit_or, Nat.testBit_two_pow_self]; simp
theorem rnd_clsd {v : Hv} {wo t : Nat} (h : rnd v wo t = t) : Clsd v wo t := by
  intro l hl hm
  have h1 : Sub (rndN v wo t (l + 1)) t := by
    have := rndN_mono v wo t (l + 1) (hL v - (l + 1))
    rw [show l + 1 + (hL v - (l + 1)) = hL v by omega] at this
    exact fun k hk => by have := this k hk; rw [show rndN v wo t (hL v) = t from h] at this; exact this
  apply h1
  show (ln v wo l t (rndN v wo t l)).testBit _ = true
  rw [ln_pos hm]
  exact bit_or _ _
theorem sq_clsd {v : Hv} {wo t : Nat} (h : sq v wo t = t) : Clsd v wo t := by
  intro l hl hm
  have h1 : ∀ n, n ≤ hL v → sqN v wo t n = t := by
    intro n hn
    refine Sub.eq ?_ (sqN_sub v wo t n)
    have := sqN_mono v wo t n (hL v - n)
    rw [show n + (hL v - n) = hL v by omega, show sqN v wo t (hL v) = t from h] at this
    exact this
  have h2 : sqN v wo t (l + 1) = ln v wo l (sqN v wo t l) (sqN v wo t l) := rfl
  rw [h1 (l + 1) (by omega), h1 l (by omega), ln_pos hm] at h2
  rw [h2]
  exact bit_or _ _
theorem clS_clo {v : Hv} (ok : HvOK v) {wo t : Nat} (ht : t < 2 ^ hS v) : clS v wo t = clo v wo t := by
  have f1 : rnd v wo (clo v wo t) = clo v wo t := itF_fix ok.2.1 (fun t h => rndN_lt ok h _ (Nat.le_refl _)) (fun t => rndN_sub v wo t _) 11 t ht (by omega)
  have f2 : sq v wo (clS v wo t) = clS v wo t := itF_fix ok.2.1 (fun t h => sqN_lt ok h _ (Nat.le_refl _)) (fun t => sqN_sub v wo t _) 11 t ht (by omega)
  refine Sub.eq ?_ ?_
  · exact itF_least (fun t h => sqN_least (rnd_clsd f1) h _ (Nat.le_refl _)) 11 t (itF_sub (fun t => rndN_sub v wo t _) 11 t)
  · exact itF_least (fun t h => rndN_least (sq_clsd f2) h _ (Nat.le_refl _)) 11 t (itF_sub (fun t => sqN_sub v wo t _) 11 t)
theorem clo_lt {v : Hv} (ok : HvOK v) {wo t : Nat} (ht : t < 2 ^ hS v) : clo v wo t < 2 ^ hS v := itF_lt (fun t h => rndN_lt ok h _ (Nat.le_refl _)) 11 t ht
theorem pS {v : Hv} (ok : HvOK v) : 2 ^ hS v ≤ 1024 := Nat.pow_le_pow_right (n := 2) (by decide) ok.2.1
theorem pP {v : Hv} (ok : HvOK v) : 2 ^ hP v ≤ 256 := Nat.pow_le_pow_right (n := 2) (by decide) ok.1
theorem p1 (n : Nat) : 1 ≤ 2 ^ n := Nat.one_le_two_pow
