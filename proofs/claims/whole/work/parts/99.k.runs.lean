/-! rows of secrets: how far they serve -/
def RcOK (R : Nat → Nat → Nat) (n : Nat) : Prop := (∀ s i, i ≤ n → i ≤ R s i ∧ R s i ≤ n) ∧ ∀ s i j, i ≤ j → j ≤ n → R s i ≤ R s j
def run (R : Nat → Nat → Nat) : List Nat → Nat → Nat
  | [], i => i
  | s :: l, i => run R l (R s i)
theorem run_b {R : Nat → Nat → Nat} {n : Nat} (h : RcOK R n) : ∀ l i, i ≤ n → i ≤ run R l i ∧ run R l i ≤ n
  | [], i, hi => ⟨Nat.le_refl _, hi⟩
  | s :: l, i, hi => by
    have h1 := h.1 s i hi
    have h2 := run_b h l (R s i) h1.2
    exact ⟨Nat.le_trans h1.1 h2.1, h2.2⟩
theorem run_mono {R : Nat → Nat → Nat} {n : Nat} (h : RcOK R n) : ∀ l i j, i ≤ j → j ≤ n → run R l i ≤ run R l j
  | [], i, j, hij, hj => hij
  | s :: l, i, j, hij, hj => run_mono h l (R s i) (R s j) (h.2 s i j hij hj) (h.1 s j hj).2
theorem run_snoc {R : Nat → Nat → Nat} {s : Nat} : ∀ l i, run R (l ++ [s]) i = R s (run R l i)
  | [], i => rfl
  | t :: l, i => run_snoc l (R t i)
def Avl (T : Nat) (l : List Nat) : Prop := l.Nodup ∧ ∀ s, s ∈ l → T.testBit s = true
theorem Avl_nil (T : Nat) : Avl T [] := ⟨List.nodup_nil, fun s h => by cases h⟩
theorem Avl_cons {T s : Nat} {l : List Nat} : Avl T (s :: l) ↔ T.testBit s = true ∧ Avl (andn T (2 ^ s)) l := by
  constructor
  · rintro ⟨h1, h2⟩
    obtain ⟨n1, n2⟩ := List.nodup_cons.mp h1
    refine ⟨h2 s (List.mem_cons.mpr (Or.inl rfl)), n2, fun x hx => ?_⟩
    rw [dl_bit, h2 x (List.mem_cons.mpr (Or.inr hx)), decide_eq_false (fun q => n1 (by rw [q]; exact hx))]
    rfl
  · rintro ⟨h1, h2, h3⟩
    refine ⟨List.nodup_cons.mpr ⟨fun q => ?_, h2⟩, fun x hx => ?_⟩
    · have h4 := h3 s q
      rw [dl_bit, decide_eq_true (rfl : s = s)] at h4
      simp at h4
    · rcases List.mem_cons.mp hx with e | hx
      · rw [e]; exact h1
      · exact (Sub.rf T).dl x (h3 x hx)
theorem Avl.mono {T U : Nat} {l : List Nat} (h : Avl T l) (hs : Sub T U) : Avl U l := ⟨h.1, fun s hx => hs s (h.2 s hx)⟩
theorem Avl_perm {T : Nat} {l l' : List Nat} (p : l.Perm l') (h : Avl T l) : Avl T l' := ⟨p.nodup_iff.mp h.1, fun s hs => h.2 s (p.mem_iff.mpr hs)⟩
theorem Avl_snoc {T s : Nat} {l : List Nat} : Avl T (l ++ [s]) ↔ T.testBit s = true ∧ Avl (andn T (2 ^ s)) l := by
  have p : (l ++ [s]).Perm (s :: l) := List.perm_append_comm
  exact ⟨fun h => Avl_cons.mp (Avl_perm p h), fun h => Avl_perm p.symm (Avl_cons.mpr h)⟩
theorem Avl_len {T : Nat} {l : List Nat} (hT : T < 2 ^ 10) (h : Avl T l) : l.length ≤ pc T := by
  induction l generalizing T with
  | nil => exact Nat.zero_le _
  | cons s l ih =>
    obtain ⟨h1, h2⟩ := Avl_cons.mp h
    have i := ih (andn_lt hT) h2
    have := pc_sub (Sub.rf T).dl hT (Nat.ne_of_lt (dl_lt h1))
    show l.length + 1 ≤ pc T
    omega
theorem sm_mono2 {f h : Nat → Nat} {n : Nat} (e : ∀ i, i < n → f i ≤ h i) : sm f n ≤ sm h n := by
  induction n with
  | zero => exact Nat.le_refl _
  | succ n ih =>
    have h1 := ih (fun i hi => e i (by omega))
    have h2 := e n (by omega)
    show sm f n + f n ≤ sm h n + h n
    omega
theorem sm_one (s n : Nat) : sm (fun k => if k = s then 1 else 0) n ≤ 1 := by
  have h := sm_del (f := fun k => if k = s then 1 else 0) (h := fun _ => 0) (s0 := s) (fun k hk => if_neg hk) rfl n
  rw [h, sm_zero]
  split
  · exact Nat.le_of_eq (by simp)
  · omega
theorem pc_or_le (t s : Nat) : pc (t ||| 2 ^ s) ≤ pc t + 1 := by
  have h1 : pc (t ||| 2 ^ s) ≤ sm (fun k => (if t.testBit k then 1 else 0) + (if k = s then 1 else 0)) 10 := by
    refine sm_mono2 (fun k _ => ?_)
    rw [Nat.testBit_or, Nat.testBit_two_pow]
    by_cases c : k = s
    · subst c
      simp
    · rw [decide_eq_false (fun q => c q.symm), Bool.or_false, if_neg c]
      exact Nat.le_refl _
  rw [sm_add] at h1
  have h2 := sm_one s 10
  have h3 : pc t = sm (fun k => if t.testBit k then 1 else 0) 10 := rfl
  omega
theorem Avl_set {T : Nat} {l : List Nat} (h : Avl T l) : ∃ B, Sub B T ∧ Avl B l ∧ pc B ≤ l.length := by
  induction l generalizing T with
  | nil => exact ⟨0, fun k hk => (by rw [Nat.zero_testBit] at hk; cases hk), Avl_nil 0, by decide⟩
  | cons s l ih =>
    obtain ⟨h1, h2⟩ := Avl_cons.mp h
    obtain ⟨B, b1, b2, b3⟩ := ih h2
    have hns : B.testBit s = false := by
      cases c : B.testBit s
      · rfl
      · have := b1 s c
        rw [dl_bit, decide_eq_true (rfl : s = s)] at this
        simp at this
    refine ⟨B ||| 2 ^ s, fun k hk => ?_, Avl_cons.mpr ⟨bit_or B s, by rw [or_dl hns]; exact b2⟩, ?_⟩
    · rw [Nat.testBit_or, Nat.testBit_two_pow] at hk
      cases c : B.testBit k
      · rw [c] at hk
        have e : s = k := by simpa using hk
        rw [← e]; exact h1
      · exact (Sub.rf T).dl k (b1 k c)
    · have := pc_or_le B s
      show pc (B ||| 2 ^ s) ≤ l.length + 1
      omega
theorem useful {R : Nat → Nat → Nat} {n i T : Nat} {l : List Nat} (h : RcOK R n) (hi : i < n) (hav : Avl T l) (hr : i < run R l i) : ∃ s l', T.testBit s = true ∧ i < R s i ∧ Avl (andn T (2 ^ s)) l' ∧ run R l i = run R l' (R s i) ∧ l'.length + 1 ≤ l.length := by
  induction l generalizing T with
  | nil => exact absurd hr (Nat.lt_irrefl _)
  | cons s l ih =>
    obtain ⟨h1, h2⟩ := Avl_cons.mp hav
    by_cases c : R s i = i
    · have hr2 : i < run R l i := by
        have : run R (s :: l) i = run R l i := by show run R l (R s i) = _; rw [c]
        rw [this] at hr
        exact hr
      obtain ⟨t, l', q1, q2, q3, q4, q5⟩ := ih (h2.mono (Sub.rf T).dl) hr2
      refine ⟨t, l', q1, q2, q3, ?_, by show l'.length + 1 ≤ l.length + 1; omega⟩
      show run R l (R s i) = _
      rw [c]; exact q4
    · have := (h.1 s i (by omega)).1
      exact ⟨s, l, h1, by omega, h2, rfl, Nat.le_refl _⟩
/-! the fewest, and how far -/
def TV (R : Nat → Nat → Nat) (n i A x : Nat) : Prop := (x = 1000000 ∧ ∀ l, Avl A l → run R l i ≠ n) ∨ ((∃ l, Avl A l ∧ run R l i = n ∧ l.length = x) ∧ ∀ l, Avl A l → run R l i = n → x ≤ l.length)
def FV (R : Nat → Nat → Nat) (i A y : Nat) : Prop := (∃ l, Avl A l ∧ run R l i = y) ∧ ∀ l, Avl A l → run R l i ≤ y
theorem TV.un {R : Nat → Nat → Nat} {n i A x y : Nat} (h : TV R n i A x) (k : TV R n i A y) : x = y := by
  rcases h with ⟨h1, h2⟩ | ⟨⟨l, a1, a2, a3⟩, h2⟩
  · rcases k with ⟨k1, -⟩ | ⟨⟨l, b1, b2, -⟩, -⟩
    · omega
    · exact absurd b2 (h2 l b1)
  · rcases k with ⟨-, k2⟩ | ⟨⟨l', b1, b2, b3⟩, k2⟩
    · exact absurd a2 (k2 l a1)
    · have := h2 l' b1 b2
      have := k2 l a1 a2
      omega
theorem FV.un {R : Nat → Nat → Nat} {i A x y : Nat} (h : FV R i A x) (k : FV R i A y) : x = y := by
  obtain ⟨⟨l, a1, a2⟩, h2⟩ := h
  obtain ⟨⟨l', b1, b2⟩, k2⟩ := k
  have := h2 l' b1
  have := k2 l a1
  omega
def BF (R : Nat → Nat → Nat) (n i A : Nat) (P : Nat → Nat → Prop) (best far : Nat) : Prop := (best ≤ 1000000 ∧ (∀ s t x, P s t → TV R n (t + 1) (andn A (2 ^ s)) x → best ≤ 1 + x) ∧ (best = 1000000 ∨ ∃ s t x, P s t ∧ TV R n (t + 1) (andn A (2 ^ s)) x ∧ best = 1 + x)) ∧ i ≤ far ∧ (∀ s t y, P s t → FV R (t + 1) (andn A (2 ^ s)) y → y ≤ far) ∧ (far = i ∨ ∃ s t y, P s t ∧ FV R (t + 1) (andn A (2 ^ s)) y ∧ far = y)
theorem BF.none {R : Nat → Nat → Nat} {n i A : Nat} {P : Nat → Nat → Prop} (h : ∀ s t, ¬ P s t) : BF R n i A P 1000000 i := ⟨⟨Nat.le_refl _, fun s t x q => absurd q (h s t), Or.inl rfl⟩, Nat.le_refl _, fun s t x q => absurd q (h s t), Or.inl rfl⟩
theorem BF.iff {R : Nat → Nat → Nat} {n i A : Nat} {P Q : Nat → Nat → Prop} {best far : Nat} (h : BF R n i A P best far) (e : ∀ s t, P s t ↔ Q s t) : BF R n i A Q best far := by
  obtain ⟨⟨h1, h2, h3⟩, k1, k2, k3⟩ := h
  refine ⟨⟨h1, fun s t x q => h2 s t x ((e s t).mpr q), ?_⟩, k1, fun s t x q => k2 s t x ((e s t).mpr q), ?_⟩
  · rcases h3 with z | ⟨s, t, x, z1, z2⟩
    · exact Or.inl z
    · exact Or.inr ⟨s, t, x, (e s t).mp z1, z2⟩
  · rcases k3 with z | ⟨s, t, x, z1, z2⟩
    · exact Or.inl z
    · exact Or.inr ⟨s, t, x, (e s t).mp z1, z2⟩
theorem BF.add {R : Nat → Nat → Nat} {n i A : Nat} {P Q : Nat → Nat → Prop} {best far s0 t0 x0 y0 : Nat} (h : BF R n i A P best far) (hx : TV R n (t0 + 1) (andn A (2 ^ s0)) x0) (hy : FV R (t0 + 1) (andn A (2 ^ s0)) y0) (e : ∀ s t, Q s t ↔ (P s t ∨ (s = s0 ∧ t = t0))) : BF R n i A Q (min best (1 + x0)) (max far y0) := by
  obtain ⟨⟨h1, h2, h3⟩, k1, k2, k3⟩ := h
  refine ⟨⟨by omega, fun s t x q z => ?_, ?_⟩, by omega, fun s t y q z => ?_, ?_⟩
  · rcases (e s t).mp q with q | ⟨q1, q2⟩
    · have := h2 s t x q z; omega
    · rw [q1, q2] at z
      have := hx.un z
      omega
  · by_cases c : best ≤ 1 + x0
    · rw [Nat.min_eq_left c]
      rcases h3 with z | ⟨s, t, x, z1, z2⟩
      · exact Or.inl z
      · exact Or.inr ⟨s, t, x, (e s t).mpr (Or.inl z1), z2⟩
    · rw [Nat.min_eq_right (by omega)]
      exact Or.inr ⟨s0, t0, x0, (e s0 t0).mpr (Or.inr ⟨rfl, rfl⟩), hx, rfl⟩
  · rcases (e s t).mp q with q | ⟨q1, q2⟩
    · have := k2 s t y q z; omega
    · rw [q1, q2] at z
      have := hy.un z
      omega
  · by_cases c : y0 ≤ far
    · rw [Nat.max_eq_left c]
      rcases k3 with z | ⟨s, t, x, z1, z2⟩
      · exact Or.inl z
      · exact Or.inr ⟨s, t, x, (e s t).mpr (Or.inl z1), z2⟩
    · rw [Nat.max_eq_right (by omega)]
      exact Or.inr ⟨s0, t0, y0, (e s0 t0).mpr (Or.inr ⟨rfl, rfl⟩), hy, rfl⟩
theorem BF.fin {R : Nat → Nat → Nat} {n i A : Nat} {P : Nat → Nat → Prop} {best far : Nat} (hR : RcOK R n) (hi : i < n) (hA : A < 2 ^ 10) (h : BF R n i A P best far) (hP : ∀ s t, P s t ↔ (A.testBit s = true ∧ i ≤ t ∧ t < R s i)) (hT : ∀ s t, P s t → ∃ x, TV R n (t + 1) (andn A (2 ^ s)) x) (hF : ∀ s t, P s t → ∃ y, FV R (t + 1) (andn A (2 ^ s)) y) : TV R n i A best ∧ FV R i A far := by
  obtain ⟨⟨h1, h2, h3⟩, k1, k2, k3⟩ := h
  have low : ∀ l, Avl A l → run R l i = n → best ≤ l.length := by
    intro l hav hr
    obtain ⟨s, l', q1, q2, q3, q4, q5⟩ := useful hR hi hav (by omega)
    have hp : P s (R s i - 1) := (hP _ _).mpr ⟨q1, by omega, by omega⟩
    obtain ⟨x, hx⟩ := hT _ _ hp
    have hb := h2 _ _ x hp hx
    rw [show R s i - 1 + 1 = R s i by omega] at hx
    rcases hx with ⟨-, z⟩ | ⟨-, z⟩
    · exact absurd (by rw [← q4]; exact hr) (z l' q3)
    · have := z l' q3 (by rw [← q4]; exact hr)
      omega
  have up : ∀ l, Avl A l → run R l i ≤ far := by
    intro l hav
    by_cases c : i < run R l i
    · obtain ⟨s, l', q1, q2, q3, q4, q5⟩ := useful hR hi hav c
      have hp : P s (R s i - 1) := (hP _ _).mpr ⟨q1, by omega, by omega⟩
      obtain ⟨y, hy⟩ := hF _ _ hp
      have hb := k2 _ _ y hp hy
      rw [show R s i - 1 + 1 = R s i by omega] at hy
      have := hy.2 l' q3
      omega
    · omega
  constructor
  · rcases h3 with e | ⟨s, t, x, z1, z2, e⟩
    · refine Or.inl ⟨e, fun l hav hr => ?_⟩
      have h4 := low l hav hr
      have h5 := Avl_len hA hav
      have h6 := pc_le A
      omega
    · obtain ⟨p1, p2, p3⟩ := (hP s t).mp z1
      rcases z2 with ⟨z3, -⟩ | ⟨⟨l', z3, z4, z5⟩, -⟩
      · omega
      · refine Or.inr ⟨⟨s :: l', Avl_cons.mpr ⟨p1, z3⟩, ?_, ?_⟩, low⟩
        · have b1 := hR.1 s i (by omega)
          have b2 := run_mono hR l' (t + 1) (R s i) (by omega) b1.2
          have b3 := run_b hR l' (R s i) b1.2
          show run R l' (R s i) = n
          omega
        · show l'.length + 1 = best
          omega
  · refine ⟨?_, up⟩
    rcases k3 with e | ⟨s, t, y, z1, z2, e⟩
    · exact ⟨[], Avl_nil A, e.symm⟩
    · obtain ⟨p1, p2, p3⟩ := (hP s t).mp z1
      obtain ⟨⟨l', z3, z4⟩, -⟩ := z2
      have hav : Avl A (s :: l') := Avl_cons.mpr ⟨p1, z3⟩
      have b1 := hR.1 s i (by omega)
      have b2 := run_mono hR l' (t + 1) (R s i) (by omega) b1.2
      have b4 := up _ hav
      have b5 : run R (s :: l') i = run R l' (R s i) := rfl
      exact ⟨s :: l', hav, by omega⟩
theorem TV_n (R : Nat → Nat → Nat) (n A : Nat) : TV R n n A 0 := Or.inr ⟨⟨[], Avl_nil A, rfl, rfl⟩, fun _ _ _ => Nat.zero_le _⟩
theorem FV_n {R : Nat → Nat → Nat} {n : Nat} (hR : RcOK R n) (A : Nat) : FV R n A n := ⟨⟨[], Avl_nil A, rfl⟩, fun l _ => (run_b hR l n (Nat.le_refl n)).2⟩
/-! by sets of secrets -/
def MxC (ini : Nat) (c : Nat → Prop) (f : Nat → Nat) (n x : Nat) : Prop := ini ≤ x ∧ (∀ s, s < n → c s → f s ≤ x) ∧ (x = ini ∨ ∃ s, s < n ∧ c s ∧ x = f s)
theorem fo_mx {ini : Nat} {h : Nat → Nat → Nat} {c : Nat → Prop} {f : Nat → Nat} (h1 : ∀ s a, c s → h s a = max a (f s)) (h2 : ∀ s a, ¬ c s → h s a = a) : ∀ n, MxC ini c f n (fo h ini n)
  | 0 => ⟨Nat.le_refl _, fun s hs => absurd hs (Nat.not_lt_zero s), Or.inl rfl⟩
  | n + 1 => by
    obtain ⟨i1, i2, i3⟩ := fo_mx (ini := ini) h1 h2 n
    show MxC ini c f (n + 1) (h n (fo h ini n))
    by_cases q : c n
    · rw [h1 n _ q]
      refine ⟨by omega, fun s hs hc => ?_, ?_⟩
      · by_cases e : s = n
        · subst e; omega
        · have := i2 s (by omega) hc; omega
      · by_cases e : fo h ini n ≤ f n
        · exact Or.inr ⟨n, by omega, q, by omega⟩
        · rw [Nat.max_eq_left (by omega)]
          rcases i3 with z | ⟨s, a, b, z⟩
          · exact Or.inl z
          · exact Or.inr ⟨s, by omega, b, z⟩
    · rw [h2 n _ q]
      refine ⟨i1, fun s hs hc => ?_, ?_⟩
      · by_cases e : s = n
        · subst e; exact absurd hc q
        · exact i2 s (by omega) hc
      · rcases i3 with z | ⟨s, a, b, z⟩
        · exact Or.inl z
        · exact Or.inr ⟨s, by omega, b, z⟩
def fLg (R : Nat → Nat → Nat) (S T : Nat) : Nat := dp 0 0 (fun a q s => max a (R s q)) S T
def fLs (R : Nat → Nat → Nat) (S T s a : Nat) : Nat := if T.testBit s then max a (R s (fLg R S (andn T (2 ^ s)))) else a
theorem fLg_s {R : Nat → Nat → Nat} {S T : Nat} (h : T ≠ 0) : fLg R S T = fo (fLs R S T) 0 S := dp_s h
theorem fLg_FV {R : Nat → Nat → Nat} {n S : Nat} (hR : RcOK R n) : ∀ T, T < 2 ^ S → FV R 0 T (fLg R S T) := by
  intro T
  induction T using Nat.strongRecOn with
  | ind T ih =>
    intro hT
    by_cases h0 : T = 0
    · subst h0
      refine ⟨⟨[], Avl_nil 0, rfl⟩, fun l hl => ?_⟩
      cases l with
      | nil => exact Nat.le_refl _
      | cons s l =>
        have := (Avl_cons.mp hl).1
        rw [Nat.zero_testBit] at this
        cases this
    · have hm : MxC 0 (fun s => T.testBit s = true) (fun s => R s (fLg R S (andn T (2 ^ s)))) S (fLg R S T) := by
        rw [fLg_s h0]
        refine fo_mx (fun s a hc => ?_) (fun s a hc => ?_) _
        · unfold fLs; rw [if_pos hc]
        · unfold fLs; rw [if_neg hc]
      obtain ⟨m1, m2, m3⟩ := hm
      constructor
      · rcases m3 with e | ⟨s, hs, hc, e⟩
        · exact ⟨[], Avl_nil T, e.symm⟩
        · obtain ⟨⟨l, a1, a2⟩, -⟩ := ih _ (dl_lt hc) (andn_lt hT)
          exact ⟨l ++ [s], Avl_snoc.mpr ⟨hc, a1⟩, by rw [run_snoc, a2, e]⟩
      · intro l hl
        rcases List.eq_nil_or_concat l with e | ⟨l', s, e⟩
        · subst e; exact Nat.zero_le _
        · rw [List.concat_eq_append] at e
          subst e
          obtain ⟨q1, q2⟩ := Avl_snoc.mp hl
          have i := (ih _ (dl_lt q1) (andn_lt hT))
          have i2 := i.2 l' q2
          obtain ⟨l2, b1, b2⟩ := i.1
          have b3 := (run_b hR l2 0 (Nat.zero_le _)).2
          rw [b2] at b3
          have := m2 s (bit_lt hT q1) q1
          dsimp only at this
          rw [run_snoc]
          exact Nat.le_trans (hR.2 s _ _ i2 b3) this
def stF (R : Nat → Nat → Nat) (s e : Nat) : Nat → Nat
  | 0 => 0
  | k + 1 => if e ≤ R s k then stF R s e k else k + 1
theorem stF_spec {R : Nat → Nat → Nat} {s e : Nat} : ∀ k, stF R s e k ≤ k ∧ (∀ j, stF R s e k ≤ j → j < k → e ≤ R s j) ∧ (0 < stF R s e k → R s (stF R s e k - 1) < e)
  | 0 => ⟨Nat.le_refl _, fun j _ h => by omega, fun h => absurd h (Nat.lt_irrefl 0)⟩
  | k + 1 => by
    obtain ⟨i1, i2, i3⟩ := stF_spec (R := R) (s := s) (e := e) k
    by_cases c : e ≤ R s k
    · have q : stF R s e (k + 1) = stF R s e k := if_pos c
      rw [q]
      refine ⟨by omega, fun j h1 h2 => ?_, i3⟩
      by_cases d : j = k
      · rw [d]; exact c
      · exact i2 j h1 (by omega)
    · have q : stF R s e (k + 1) = k + 1 := if_neg c
      rw [q]
      exact ⟨Nat.le_refl _, fun j h1 h2 => by omega, fun _ => by rw [Nat.add_sub_cancel]; omega⟩
def stv2 (R : Nat → Nat → Nat) (s e : Nat) : Nat := stF R s e e
theorem stv2_iff {R : Nat → Nat → Nat} {n s e i : Nat} (hR : RcOK R n) (he : e ≤ n) (hi : i ≤ n) : stv2 R s e ≤ i ↔ e ≤ R s i := by
  obtain ⟨i1, i2, i3⟩ := stF_spec (R := R) (s := s) (e := e) e
  unfold stv2
  constructor
  · intro h
    by_cases c : i < e
    · exact i2 i h c
    · have := (hR.1 s i hi).1
      omega
  · intro h
    apply Classical.byContradiction
    intro q
    have h1 := i3 (by omega)
    have h2 := hR.2 s i (stF R s e e - 1) (by omega) (by omega)
    omega
def gEr (R : Nat → Nat → Nat) (n S T : Nat) : Nat := dp n n (fun a q s => min a (stv2 R s q)) S T
def gEs (R : Nat → Nat → Nat) (n S T s a : Nat) : Nat := if T.testBit s then min a (stv2 R s (gEr R n S (andn T (2 ^ s)))) else a
theorem gEr_s {R : Nat → Nat → Nat} {n S T : Nat} (h : T ≠ 0) : gEr R n S T = fo (gEs R n S T) n S := dp_s h
theorem gEs_le (R : Nat → Nat → Nat) (n S T s a : Nat) : gEs R n S T s a ≤ a := by unfold gEs; split <;> omega
theorem gEr_le {R : Nat → Nat → Nat} {n S T : Nat} : gEr R n S T ≤ n := by
  by_cases h : T = 0
  · subst h; exact Nat.le_refl _
  · rw [gEr_s h]; exact fo_le (gEs_le R n S T) _
theorem gEr_iff {R : Nat → Nat → Nat} {n S : Nat} (hR : RcOK R n) : ∀ T, T < 2 ^ S → ∀ i, i ≤ n → (gEr R n S T ≤ i ↔ ∃ l, Avl T l ∧ run R l i = n) := by
  intro T
  induction T using Nat.strongRecOn with
  | ind T ih =>
    intro hT i hi
    by_cases h0 : T = 0
    · subst h0
      constructor
      · intro h
        have h : n ≤ i := h
        exact ⟨[], Avl_nil 0, by show i = n; omega⟩
      · rintro ⟨l, h1, h2⟩
        cases l with
        | nil => exact Nat.le_of_eq h2.symm
        | cons s l =>
          have := (Avl_cons.mp h1).1
          rw [Nat.zero_testBit] at this
          cases this
    · have hm : MnC n (fun s => T.testBit s = true) (fun s => stv2 R s (gEr R n S (andn T (2 ^ s)))) S (gEr R n S T) := by
        rw [gEr_s h0]
        refine fo_mn (fun s a hc => ?_) (fun s a hc => ?_) _
        · unfold gEs; rw [if_pos hc]
        · unfold gEs; rw [if_neg hc]
      obtain ⟨m1, m2, m3⟩ := hm
      constructor
      · intro h
        rcases m3 with e | ⟨s, hs, hc, e⟩
        · exact ⟨[], Avl_nil T, by show i = n; omega⟩
        · dsimp only at e
          rw [e] at h
          have h1 := (stv2_iff hR gEr_le hi).mp h
          have b := hR.1 s i hi
          obtain ⟨l, q1, q2⟩ := (ih _ (dl_lt hc) (andn_lt hT) (R s i) b.2).mp h1
          exact ⟨s :: l, Avl_cons.mpr ⟨hc, q1⟩, q2⟩
      · rintro ⟨l, h1, h2⟩
        cases l with
        | nil =>
          have h2 : i = n := h2
          omega
        | cons s l =>
          obtain ⟨q1, q2⟩ := Avl_cons.mp h1
          have b := hR.1 s i hi
          have h3 := (ih _ (dl_lt q1) (andn_lt hT) (R s i) b.2).mpr ⟨l, q2, h2⟩
          have h4 := (stv2_iff hR gEr_le hi).mpr h3
          have := m2 s (bit_lt hT q1) q1
          dsimp only at this
          omega
/-- the fewest that serve all -/
def fwF (R : Nat → Nat → Nat) (n S b x : Nat) : Nat := if b ≠ 0 ∧ gEr R n S b = 0 then min x (pc b) else x
def fwN (R : Nat → Nat → Nat) (n S k : Nat) : Nat := fo (fwF R n S) (if n = 0 then 0 else 1000000) k
theorem fwN_mn (R : Nat → Nat → Nat) (n S k : Nat) : MnC (if n = 0 then 0 else 1000000) (fun b => b ≠ 0 ∧ gEr R n S b = 0) pc k (fwN R n S k) := by
  refine fo_mn (fun s a hc => ?_) (fun s a hc => ?_) _
  · exact if_pos hc
  · exact if_neg hc
theorem Avl_0 {l : List Nat} (h : Avl 0 l) : l = [] := by
  cases l with
  | nil => rfl
  | cons s l =>
    have := (Avl_cons.mp h).1
    rw [Nat.zero_testBit] at this
    cases this
theorem fwN_TV {R : Nat → Nat → Nat} {n S : Nat} (hR : RcOK R n) (hS : S ≤ 10) : TV R n 0 (2 ^ S - 1) (fwN R n S (2 ^ S)) := by
  have h10 : 2 ^ S ≤ 2 ^ 10 := Nat.pow_le_pow_right (by decide) hS
  have hp := p1 S
  obtain ⟨m1, m2, m3⟩ := fwN_mn R n S (2 ^ S)
  have low : ∀ l, Avl (2 ^ S - 1) l → run R l 0 = n → fwN R n S (2 ^ S) ≤ l.length := by
    intro l hl hr
    obtain ⟨B, b1, b2, b3⟩ := Avl_set hl
    have hB := b1.le
    by_cases c : B = 0
    · subst c
      have := Avl_0 b2
      subst this
      have hr : 0 = n := hr
      rw [if_pos hr.symm] at m1
      exact m1
    · have hg := (gEr_iff (S := S) hR B (by omega) 0 (Nat.zero_le _)).mpr ⟨l, b2, hr⟩
      have := m2 B (by omega) ⟨c, by omega⟩
      omega
  rcases m3 with e | ⟨b, hb, ⟨c1, c2⟩, e⟩
  · by_cases c : n = 0
    · rw [if_pos c] at e
      rw [e]
      exact Or.inr ⟨⟨[], Avl_nil _, c.symm, rfl⟩, fun _ _ _ => Nat.zero_le _⟩
    · rw [if_neg c] at e
      refine Or.inl ⟨e, fun l hl hr => ?_⟩
      have h1 := low l hl hr
      have h2 := Avl_len (by omega) hl
      have h3 := pc_le (2 ^ S - 1)
      omega
  · obtain ⟨l, q1, q2⟩ := (gEr_iff hR b hb 0 (Nat.zero_le _)).mp (by omega)
    have hl : Avl (2 ^ S - 1) l := ⟨q1.1, fun s hs => all_bit (bit_lt hb (q1.2 s hs))⟩
    have h1 := low l hl q2
    have h2 := Avl_len (by omega) q1
    exact Or.inr ⟨⟨l, hl, q2, by omega⟩, low⟩
/-- from where so many of those that are left serve to the end -/
def rsF (R : Nat → Nat → Nat) (n S left many b x : Nat) : Nat := if b ≠ 0 ∧ andn b left = 0 ∧ pc b ≤ many then min x (gEr R n S b) else x
def rsN (R : Nat → Nat → Nat) (n S left many k : Nat) : Nat := fo (rsF R n S left many) n k
theorem rsN_iff {R : Nat → Nat → Nat} {n S left many j : Nat} (hR : RcOK R n) (hS : S ≤ 10) (hl : left < 2 ^ S) (hj : j ≤ n) : rsN R n S left many (2 ^ S) ≤ j ↔ ∃ l, Avl left l ∧ l.length ≤ many ∧ run R l j = n := by
  have h10 : 2 ^ S ≤ 2 ^ 10 := Nat.pow_le_pow_right (by decide) hS
  have hm : MnC n (fun b => b ≠ 0 ∧ andn b left = 0 ∧ pc b ≤ many) (gEr R n S) (2 ^ S) (rsN R n S left many (2 ^ S)) := fo_mn (fun s a hc => if_pos hc) (fun s a hc => if_neg hc) _
  obtain ⟨m1, m2, m3⟩ := hm
  constructor
  · intro h
    rcases m3 with e | ⟨b, hb, ⟨c1, c2, c3⟩, e⟩
    · exact ⟨[], Avl_nil _, Nat.zero_le _, by show j = n; omega⟩
    · obtain ⟨l, q1, q2⟩ := (gEr_iff hR b hb j hj).mp (by omega)
      have := Avl_len (by omega) q1
      exact ⟨l, q1.mono (andn_Sub c2), by omega, q2⟩
  · rintro ⟨l, q1, q2, q3⟩
    obtain ⟨B, b1, b2, b3⟩ := Avl_set q1
    have hB := b1.le
    by_cases c : B = 0
    · subst c
      have := Avl_0 b2
      subst this
      have q3 : j = n := q3
      omega
    · have hg := (gEr_iff (S := S) hR B (by omega) j hj).mpr ⟨l, b2, q3⟩
      have := m2 B (by omega) ⟨c, andn_self b1, by omega⟩
      omega
theorem rsN_le {R : Nat → Nat → Nat} {n S left many k : Nat} : rsN R n S left many k ≤ n := fo_le (fun b x => by unfold rsF; split <;> omega) _
