def msg (u : Nat → Nat) (n : Nat) (ps vs : Nat → Nat) (L l : Nat) : Prop := (vs l = 2 ∧ (cnt vs 0 L ≤ num u n ps vs l 0 ∨ cnt vs 1 L ≤ num u n ps vs l 1)) ∨ (vs l = 3 ∧ (cnt vs 1 L ≤ num u n ps vs l 0 ∨ cnt vs 1 L ≤ num u n ps vs l 1 ∨ cnt vs 1 L ≤ num u n ps vs l 2))
theorem mxi_nI {a b : Nat} (ha : a < 2 ^ 31) (hb : b < 2 ^ 31) : mxi (nI a) (nI b) = nI (max a b) := by
  unfold mxi
  by_cases c : a < b
  · rw [if_pos ((nI_ltI ha hb).mpr c), Nat.max_eq_right (by omega)]
  · rw [if_neg (fun z => c ((nI_ltI ha hb).mp z)), Nat.max_eq_left (by omega)]
theorem there2 {c : Rec} {u : Nat → Nat} {n : Nat} {ps vs ks : Nat → Nat} {L l : Nat} (hP : Ptx u n 0 ps vs ks L) (h : LnsX c u n ps vs ks L) (hL : L ≤ 120) (h5 : gi c 5 = nI L) (hT : Tal c vs L) (hl : l < L) : (msg u n ps vs L l → bX4_checkAllThere_2 c (nI l) = some (.inr (si (si c 12 (nI 4)) 13 (gi c 1)))) ∧ (¬ msg u n ps vs L l → bX4_checkAllThere_2 c (nI l) = some (.inl (nI (l + 1)))) := by
  obtain ⟨v1, v2, v3⟩ := hP.v (by decide) hl
  have h6 := (h l hl).1
  have c0 := cnt_b vs 0 L
  have c1 := cnt_b vs 1 L
  have t0 : ga c 11 0 = nI (cnt vs 0 L) := hT 0 (by decide)
  have t1 : ga c 11 1 = nI (cnt vs 1 L) := hT 1 (by decide)
  have i0 : nI l * 3 = nI (3 * l) := by rw [show (3 : Int32) = nI 3 from rfl, pk_mul, Nat.mul_comm]
  have i1 : nI l * 3 + 1 = nI (3 * l + 1) := by rw [i0, nI_1]
  have i2 : nI l * 3 + 2 = nI (3 * l + 2) := by rw [i0, show (2 : Int32) = nI 2 from rfl, nI_add]
  have n0 : ∀ i, i < nmb (vs l) → i < 3 → ga c 9 (3 * l + i) = nI (num u n ps vs l i) ∧ num u n ps vs l i < 100 := fun i hi h3 => ⟨(h.n9 hl h3 hi).1, (hP.num (by decide) hl hi).1⟩
  have e120 : ∀ s : Int32, bX4_checkAllThere_120 c (nI l) s = if s = 0 then some (.inr (si (si c 12 (nI 4)) 13 (gi c 1))) else some (.inl (nI (l + 1))) := by
    intro s
    unfold bX4_checkAllThere_120 bX4_checkAllThere_124 fX4_blame
    rw [nI_1]
    rfl
  have eF : bX4_checkAllThere_120 c (nI l) 0 = some (.inr (si (si c 12 (nI 4)) 13 (gi c 1))) := by rw [e120]; rfl
  have eT : bX4_checkAllThere_120 c (nI l) 1 = some (.inl (nI (l + 1))) := by rw [e120]; rfl
  have e0 : bX4_checkAllThere_2 c (nI l) = if nI (vs l) = 2 then if nI (cnt vs 0 L) ≤ ga c 9 (3 * l) then bX4_checkAllThere_120 c (nI l) 0 else if nI (cnt vs 1 L) ≤ ga c 9 (3 * l + 1) then bX4_checkAllThere_120 c (nI l) 0 else bX4_checkAllThere_120 c (nI l) 1 else if nI (vs l) = 3 then if nI (cnt vs 1 L) ≤ mxi (ga c 9 (3 * l)) (mxi (ga c 9 (3 * l + 1)) (ga c 9 (3 * l + 2))) then bX4_checkAllThere_120 c (nI l) 0 else bX4_checkAllThere_120 c (nI l) 1 else bX4_checkAllThere_120 c (nI l) 1 := by
    unfold bX4_checkAllThere_2 bX4_checkAllThere_62 bX4_checkAllThere_63 bX4_checkAllThere_119
    rw [h5, if_neg (show ¬ nI L ≤ nI l from fun z => by have := (nI_leI (by omega) (by omega)).mp z; omega), inR_nI (show l < 120 by omega) (by decide), gd_true, gd_true, i1, i2, i0, inR_nI (show 3 * l < 360 by omega) (by decide), gd_true, gd_true, inR_nI (show 3 * l + 1 < 360 by omega) (by decide), gd_true, gd_true, inR_nI (show 3 * l + 2 < 360 by omega) (by decide), gd_true, nI_clamp (show l < 2 ^ 31 by omega), nI_clamp (show 3 * l < 2 ^ 31 by omega), nI_clamp (show 3 * l + 1 < 2 ^ 31 by omega), nI_clamp (show 3 * l + 2 < 2 ^ 31 by omega), h6, show Int32.toNatClampNeg 0 = 0 from rfl, show Int32.toNatClampNeg 1 = 1 from rfl, t0, t1]
    rfl
  rw [e0]
  by_cases b2 : vs l = 2
  · have q0 := n0 0 (by rw [b2]; decide) (by decide)
    have q1 := n0 1 (by rw [b2]; decide) (by decide)
    rw [Nat.add_zero] at q0
    rw [if_pos (show nI (vs l) = 2 by rw [b2]; rfl), q0.1, q1.1]
    by_cases d0 : cnt vs 0 L ≤ num u n ps vs l 0
    · rw [if_pos ((nI_leI (by omega) (by omega)).mpr d0)]
      exact ⟨fun _ => eF, fun z => absurd (Or.inl ⟨b2, Or.inl d0⟩) z⟩
    rw [if_neg (fun z => d0 ((nI_leI (by omega) (by omega)).mp z))]
    by_cases d1 : cnt vs 1 L ≤ num u n ps vs l 1
    · rw [if_pos ((nI_leI (by omega) (by omega)).mpr d1)]
      exact ⟨fun _ => eF, fun z => absurd (Or.inl ⟨b2, Or.inr d1⟩) z⟩
    · rw [if_neg (fun z => d1 ((nI_leI (by omega) (by omega)).mp z))]
      refine ⟨fun z => ?_, fun _ => eT⟩
      unfold msg at z
      omega
  rw [if_neg (show ¬ nI (vs l) = 2 from fun z => b2 ((nI_eq (b := 2) (by omega) (by decide)).mp z))]
  by_cases b3 : vs l = 3
  · have q0 := n0 0 (by rw [b3]; decide) (by decide)
    have q1 := n0 1 (by rw [b3]; decide) (by decide)
    have q2 := n0 2 (by rw [b3]; decide) (by decide)
    rw [Nat.add_zero] at q0
    rw [if_pos (show nI (vs l) = 3 by rw [b3]; rfl), q0.1, q1.1, q2.1, mxi_nI (by omega) (by omega), mxi_nI (by omega) (by omega)]
    by_cases d0 : cnt vs 1 L ≤ max (num u n ps vs l 0) (max (num u n ps vs l 1) (num u n ps vs l 2))
    · rw [if_pos ((nI_leI (by omega) (by omega)).mpr d0)]
      refine ⟨fun _ => eF, fun z => absurd (Or.inr ⟨b3, ?_⟩) z⟩
      omega
    · rw [if_neg (fun z => d0 ((nI_leI (by omega) (by omega)).mp z))]
      refine ⟨fun z => ?_, fun _ => eT⟩
      unfold msg at z
      omega
  · rw [if_neg (show ¬ nI (vs l) = 3 from fun z => b3 ((nI_eq (b := 3) (by omega) (by decide)).mp z))]
    refine ⟨fun z => ?_, fun _ => eT⟩
    unfold msg at z
    omega
theorem there_nI {c : Rec} {u : Nat → Nat} {n : Nat} {ps vs ks : Nat → Nat} {L : Nat} (hP : Ptx u n 0 ps vs ks L) (h : LnsX c u n ps vs ks L) (hL : L ≤ 120) (h5 : gi c 5 = nI L) (hT : Tal c vs L) : ((∃ l, l < L ∧ msg u n ps vs L l) → fX4_checkAllThere c = some (si (si c 12 (nI 4)) 13 (gi c 1))) ∧ ((∀ l, l < L → ¬ msg u n ps vs L l) → fX4_checkAllThere c = some c) := by
  unfold fX4_checkAllThere
  have key : ∀ d l, l + d = L → (∀ x, x < l → ¬ msg u n ps vs L x) → ((∃ l, l < L ∧ msg u n ps vs L l) → iter (fun st : Int32 => bX4_checkAllThere_2 c st) (nI l) = some (si (si c 12 (nI 4)) 13 (gi c 1))) ∧ ((∀ l, l < L → ¬ msg u n ps vs L l) → iter (fun st : Int32 => bX4_checkAllThere_2 c st) (nI l) = some c) := by
    intro d
    induction d with
    | zero =>
      intro l hl hx
      have hl : l = L := by omega
      subst hl
      refine ⟨fun ⟨x, x1, x2⟩ => absurd x2 (hx x x1), fun _ => ?_⟩
      refine iter_end (step := fun st : Int32 => bX4_checkAllThere_2 c st) ?_
      show bX4_checkAllThere_2 c (nI l) = _
      unfold bX4_checkAllThere_2
      rw [h5, if_pos ((nI_leI (by omega) (by omega)).mpr (Nat.le_refl _))]
    | succ d ih =>
      intro l hl hx
      obtain ⟨s1, s2⟩ := there2 hP h hL h5 hT (show l < L by omega)
      cases Classical.em (msg u n ps vs L l) with
      | inl m =>
        refine ⟨fun _ => ?_, fun z => absurd m (z l (by omega))⟩
        exact iter_end (step := fun st : Int32 => bX4_checkAllThere_2 c st) (s1 m)
      | inr m =>
        rw [iter_step (step := fun st : Int32 => bX4_checkAllThere_2 c st) (s := nI l) (s' := nI (l + 1)) (s2 m)]
        refine ih (l + 1) (by omega) (fun x h1 => ?_)
        by_cases e : x = l
        · rw [e]; exact m
        · exact hx x (by omega)
  exact key L 0 (by omega) (fun x hx => by omega)
