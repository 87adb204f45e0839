theorem read60 {g : Gs} {c : Rec} {v : Int32} : bX4_read_60 (ug g 401 c) v = if gi c 12 = 0 then if v = 0 then (fX4_checkAllThere c).bind fun z1 => some (ug g 401 z1) else some (ug g 401 c) else some (ug g 401 c) := by
  unfold bX4_read_60
  rw [ug_same]
  simp only [bd_some, ug_ug]
def rdC (g : Gs) (n : Nat) : Rec := si (si (sa (si (g 401) 1 (nI n)) 0 (va_cpy (ga (g 800) 0) (ga (g 401) 0) 0 0 n)) 12 0) 13 (-1)
theorem readX {g : Gs} {n so : Nat} (hn : n ≤ 600) (hby : ∀ i, i < 600 → isBy (ga (g 800) 0 i)) : fX4_read g (nI n) (nI so) = (fX4_readLines (rdC g n) (nI so)).bind fun z14 => if gi z14 12 = 0 then (fX4_checkLines z14).bind fun z16 => bX4_read_60 (ug g 401 z16) (nI so) else bX4_read_60 (ug g 401 z14) (nI so) := by
  have m1 : mxi 0 (mni (nI n) (mni 600 600)) = nI n := by
    rw [show mni 600 600 = nI 600 from rfl]
    unfold mni
    rw [if_neg (show ¬ nI 600 < nI n from fun z => by have := (nI_ltI (by decide) (by omega)).mp z; omega)]
    unfold mxi
    by_cases c : (0 : Int32) < nI n
    · rw [if_pos c]
    · rw [if_neg c]
      by_cases e : n = 0
      · rw [e]; rfl
      · exact absurd ((nI_ltI (a := 0) (by decide) (by omega)).mpr (by omega)) c
  unfold fX4_read
  rw [bd_some, bd_some, bd_some, bd_some, m1]
  simp only [ug_same, gi_sie, ug_ne (show (800 : Nat) ≠ 401 by decide), nI_clamp (show n < 2 ^ 31 by omega), show Int32.toNatClampNeg 0 = 0 from rfl, cpOK_n (show n < 2 ^ 31 by omega) hn hn, fitB_mk (fun i (hi : i < n) => hby i (by omega)), gd_true, bd_some, ug_ug, ga_si]
  rfl
theorem read_both {g : Gs} {r : Rec} {n so : Nat} (hn : n ≤ 600) (hso : so < 4) (hby : ∀ i, i < 600 → isBy (ga (g 800) 0 i)) (hr1 : ∀ j, j < 600 → ga r 1 j = ga (g 800) 0 j) (hr11 : gi r 11 = nI n) : ∃ c', fX4_read g (nI n) (nI so) = some (ug g 401 c') ∧ ((∃ f p r', 0 < f ∧ f ≤ 4 ∧ gi c' 12 = nI f ∧ gi c' 13 = nI p ∧ fX10_readText r (nI so) = some (ft r' (nI f) (nI p), 0) ∧ Fr r r') ∨ (∃ u ps vs ks L r', L ≤ 120 ∧ Ptx u n so ps vs ks L ∧ LnsX c' u n ps vs ks L ∧ gi c' 5 = nI L ∧ gi c' 12 = 0 ∧ gi c' 13 = -1 ∧ ffl u n ps vs L = none ∧ (so = 0 → ¬ ∃ l, l < L ∧ msg u n ps vs L l) ∧ fX10_readText r (nI so) = some (ft r' 0 (-1), 1) ∧ Fr r r' ∧ Sst so r' u n ps vs ks L)) := by
  obtain ⟨u, hu⟩ : ∃ u : Nat → Nat, u = fun j => ub (ga (g 800) 0 j) := ⟨_, rfl⟩
  have hT : Tp (rdC g n) u n := by
    refine ⟨hn, rfl, fun j hj => ?_⟩
    have e : ga (rdC g n) 0 j = ga (g 800) 0 j := by
      show va_cpy (ga (g 800) 0) (ga (g 401) 0) 0 0 n j = _
      exact cpy0 hj
    rw [e, hu]
    exact ⟨hby j (by omega), rfl⟩
  have hM : MTp r u n := ⟨hn, hr11, fun j => by rw [hu]; exact ub_lt _, fun j hj => by rw [hr1 j (by omega), hu]⟩
  have c12 : gi (rdC g n) 12 = 0 := rfl
  have c13 : gi (rdC g n) 13 = -1 := rfl
  have c1 : gi (rdC g n) 1 = nI n := rfl
  obtain ⟨ps, vs, ks, L, q, hP, hL, eq, hcase⟩ := readLines_nI hT hso
  have e0 := readX (so := so) hn hby
  rw [eq, bd_some] at e0
  rcases hcase with ⟨hk, -, q1, q5, qL, q12, q13⟩ | ⟨hk, F, hF, q12, q13⟩
  · rw [c12] at q12
    rw [c13] at q13
    rw [if_pos q12] at e0
    obtain ⟨q', f1, f2, f3, f4, f5⟩ := checkLines_nI hP hso qL hL q5
    rw [f1, bd_some, read60] at e0
    obtain ⟨s1, s2, s3⟩ := rt_lines_end hM hso hP hL hk
    have qL' : LnsX q' u n ps vs ks L := qL.to f4
    cases hff : ffl u n ps vs L with
    | some x =>
      obtain ⟨f, p⟩ := x
      obtain ⟨g12, g13⟩ := f3 f p hff
      obtain ⟨r', t1, t2⟩ := s1 (f, p) hff
      have hb : 0 < f ∧ f ≤ 4 := by
        obtain ⟨z, A, F0, S0, R0, -⟩ := rt_start hM hso
        obtain ⟨r1, -, -, F1, -, -⟩ := lines_run hso hP hL A F0 (S0 ps vs ks)
        rw [hff] at F1
        exact ⟨F1.2.2.1, F1.2.2.2.1⟩
      rw [if_neg (show ¬ gi q' 12 = 0 from fun z => by rw [g12] at z; have := (nI_eq (b := 0) (by omega) (by decide)).mp z; omega)] at e0
      exact ⟨q', e0, Or.inl ⟨f, p, r', hb.1, hb.2, g12, g13, t1, t2⟩⟩
    | none =>
      obtain ⟨g12, g13, gT⟩ := f2 hff
      rw [q12] at g12
      rw [q13] at g13
      rw [if_pos g12] at e0
      have q5' : gi q' 5 = nI L := by rw [f5 5 (by decide) (by decide)]; exact q5
      by_cases h0 : so = 0
      · subst h0
        rw [if_pos (show nI 0 = 0 from rfl)] at e0
        obtain ⟨m1, m2⟩ := there_nI hP qL' hL q5' gT
        cases Classical.em (∃ l, l < L ∧ msg u n ps vs L l) with
        | inl hm =>
          rw [m1 hm, bd_some] at e0
          obtain ⟨r', t1, t2⟩ := s2 hff rfl hm
          refine ⟨_, e0, Or.inl ⟨4, n, r', by decide, by decide, ?_, ?_, t1, t2⟩⟩
          · rw [gi_sin (by decide), gi_sie]
          · rw [gi_sie, f5 1 (by decide) (by decide), q1, c1]
        | inr hm =>
          rw [m2 (fun l hl z => hm ⟨l, hl, z⟩), bd_some] at e0
          obtain ⟨r', t1, t2, t3⟩ := s3 hff (fun _ => hm)
          exact ⟨q', e0, Or.inr ⟨u, ps, vs, ks, L, r', hL, hP, qL', q5', g12, g13, hff, fun _ => hm, t1, t2, t3⟩⟩
      · rw [if_neg (show ¬ nI so = 0 from fun z => h0 ((nI_eq (b := 0) (by omega) (by decide)).mp z))] at e0
        obtain ⟨r', t1, t2, t3⟩ := s3 hff (fun z => absurd z h0)
        exact ⟨q', e0, Or.inr ⟨u, ps, vs, ks, L, r', hL, hP, qL', q5', g12, g13, hff, fun z => absurd z h0, t1, t2, t3⟩⟩
  · obtain ⟨vs', ks', hP', hF'⟩ := LnF.pick hP hF
    obtain ⟨r', t1, t2⟩ := rt_lines_bad hM hso hP' hL hk hF'
    rw [if_neg (show ¬ gi q 12 = 0 by rw [q12]; decide), read60, if_neg (show ¬ gi q 12 = 0 by rw [q12]; decide)] at e0
    exact ⟨q, e0, Or.inl ⟨1, F, r', by decide, by decide, q12, q13, t1, t2⟩⟩
