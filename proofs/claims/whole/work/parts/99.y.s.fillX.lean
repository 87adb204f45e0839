theorem ffl_all {u : Nat → Nat} {n : Nat} {ps vs : Nat → Nat} {L : Nat} (h : ffl u n ps vs L = none) : ∀ l, l ≤ L → ffl u n ps vs l = none := by
  intro l hl
  cases e : ffl u n ps vs l with
  | none => rfl
  | some x =>
    have := ffl_keep e (L - l)
    rw [show l + (L - l) = L by omega, h] at this
    cases this
theorem hvl_cnt {u : Nat → Nat} {n : Nat} {ps vs ks : Nat → Nat} : ∀ l, (∀ x, x < l → vs x < 4) → hP (hvl u n ps vs ks l) = cnt vs 0 l ∧ hS (hvl u n ps vs ks l) = cnt vs 1 l ∧ hL (hvl u n ps vs ks l) = cnt vs 3 l
  | 0, _ => ⟨rfl, rfl, rfl⟩
  | l + 1, h => by
    have ih := hvl_cnt (u := u) (n := n) (ps := ps) (ks := ks) l (fun x hx => h x (by omega))
    have hv := h l (by omega)
    rw [cnt_s, cnt_s, cnt_s, ← ih.1, ← ih.2.1, ← ih.2.2]
    by_cases c0 : vs l = 0
    · rw [show hvl u n ps vs ks (l + 1) = hadP (hvl u n ps vs ks l) (ks l) (num u n ps vs l 0) from if_pos c0, if_pos c0, if_neg (by omega), if_neg (by omega)]
      exact ⟨rfl, rfl, rfl⟩
    by_cases c1 : vs l = 1
    · rw [show hvl u n ps vs ks (l + 1) = hadS (hvl u n ps vs ks l) (ks l) (num u n ps vs l 0) from by
        show (if vs l = 0 then _ else if vs l = 1 then _ else _) = _
        rw [if_neg c0, if_pos c1], if_neg c0, if_pos c1, if_neg (by omega)]
      exact ⟨rfl, rfl, rfl⟩
    by_cases c2 : vs l = 2
    · rw [show hvl u n ps vs ks (l + 1) = hadK (hvl u n ps vs ks l) (num u n ps vs l 0) (num u n ps vs l 1) from by
        show (if vs l = 0 then _ else if vs l = 1 then _ else if vs l = 2 then _ else _) = _
        rw [if_neg c0, if_neg c1, if_pos c2], if_neg c0, if_neg c1, if_neg (by omega)]
      exact ⟨rfl, rfl, rfl⟩
    · rw [show hvl u n ps vs ks (l + 1) = hadL (hvl u n ps vs ks l) (num u n ps vs l 0) (num u n ps vs l 1) (num u n ps vs l 2) from by
        show (if vs l = 0 then _ else if vs l = 1 then _ else if vs l = 2 then _ else _) = _
        rw [if_neg c0, if_neg c1, if_neg c2], if_neg c0, if_neg c1, if_pos (by omega)]
      exact ⟨rfl, rfl, rfl⟩
theorem fillHouse_nI {g : Gs} {u : Nat → Nat} {n : Nat} {ps vs ks : Nat → Nat} {L h : Nat} (hh : h ≠ 401) (hP2 : Ptx u n 0 ps vs ks L) (hL2 : L ≤ 120) (hX : LnsX (g 401) u n ps vs ks L) (h5 : gi (g 401) 5 = nI L) (hff : ffl u n ps vs L = none) : ∃ z, fX4_fillHouse g (some h) = some (ug g h z) ∧ HX z (hvl u n ps vs ks L) := by
  obtain ⟨z0, e0, hz0⟩ := empty_nI (g h)
  have hv4 : ∀ x, x < L → vs x < 4 := fun x hx => (hP2.v (by decide) hx).2.1
  have es : fX4_fillHouse g (some h) = iter (fun st : Int32 × Gs => bX4_fillHouse_11 st.2 h st.1) (nI 0, ug g h z0) := by
    unfold fX4_fillHouse
    rw [oc_s, e0, bd_some, bd_some]
    rfl
  have step : ∀ l z, l < L → HX z (hvl u n ps vs ks l) → ∃ z', bX4_fillHouse_11 (ug g h z) h (nI l) = some (.inl (nI (l + 1), ug g h z')) ∧ HX z' (hvl u n ps vs ks (l + 1)) := by
    intro l z hl hz
    obtain ⟨y1, y2, y3⟩ := ffl_none (ffl_all hff (l + 1) (by omega))
    obtain ⟨p0, p1, p3⟩ := hvl_cnt (u := u) (n := n) (ps := ps) (vs := vs) (ks := ks) l (fun x hx => hv4 x (by omega))
    have hv := hv4 l hl
    obtain ⟨w6, w7, -, -⟩ := hX l hl
    have i0 : nI l * 3 = nI (3 * l) := by rw [show (3 : Int32) = nI 3 from rfl, pk_mul, Nat.mul_comm]
    have i1 : nI l * 3 + 1 = nI (3 * l + 1) := by rw [i0, nI_1]
    have i2 : nI (3 * l) + 2 = nI (3 * l + 2) := by rw [show (2 : Int32) = nI 2 from rfl, nI_add]
    have n9 : ∀ j, j < 3 → j < nmb (vs l) → ga (g 401) 9 (3 * l + j) = nI (num u n ps vs l j) := fun j hj hj2 => (hX.n9 hl hj hj2).1
    have ec : (ug g h z) 401 = g 401 := ug_ne (fun y => hh y.symm)
    have e11 : bX4_fillHouse_11 (ug g h z) h (nI l) = if nI (vs l) = 0 then (fX2_addPiece z (ga (g 401) 7 l) (ga (g 401) 9 (3 * l))).bind fun z9 => some (.inl (nI (l + 1), ug g h z9)) else if nI (vs l) = 1 then (fX2_addSecret z (ga (g 401) 7 l) (ga (g 401) 9 (3 * l))).bind fun z9 => some (.inl (nI (l + 1), ug g h z9)) else if nI (vs l) = 2 then (fX2_addKnown z (ga (g 401) 9 (3 * l)) (ga (g 401) 9 (3 * l + 1))).bind fun z9 => some (.inl (nI (l + 1), ug g h z9)) else (fX2_addLink z (ga (g 401) 9 (3 * l)) (ga (g 401) 9 (3 * l + 1)) (ga (g 401) 9 (3 * l + 2))).bind fun z9 => some (.inl (nI (l + 1), ug g h z9)) := by
      unfold bX4_fillHouse_11 bX4_fillHouse_141
      rw [ec, h5, if_neg (show ¬ nI L ≤ nI l from fun y => by have := (nI_leI (by omega) (by omega)).mp y; omega)]
      simp only [inR_nI (show l < 120 by omega) (by decide), gd_true, i1, i2, i0, inR_nI (show 3 * l < 360 by omega) (by decide), inR_nI (show 3 * l + 1 < 360 by omega) (by decide), inR_nI (show 3 * l + 2 < 360 by omega) (by decide), nI_clamp (show l < 2 ^ 31 by omega), nI_clamp (show 3 * l < 2 ^ 31 by omega), nI_clamp (show 3 * l + 1 < 2 ^ 31 by omega), nI_clamp (show 3 * l + 2 < 2 ^ 31 by omega), w6, ug_same, bd_some, ug_ug, nI_1]
    rw [e11]
    by_cases c0 : vs l = 0
    · have a0 := n9 0 (by decide) (by rw [c0]; decide)
      rw [Nat.add_zero] at a0
      have ht : cnt vs 0 l < 8 := by
        have := fun z => y2 ((tmy_h c0 (by decide) (show cap 0 = 8 from rfl)).mpr z)
        have : ¬ min 8 (cnt vs 0 l) = 8 := this
        omega
      obtain ⟨z', f1, f2⟩ := adP_nI (k := ks l) (x := num u n ps vs l 0) hz (by omega)
      refine ⟨z', ?_, ?_⟩
      · rw [if_pos (show nI (vs l) = 0 by rw [c0]; rfl), w7, if_pos (by omega), a0, f1, bd_some]
      · rw [show hvl u n ps vs ks (l + 1) = hadP (hvl u n ps vs ks l) (ks l) (num u n ps vs l 0) from if_pos c0]
        exact f2
    rw [if_neg (show ¬ nI (vs l) = 0 from fun y => c0 ((nI_eq (b := 0) (by omega) (by decide)).mp y))]
    by_cases c1 : vs l = 1
    · have a0 := n9 0 (by decide) (by rw [c1]; decide)
      rw [Nat.add_zero] at a0
      have ht : cnt vs 1 l < 10 := by
        have := fun z => y2 ((tmy_h c1 (by decide) (show cap 1 = 10 from rfl)).mpr z)
        have : ¬ min 10 (cnt vs 1 l) = 10 := this
        omega
      obtain ⟨z', f1, f2⟩ := adS_nI (k := ks l) (x := num u n ps vs l 0) hz (by omega)
      refine ⟨z', ?_, ?_⟩
      · rw [if_pos (show nI (vs l) = 1 by rw [c1]; rfl), w7, if_pos (by omega), a0, f1, bd_some]
      · rw [show hvl u n ps vs ks (l + 1) = hadS (hvl u n ps vs ks l) (ks l) (num u n ps vs l 0) from by
          show (if vs l = 0 then _ else if vs l = 1 then _ else _) = _
          rw [if_neg c0, if_pos c1]]
        exact f2
    rw [if_neg (show ¬ nI (vs l) = 1 from fun y => c1 ((nI_eq (b := 1) (by omega) (by decide)).mp y))]
    by_cases c2 : vs l = 2
    · have a0 := n9 0 (by decide) (by rw [c2]; decide)
      have a1 := n9 1 (by decide) (by rw [c2]; decide)
      rw [Nat.add_zero] at a0
      have o0 := (ok_2 (m := num u n ps vs) c2).1.mp (y3 0 (by rw [c2]; decide))
      have o1 := (ok_2 (m := num u n ps vs) c2).2.mp (y3 1 (by rw [c2]; decide))
      obtain ⟨z', f1, f2⟩ := adK_nI (p := num u n ps vs l 0) (s := num u n ps vs l 1) hz (by omega) (by omega)
      refine ⟨z', ?_, ?_⟩
      · rw [if_pos (show nI (vs l) = 2 by rw [c2]; rfl), a0, a1, f1, bd_some]
      · rw [show hvl u n ps vs ks (l + 1) = hadK (hvl u n ps vs ks l) (num u n ps vs l 0) (num u n ps vs l 1) from by
          show (if vs l = 0 then _ else if vs l = 1 then _ else if vs l = 2 then _ else _) = _
          rw [if_neg c0, if_neg c1, if_pos c2]]
        exact f2
    rw [if_neg (show ¬ nI (vs l) = 2 from fun y => c2 ((nI_eq (b := 2) (by omega) (by decide)).mp y))]
    have c3 : vs l = 3 := by omega
    have a0 := n9 0 (by decide) (by rw [c3]; decide)
    have a1 := n9 1 (by decide) (by rw [c3]; decide)
    have a2 := n9 2 (by decide) (by rw [c3]; decide)
    rw [Nat.add_zero] at a0
    have ht : cnt vs 3 l < 8 := by
      have := fun z => y2 ((tmy_h c3 (by decide) (show cap 3 = 8 from rfl)).mpr z)
      have : ¬ min 8 (cnt vs 3 l) = 8 := this
      omega
    obtain ⟨z', f1, f2⟩ := adL_nI (a := num u n ps vs l 0) (b := num u n ps vs l 1) (c := num u n ps vs l 2) hz (by omega)
    refine ⟨z', by rw [a0, a1, a2, f1, bd_some], ?_⟩
    rw [show hvl u n ps vs ks (l + 1) = hadL (hvl u n ps vs ks l) (num u n ps vs l 0) (num u n ps vs l 1) (num u n ps vs l 2) from by
      show (if vs l = 0 then _ else if vs l = 1 then _ else if vs l = 2 then _ else _) = _
      rw [if_neg c0, if_neg c1, if_neg c2]]
    exact f2
  have key : ∀ d l z, l + d = L → HX z (hvl u n ps vs ks l) → ∃ z', iter (fun st : Int32 × Gs => bX4_fillHouse_11 st.2 h st.1) (nI l, ug g h z) = some (ug g h z') ∧ HX z' (hvl u n ps vs ks L) := by
    intro d
    induction d with
    | zero =>
      intro l z hl hz
      have hl : l = L := by omega
      subst hl
      refine ⟨z, ?_, hz⟩
      refine iter_end (step := fun st : Int32 × Gs => bX4_fillHouse_11 st.2 h st.1) (s := (nI l, ug g h z)) ?_
      show bX4_fillHouse_11 (ug g h z) h (nI l) = _
      unfold bX4_fillHouse_11
      rw [show (ug g h z) 401 = g 401 from ug_ne (fun y => hh y.symm), h5, if_pos ((nI_leI (by omega) (by omega)).mpr (Nat.le_refl _))]
    | succ d ih =>
      intro l z hl hz
      obtain ⟨z', f1, f2⟩ := step l z (by omega) hz
      rw [iter_step (step := fun st : Int32 × Gs => bX4_fillHouse_11 st.2 h st.1) (s := (nI l, ug g h z)) (s' := (nI (l + 1), ug g h z')) f1]
      exact ih (l + 1) z' (by omega) f2
  rw [es]
  exact key L 0 z0 (by omega) hz0
