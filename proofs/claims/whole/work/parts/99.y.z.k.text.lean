theorem rdX_eq {g : Gs} {n so : Nat} {c' : Rec} {v4 : Int32} (rd : fX4_read (ug g 800 (tT0 g)) (nI n) (nI so) = some (ug (ug g 800 (tT0 g)) 401 c')) : ∃ g3, g3 = ug (ug (ug g 800 (tT0 g)) 401 c') 800 (si (si (tT0 g) 2 (gi c' 12)) 3 (gi c' 13)) ∧ rdX g n so v4 = if gi c' 12 = 0 then (fX9_takeText g3 (nI so) v4).bind fun z4 => some ((z4, v4)) else some ((g3, (-1))) := by
  refine ⟨_, rfl, ?_⟩
  unfold rdX
  rw [rd, bd_some, bd_some, bd_some]
  simp only [ug_same, ug_ug, ug_ne (show (401 : Nat) ≠ 800 by decide), ug_ne (show (800 : Nat) ≠ 401 by decide)]
theorem text_bad {r r' : Rec} {a1 a2 x y : Int32} (h : fX10_readText r a1 = some (ft r' x y, 0)) : bX10_text_75 r a1 a2 = some (ft r' x y, -1) := by
  unfold bX10_text_75
  rw [h, bd_some]
  rfl
theorem ob_text : Ob_text Inv := by
  intro g a1 a2 hI
  obtain ⟨n, hn, e1, e2⟩ := hI.2.1.1
  have e1 : gi (g 800) 1 = nI n := e1
  have e2 : ga (g 1001) 2 0 = nI n := e2
  have hc : ∀ k, k < 4 → ∃ m : Nat, m ≤ 2 ∧ ga (g 800) 4 k = nI m ∧ ga (g 1001) 5 k = nI m := fun k hk => by
    obtain ⟨m, m2, x, y⟩ := hI.2.1.2.2.2.2.1 k hk
    rw [show 4 * 0 + k = k by omega] at y
    exact ⟨m, m2, x, y⟩
  have hb : ∀ i, i < 600 → ga (g 800) 0 i = ga (g 1001) 1 i ∧ isBy (ga (g 800) 0 i) := fun i hi => by
    have := hI.2.1.2.1 i hi
    rw [show 600 * 0 + i = i by omega] at this
    exact this
  rcases text_cases (r := g 1001) e1 hc a1 a2 with ⟨t1, t2⟩ | ⟨so, c, sl, hso, ea, c2, s2, sc, h4, h5, ha, t1, t2⟩
  · refine ⟨ug g 800 (tT0 g), -2, tR0 (g 1001), t1, ?_, ?_, ?_, text_m2 hI⟩
    · rw [ug_ne (by decide)]; exact t2
    · rw [ug_ne (by decide)]
    · rw [ug_ne (by decide)]; exact hI.1
  obtain ⟨c', rd, hcase⟩ := read_both (g := ug g 800 (tT0 g)) (r := tR0 (g 1001)) (n := n) (so := so) hn hso (fun i hi => by rw [ug_same]; exact (hb i hi).2) (fun i hi => by rw [ug_same]; exact (hb i hi).1.symm) e2
  obtain ⟨g3, hg3, eX⟩ := rdX_eq (v4 := nI sl) rd
  have o3 : ∀ o, o ≠ 800 → o ≠ 401 → g3 o = g o := fun o h1 h2 => by rw [hg3, ug_ne h1, ug_ne h2, ug_ne h1]
  rw [t1, eX]
  rcases hcase with ⟨f, p, r', f0, f4, h12, h13, hr, hF⟩ | ⟨u, ps, vs, ks, L, r', hL, hP2, hX, hc5, h12, h13, hff, hm, hr, hF, hS⟩
  · refine ⟨g3, -1, ft r' (nI f) (nI p), ?_, ?_, ?_, ?_, ?_⟩
    · rw [if_neg (show ¬ gi c' 12 = 0 from fun z => by rw [h12] at z; have := (nI_eq (b := 0) (by omega) (by decide)).mp z; omega)]
    · rw [o3 _ (by decide) (by decide), t2]
      exact text_bad hr
    · rw [o3 _ (by decide) (by decide)]
    · rw [o3 _ (by decide) (by decide)]; exact hI.1
    · have k := text_m1 (c' := c') (x := nI f) (y := nI p) hI hF
      rw [hg3, h12, h13]
      exact k
  · have k : Inv (ug g3 1001 (ft r' 0 (-1))) := by
      have k := text_m1 (c' := c') (x := 0) (y := -1) hI hF
      rw [hg3, h12, h13]
      exact k
    have q5 : ga (ft r' 0 (-1)) 5 = ga (g 1001) 5 := by
      unfold ft
      rw [ga_san (by decide), ga_san (by decide), hF 5 (by decide) (by decide)]
      rfl
    have q19 : ga (ft r' 0 (-1)) 19 = ga r' 19 := by
      unfold ft
      rw [ga_san (by decide), ga_san (by decide)]
    have g4 : ga (g3 800) 4 so = nI c := by rw [hg3, ug_same]; exact h4
    have gx : g3 401 = c' := by rw [hg3, ug_ne (by decide), ug_same]
    have t75 := text75 (a2 := a2) (c := c) (sl := sl) hso c2 s2 sc hr (by rw [q5]; exact h5) ha
    suffices key : ∃ g1 r, fX9_takeText g3 (nI so) (nI sl) = some g1 ∧ fX10_storeAll (sa (ft r' 0 (-1)) 5 (upd (ga (ft r' 0 (-1)) 5) so (nI (max c (sl + 1))))) (nI so) (nI sl) = some r ∧ g1 901 = g3 901 ∧ g1 1 = g3 1 ∧ g1 1001 = g3 1001 ∧ Inv (ug g1 1001 r) by
      obtain ⟨g1, r, x1, x2, x3, x4, x5, x6⟩ := key
      refine ⟨g1, nI sl, r, ?_, ?_, ?_, ?_, x6⟩
      · rw [if_pos h12, x1, bd_some]
      · rw [x5, o3 _ (by decide) (by decide), t2, t75, x2, bd_some]
      · rw [x3, o3 _ (by decide) (by decide)]
      · rw [x4, o3 _ (by decide) (by decide)]; exact hI.1
    rw [← gx] at hX hc5
    clear t75 t1 t2 eX rd hr ha ea h4 h5 hc hb e1 e2
    rcases (show so = 0 ∨ so = 1 ∨ so = 2 ∨ so = 3 by omega) with e | e | e | e
    · subst e
      have hS : HSt r' u n ps vs ks L := hS
      have hS2 : HSt (ft r' 0 (-1)) u n ps vs ks L := by
        unfold HSt HC at hS ⊢
        rw [q19]
        exact hS
      exact fine_H k c2 s2 sc g4 hP2 hL hX hc5 hff (hm rfl) hS2
    · subst e
      have hS : RSt r' u n ps vs 4 40 (mrv u n ps vs) L := hS
      exact fine_M k c2 s2 sc g4 hP2 hX hc5 hff (hS.to q19)
    · subst e
      have hS : DSt r' u n ps vs L := hS
      exact fine_D k c2 s2 sc g4 hP2 hX hc5 hff ⟨hS.1.to q19, hS.2⟩
    · subst e
      have hS : RSt r' u n ps vs 2 8 (fun k c => nI (num u n ps vs k c)) L := hS
      exact fine_L k c2 s2 sc g4 hP2 hX hc5 hff (hS.to q19)
