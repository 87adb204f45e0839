theorem ug_thr (G : Gs) (q A z R : Rec) (o : Nat) : ug (ug (ug (ug G 1001 q) 800 A) o z) 1001 R = ug (ug (ug G 800 A) o z) 1001 R := by
  funext j
  simp only [ug_if]
  by_cases h : j = 1001
  · rw [if_pos h, if_pos h]
  · simp only [if_neg h]
theorem fine_H {g3 : Gs} {q : Rec} {u : Nat → Nat} {n : Nat} {ps vs ks : Nat → Nat} {L c sl : Nat} (hI : Inv (ug g3 1001 q)) (c2 : c ≤ 2) (s2 : sl < 2) (sc : sl ≤ c) (h4 : ga (g3 800) 4 0 = nI c) (hP2 : Ptx u n 0 ps vs ks L) (hL : L ≤ 120) (hX : LnsX (g3 401) u n ps vs ks L) (h5 : gi (g3 401) 5 = nI L) (hff : ffl u n ps vs L = none) (hm : ¬ ∃ l, l < L ∧ msg u n ps vs L l) (hS : HSt q u n ps vs ks L) : ∃ g1 r, fX9_takeText g3 (nI 0) (nI sl) = some g1 ∧ fX10_storeAll (sa q 5 (upd (ga q 5) 0 (nI (max c (sl + 1))))) (nI 0) (nI sl) = some r ∧ g1 901 = g3 901 ∧ g1 1 = g3 1 ∧ g1 1001 = g3 1001 ∧ Inv (ug g1 1001 r) := by
  obtain ⟨b0, b1, b3, -, -, -, hM, -⟩ := hS.2 hff
  obtain ⟨g14, e14, hg⟩ := takeText_eq (g3 := g3) (so := 0) (by decide) c2 s2 sc h4
  have hne : ∀ o, o ≠ 800 → g14 o = g3 o := fun o ho => by rw [hg, ug_ne ho]
  have h800 : g14 800 = sa (g3 800) 4 (upd (ga (g3 800) 4) 0 (nI (max c (sl + 1)))) := by rw [hg, ug_same]
  obtain ⟨z, f1, f2⟩ := fillHouse_nI (g := g14) (h := 200 + sl) (by omega) hP2 hL (by rw [hne 401 (by decide)]; exact hX) (by rw [hne 401 (by decide)]; exact h5) hff
  have eh : fX8_houseAt (g14 800) 800 (nI sl) = some (some (200 + sl)) := by
    rw [houseAt_nI (T := g14 800) (n := sl) (c := max c (sl + 1)) (by rw [h800, ga_sae, upd_if, if_pos rfl]) (by omega) (by omega), if_pos (by omega)]
  have ih : isHm (200 + sl) = true := by
    rcases (show sl = 0 ∨ sl = 1 by omega) with e | e
    · rw [e]; rfl
    · rw [e]; rfl
  refine ⟨ug g14 (200 + sl) z, sa (sa q 5 (upd (ga q 5) 0 (nI (max c (sl + 1))))) 6 (va_cpy (ga q 19) (ga q 6) 0 (71 * sl) 71), ?_, ?_, ?_, ?_, ?_, ?_⟩
  · rw [e14]
    unfold bX9_takeText_25
    rw [if_pos (show nI 0 = 0 from rfl), eh, bd_some, oc_s, ih, gd_true, f1, bd_some]
  · have st := store_nI (r := sa q 5 (upd (ga q 5) 0 (nI (max c (sl + 1))))) (k := 6) (w := 71) (i := sl) (by decide) (by decide) (by rw [ln_6.1]; omega) (by rw [ln_6.1]; decide)
    rw [ga_san (show (19 : Nat) ≠ 5 by decide), ga_san (show (6 : Nat) ≠ 5 by decide)] at st
    unfold fX10_storeAll
    rw [if_pos (show nI 0 = 0 from rfl), show (71 : Int32) = nI 71 from rfl, st, bd_some]
  · rw [ug_ne (by omega), hne _ (by decide)]
  · rw [ug_ne (by omega), hne _ (by decide)]
  · rw [ug_ne (by omega), hne _ (by decide)]
  · have k := hI.putH (z := z) (v := hvl u n ps vs ks L) (sl := sl) (m := max c (sl + 1)) s2 (by omega) (hok hP2 hff hm b0 b1 b3) f2 (by rw [ug_same]; exact hM)
    rw [ug_same, ug_ne (show (800 : Nat) ≠ 1001 by decide), ug_thr, ← hg] at k
    exact k
