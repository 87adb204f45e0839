theorem fine_M {g3 : Gs} {q : Rec} {u : Nat → Nat} {n : Nat} {ps vs ks : Nat → Nat} {L c sl : Nat} (hI : Inv (ug g3 1001 q)) (c2 : c ≤ 2) (s2 : sl < 2) (sc : sl ≤ c) (h4 : ga (g3 800) 4 1 = nI c) (hP2 : Ptx u n 1 ps vs ks L) (hX : LnsX (g3 401) u n ps vs ks L) (h5 : gi (g3 401) 5 = nI L) (hff : ffl u n ps vs L = none) (hS : RSt q u n ps vs 4 40 (mrv u n ps vs) L) : ∃ g1 r, fX9_takeText g3 (nI 1) (nI sl) = some g1 ∧ fX10_storeAll (sa q 5 (upd (ga q 5) 1 (nI (max c (sl + 1))))) (nI 1) (nI sl) = some r ∧ g1 901 = g3 901 ∧ g1 1 = g3 1 ∧ g1 1001 = g3 1001 ∧ Inv (ug g1 1001 r) := by
  obtain ⟨hL2, hv⟩ := hS.2 hff
  have q0 : ga q 19 0 = nI L := by rw [hS.1, Nat.min_eq_right hL2]
  have hM : MM (ga q 19) 0 (L, mrv u n ps vs) := ⟨q0, fun k hk c hc => by
    have := hv k hk c hc
    rw [show 0 + 1 + 4 * k + c = 1 + 4 * k + c by omega]
    exact this⟩
  obtain ⟨g14, e14, hg⟩ := takeText_eq (g3 := g3) (so := 1) (by decide) c2 s2 sc h4
  have hne : ∀ o, o ≠ 800 → g14 o = g3 o := fun o ho => by rw [hg, ug_ne ho]
  have h800 : g14 800 = sa (g3 800) 4 (upd (ga (g3 800) 4) 1 (nI (max c (sl + 1)))) := by rw [hg, ug_same]
  obtain ⟨w0, -, wx, -⟩ := hI.2.1.2.2.2.2.2.2.1 sl s2
  have w1 : gi ((ug g3 1001 q) (500 + 6 * 0 + sl)) 0 = nI 40 := wx.1
  rw [ug_ne (by omega), show 500 + 6 * 0 + sl = 500 + sl by omega] at w1
  obtain ⟨z, f1, f2⟩ := fillRows_nI (g := g14) (h := 500 + sl) (cp := 40) (by omega) hL2 (by decide) (by rw [hne 401 (by decide)]; exact hX) (by rw [hne 401 (by decide)]; exact h5) (by rw [hne _ (by omega)]; exact w1)
  have er : fX8_rowsAt (g14 800) 800 (nI 1) (nI sl) = some (some (500 + sl)) := by
    rw [rowsAt_nI (T := g14 800) (n := sl) (s := 1) (c := max c (sl + 1)) (by decide) (by decide) (by rw [h800, ga_sae, upd_if, if_pos rfl]) (by omega) (by omega), if_pos (by omega)]
  have ir : isRw (500 + sl) = true := by
    rcases (show sl = 0 ∨ sl = 1 by omega) with e | e
    · rw [e]; rfl
    · rw [e]; rfl
  refine ⟨ug g14 (500 + sl) z, sa (sa q 5 (upd (ga q 5) 1 (nI (max c (sl + 1))))) 7 (va_cpy (ga q 19) (ga q 7) 0 (161 * sl) 161), ?_, ?_, ?_, ?_, ?_, ?_⟩
  · rw [e14]
    unfold bX9_takeText_25
    rw [if_neg (show ¬ nI 1 = 0 by decide), er, bd_some, oc_s, ir, gd_true, f1, bd_some]
  · have st := store_nI (r := sa q 5 (upd (ga q 5) 1 (nI (max c (sl + 1))))) (k := 7) (w := 161) (i := sl) (by decide) (by decide) (by rw [ln_6.2.1]; omega) (by rw [ln_6.2.1]; decide)
    rw [ga_san (show (19 : Nat) ≠ 5 by decide), ga_san (show (7 : Nat) ≠ 5 by decide)] at st
    unfold fX10_storeAll
    rw [if_neg (show ¬ nI 1 = 0 by decide), if_pos (show nI 1 = 1 from rfl), show (161 : Int32) = nI 161 from rfl, st, bd_some]
  · rw [ug_ne (by omega), hne _ (by decide)]
  · rw [ug_ne (by omega), hne _ (by decide)]
  · rw [ug_ne (by omega), hne _ (by decide)]
  · have k := hI.putM (z := z) (v := (L, mrv u n ps vs)) (sl := sl) (m := max c (sl + 1)) s2 (by omega) (mok hP2 hff hL2) (mxv hP2 f2) (by rw [ug_same]; exact hM)
    rw [ug_same, ug_ne (show (800 : Nat) ≠ 1001 by decide), ug_thr, ← hg] at k
    exact k
theorem fine_D {g3 : Gs} {q : Rec} {u : Nat → Nat} {n : Nat} {ps vs ks : Nat → Nat} {L c sl : Nat} (hI : Inv (ug g3 1001 q)) (c2 : c ≤ 2) (s2 : sl < 2) (sc : sl ≤ c) (h4 : ga (g3 800) 4 2 = nI c) (hP2 : Ptx u n 2 ps vs ks L) (hX : LnsX (g3 401) u n ps vs ks L) (h5 : gi (g3 401) 5 = nI L) (hff : ffl u n ps vs L = none) (hS : DSt q u n ps vs L) : ∃ g1 r, fX9_takeText g3 (nI 2) (nI sl) = some g1 ∧ fX10_storeAll (sa q 5 (upd (ga q 5) 2 (nI (max c (sl + 1))))) (nI 2) (nI sl) = some r ∧ g1 901 = g3 901 ∧ g1 1 = g3 1 ∧ g1 1001 = g3 1001 ∧ Inv (ug g1 1001 r) := by
  obtain ⟨hL2, hv⟩ := hS.1.2 hff
  have q0 : ga q 19 0 = nI L := by rw [hS.1.1, Nat.min_eq_right hL2]
  have hM : DM (ga q 19) 0 (L, fun k c => nI (num u n ps vs k c)) := ⟨q0, fun k hk c hc => by
    have := hv k hk c hc
    rw [show 0 + 1 + 3 * k + c = 1 + 3 * k + c by omega]
    exact this⟩
  obtain ⟨g14, e14, hg⟩ := takeText_eq (g3 := g3) (so := 2) (by decide) c2 s2 sc h4
  have hne : ∀ o, o ≠ 800 → g14 o = g3 o := fun o ho => by rw [hg, ug_ne ho]
  have h800 : g14 800 = sa (g3 800) 4 (upd (ga (g3 800) 4) 2 (nI (max c (sl + 1)))) := by rw [hg, ug_same]
  obtain ⟨w0, -, wx, -⟩ := hI.2.1.2.2.2.2.2.2.2.1 sl s2
  have w1 : gi ((ug g3 1001 q) (502 + 6 * 0 + sl)) 0 = nI 8 := wx.1
  rw [ug_ne (by omega), show 502 + 6 * 0 + sl = 502 + sl by omega] at w1
  obtain ⟨z, f1, f2⟩ := fillRows_nI (g := g14) (h := 502 + sl) (cp := 8) (by omega) hL2 (by decide) (by rw [hne 401 (by decide)]; exact hX) (by rw [hne 401 (by decide)]; exact h5) (by rw [hne _ (by omega)]; exact w1)
  have er : fX8_rowsAt (g14 800) 800 (nI 2) (nI sl) = some (some (502 + sl)) := by
    rw [rowsAt_nI (T := g14 800) (n := sl) (s := 2) (c := max c (sl + 1)) (by decide) (by decide) (by rw [h800, ga_sae, upd_if, if_pos rfl]) (by omega) (by omega), if_pos (by omega)]
  have ir : isRw (502 + sl) = true := by
    rcases (show sl = 0 ∨ sl = 1 by omega) with e | e
    · rw [e]; rfl
    · rw [e]; rfl
  refine ⟨ug g14 (502 + sl) z, sa (sa q 5 (upd (ga q 5) 2 (nI (max c (sl + 1))))) 8 (va_cpy (ga q 19) (ga q 8) 0 (25 * sl) 25), ?_, ?_, ?_, ?_, ?_, ?_⟩
  · rw [e14]
    unfold bX9_takeText_25
    rw [if_neg (show ¬ nI 2 = 0 by decide), er, bd_some, oc_s, ir, gd_true, f1, bd_some]
  · have st := store_nI (r := sa q 5 (upd (ga q 5) 2 (nI (max c (sl + 1))))) (k := 8) (w := 25) (i := sl) (by decide) (by decide) (by rw [ln_6.2.2.1]; omega) (by rw [ln_6.2.2.1]; decide)
    rw [ga_san (show (19 : Nat) ≠ 5 by decide), ga_san (show (8 : Nat) ≠ 5 by decide)] at st
    unfold fX10_storeAll
    rw [if_neg (show ¬ nI 2 = 0 by decide), if_neg (show ¬ nI 2 = 1 by decide), if_pos (show nI 2 = 2 from rfl), show (25 : Int32) = nI 25 from rfl, st, bd_some]
  · rw [ug_ne (by omega), hne _ (by decide)]
  · rw [ug_ne (by omega), hne _ (by decide)]
  · rw [ug_ne (by omega), hne _ (by decide)]
  · have k := hI.putD (z := z) (v := (L, fun k c => nI (num u n ps vs k c))) (sl := sl) (m := max c (sl + 1)) s2 (by omega) (dok hP2 hff hL2) (dxv hP2 f2) (by rw [ug_same]; exact hM)
    rw [ug_same, ug_ne (show (800 : Nat) ≠ 1001 by decide), ug_thr, ← hg] at k
    exact k
theorem fine_L {g3 : Gs} {q : Rec} {u : Nat → Nat} {n : Nat} {ps vs ks : Nat → Nat} {L c sl : Nat} (hI : Inv (ug g3 1001 q)) (c2 : c ≤ 2) (s2 : sl < 2) (sc : sl ≤ c) (h4 : ga (g3 800) 4 3 = nI c) (hP2 : Ptx u n 3 ps vs ks L) (hX : LnsX (g3 401) u n ps vs ks L) (h5 : gi (g3 401) 5 = nI L) (hff : ffl u n ps vs L = none) (hS : RSt q u n ps vs 2 8 (fun k c => nI (num u n ps vs k c)) L) : ∃ g1 r, fX9_takeText g3 (nI 3) (nI sl) = some g1 ∧ fX10_storeAll (sa q 5 (upd (ga q 5) 3 (nI (max c (sl + 1))))) (nI 3) (nI sl) = some r ∧ g1 901 = g3 901 ∧ g1 1 = g3 1 ∧ g1 1001 = g3 1001 ∧ Inv (ug g1 1001 r) := by
  obtain ⟨hL2, hv⟩ := hS.2 hff
  have q0 : ga q 19 0 = nI L := by rw [hS.1, Nat.min_eq_right hL2]
  have hM : LM (ga q 19) 0 (L, fun k c => nI (num u n ps vs k c)) := ⟨q0, fun k hk c hc => by
    have := hv k hk c hc
    rw [show 0 + 1 + 2 * k + c = 1 + 2 * k + c by omega]
    exact this⟩
  obtain ⟨g14, e14, hg⟩ := takeText_eq (g3 := g3) (so := 3) (by decide) c2 s2 sc h4
  have hne : ∀ o, o ≠ 800 → g14 o = g3 o := fun o ho => by rw [hg, ug_ne ho]
  have h800 : g14 800 = sa (g3 800) 4 (upd (ga (g3 800) 4) 3 (nI (max c (sl + 1)))) := by rw [hg, ug_same]
  obtain ⟨w0, -, wx, -⟩ := hI.2.1.2.2.2.2.2.2.2.2 sl s2
  have w1 : gi ((ug g3 1001 q) (504 + 6 * 0 + sl)) 0 = nI 8 := wx.1
  rw [ug_ne (by omega), show 504 + 6 * 0 + sl = 504 + sl by omega] at w1
  obtain ⟨z, f1, f2⟩ := fillRows_nI (g := g14) (h := 504 + sl) (cp := 8) (by omega) hL2 (by decide) (by rw [hne 401 (by decide)]; exact hX) (by rw [hne 401 (by decide)]; exact h5) (by rw [hne _ (by omega)]; exact w1)
  have er : fX8_rowsAt (g14 800) 800 (nI 3) (nI sl) = some (some (504 + sl)) := by
    rw [rowsAt_nI (T := g14 800) (n := sl) (s := 3) (c := max c (sl + 1)) (by decide) (by decide) (by rw [h800, ga_sae, upd_if, if_pos rfl]) (by omega) (by omega), if_pos (by omega)]
  have ir : isRw (504 + sl) = true := by
    rcases (show sl = 0 ∨ sl = 1 by omega) with e | e
    · rw [e]; rfl
    · rw [e]; rfl
  refine ⟨ug g14 (504 + sl) z, sa (sa q 5 (upd (ga q 5) 3 (nI (max c (sl + 1))))) 9 (va_cpy (ga q 19) (ga q 9) 0 (17 * sl) 17), ?_, ?_, ?_, ?_, ?_, ?_⟩
  · rw [e14]
    unfold bX9_takeText_25
    rw [if_neg (show ¬ nI 3 = 0 by decide), er, bd_some, oc_s, ir, gd_true, f1, bd_some]
  · have st := store_nI (r := sa q 5 (upd (ga q 5) 3 (nI (max c (sl + 1))))) (k := 9) (w := 17) (i := sl) (by decide) (by decide) (by rw [ln_6.2.2.2]; omega) (by rw [ln_6.2.2.2]; decide)
    rw [ga_san (show (19 : Nat) ≠ 5 by decide), ga_san (show (9 : Nat) ≠ 5 by decide)] at st
    unfold fX10_storeAll
    rw [if_neg (show ¬ nI 3 = 0 by decide), if_neg (show ¬ nI 3 = 1 by decide), if_neg (show ¬ nI 3 = 2 by decide), show (17 : Int32) = nI 17 from rfl, st, bd_some]
  · rw [ug_ne (by omega), hne _ (by decide)]
  · rw [ug_ne (by omega), hne _ (by decide)]
  · rw [ug_ne (by omega), hne _ (by decide)]
  · have k := hI.putL (z := z) (v := (L, fun k c => nI (num u n ps vs k c))) (sl := sl) (m := max c (sl + 1)) s2 (by omega) (lok hP2 hff hL2) (lxv hP2 f2) (by rw [ug_same]; exact hM)
    rw [ug_same, ug_ne (show (800 : Nat) ≠ 1001 by decide), ug_thr, ← hg] at k
    exact k
