/-- block 0 with its tape emptied, a fault and a place, all else as it was -/
theorem BR.told0 {g g1 : Gs} {r r1 : Rec} {x y : Int32} (h : BR g r 0) (t0 : ga (g1 800) 0 = ga (g 800) 0) (t1 : gi (g1 800) 1 = 0) (t2 : gi (g1 800) 2 = x) (t3 : gi (g1 800) 3 = y) (t4 : ga (g1 800) 4 = ga (g 800) 4) (hh : ∀ o, (200 ≤ o ∧ o ≤ 201) ∨ (500 ≤ o ∧ o ≤ 505) → g1 o = g o) (r1a : ga r1 1 = ga r 1) (r2 : ga r1 2 0 = 0) (r3 : ga r1 3 0 = x) (r4 : ga r1 4 0 = y) (rk : ∀ k, 5 ≤ k → k ≤ 9 → ga r1 k = ga r k) : BR g1 r1 0 := by
  obtain ⟨a, b, c, d, e, f, p, q, s⟩ := h
  refine ⟨⟨0, Nat.zero_le _, t1, r2⟩, fun i hi => ?_, t2.trans r3.symm, t3.trans r4.symm, fun k hk => ?_, fun i hi => ?_, fun i hi => ?_, fun i hi => ?_, fun i hi => ?_⟩
  · rw [show 800 + 0 = 800 from rfl, t0, r1a]; exact b i hi
  · rw [show 800 + 0 = 800 from rfl, t4, rk 5 (by decide) (by decide)]; exact e k hk
  · rw [hh _ (by omega), rk 6 (by decide) (by decide)]; exact f i hi
  · rw [hh _ (by omega), rk 7 (by decide) (by decide)]; exact p i hi
  · rw [hh _ (by omega), rk 8 (by decide) (by decide)]; exact q i hi
  · rw [hh _ (by omega), rk 9 (by decide) (by decide)]; exact s i hi
/-- rows of the reference's images are as they were -/
theorem BE.told0 {r r1 : Rec} {t : Nat} (ht : 1 ≤ t) (r1a : ga r1 1 = ga r 1) (r2 : ∀ k, k ≠ 0 → ga r1 2 k = ga r 2 k) (r3 : ∀ k, k ≠ 0 → ga r1 3 k = ga r 3 k) (r4 : ∀ k, k ≠ 0 → ga r1 4 k = ga r 4 k) (r5 : ∀ k, 4 ≤ k → ga r1 5 k = ga r 5 k) (r6 : ∀ k, 142 ≤ k → ga r1 6 k = ga r 6 k) (r7 : ∀ k, 322 ≤ k → ga r1 7 k = ga r 7 k) (r8 : ∀ k, 50 ≤ k → ga r1 8 k = ga r 8 k) (r9 : ∀ k, 34 ≤ k → ga r1 9 k = ga r 9 k) : BE r t r1 t :=
  ⟨fun i _ => by rw [r1a], r2 t (by omega), r3 t (by omega), r4 t (by omega), fun k _ => r5 _ (by omega), fun k _ => r6 _ (by omega), fun k _ => r7 _ (by omega), fun k _ => r8 _ (by omega), fun k _ => r9 _ (by omega)⟩
