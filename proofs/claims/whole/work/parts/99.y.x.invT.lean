theorem BE.rf (r : Rec) (t : Nat) : BE r t r t := ⟨fun _ _ => rfl, rfl, rfl, rfl, fun _ _ => rfl, fun _ _ => rfl, fun _ _ => rfl, fun _ _ => rfl, fun _ _ => rfl⟩
theorem Inv.mk0 {g g1 : Gs} {r1 : Rec} (hI : Inv g) (h901 : g1 901 = g 901) (h1 : isHm (gr (g1 1) 0) = true) (himg : ∀ t o, 1 ≤ t → t ≤ 3 → own t o → g1 o = g o) (hBE : ∀ t, 1 ≤ t → t ≤ 3 → BE (g 1001) t r1 t) (h48 : ga r1 48 = ga (g 1001) 48) (hB : BR g1 r1 0) : Inv (ug g1 1001 r1) := by
  have hne : ∀ t o, t ≤ 3 → own t o → o ≠ 1001 := fun t o ht ho z => by
    unfold own at ho
    omega
  refine ⟨?_, ?_, fun k hk => ?_, fun k hk hg => ?_⟩
  · rw [ug_ne (by decide)]; exact h1
  · rw [ug_same]
    exact hB.move (GE.of (fun o ho => ug_ne (hne 0 o (by decide) ho))) (BE.rf r1 0)
  · rw [ug_same, ug_ne (by decide), h901, h48]
    exact hI.2.2.1 k hk
  · rw [ug_ne (by decide), h901] at hg
    rw [ug_same]
    exact (hI.2.2.2 k hk hg).move (GE.of (fun o ho => by rw [ug_ne (hne (k + 1) o (by omega) ho)]; exact himg (k + 1) o (by omega) (by omega) ho)) (hBE (k + 1) (by omega) (by omega))
