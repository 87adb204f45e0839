theorem HM.shift {m m' : Nat → Int32} {o : Nat} {v : Hv} (h : HM m 0 v) (ok : HvOK v) (e : ∀ x, x < 71 → m' (o + x) = m x) : HM m' o v := by
  obtain ⟨h0, h1, h2, h3, h4, h5, h6, h7⟩ := h
  have k1 := ok.1
  have k2 := ok.2.1
  have k3 := ok.2.2.1
  have e' : ∀ a p, a + p < 71 → m' (o + a + p) = m (0 + a + p) := fun a p ha => by rw [Nat.add_assoc, e _ ha, show 0 + a + p = a + p by omega]
  refine ⟨?_, ?_, ?_, fun p hp => ?_, fun p hp => ?_, fun p hp => ?_, fun s hs => ?_, fun l hl => ?_⟩
  · rw [show o = o + 0 from rfl, e 0 (by decide)]; exact h0
  · rw [e 1 (by decide)]; exact h1
  · rw [e 2 (by decide)]; exact h2
  · rw [e' _ _ (by omega)]; exact h3 p hp
  · rw [e' _ _ (by omega)]; exact h4 p hp
  · rw [e' _ _ (by omega)]; exact h5 p hp
  · rw [e' _ _ (by omega), e' _ _ (by omega)]; exact h6 s hs
  · rw [e' _ _ (by omega), e' _ _ (by omega), e' _ _ (by omega)]; exact h7 l hl
