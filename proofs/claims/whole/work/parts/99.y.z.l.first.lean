theorem HX.zr0 : HX zr hv0 := ⟨rfl, rfl, rfl, fun p hp => absurd hp (Nat.not_lt_zero p), fun _ _ => rfl, fun p hp => absurd hp (Nat.not_lt_zero p), fun p hp => absurd hp (Nat.not_lt_zero p)⟩
theorem hv0_ok : HvOK hv0 := ⟨Nat.zero_le _, Nat.zero_le _, Nat.zero_le _, fun p hp => absurd hp (Nat.not_lt_zero p), fun _ _ => ⟨rfl, rfl⟩, fun _ => Nat.two_pow_pos _, fun p hp => absurd hp (Nat.not_lt_zero p), fun p hp => absurd hp (Nat.not_lt_zero p)⟩
theorem inv_G0 : Inv G0 := by
  have e800 : G0 800 = si zr 3 (-1) := rfl
  have e901 : G0 901 = zr := rfl
  have em : G0 1001 = sa zr 4 (upd (fun _ => 0) 0 (-1)) := rfl
  have e1 : gr (G0 1) 0 = 209 := rfl
  have hh : ∀ i, i < 2 → G0 (200 + 2 * 0 + i) = zr := fun i hi => by
    rcases (show i = 0 ∨ i = 1 by omega) with e | e
    · rw [e]; rfl
    · rw [e]; rfl
  have h5 : ∀ i, i < 2 → G0 (500 + 6 * 0 + i) = si zr 0 40 := fun i hi => by
    rcases (show i = 0 ∨ i = 1 by omega) with e | e
    · rw [e]; rfl
    · rw [e]; rfl
  have h52 : ∀ i, i < 2 → G0 (502 + 6 * 0 + i) = si zr 0 8 := fun i hi => by
    rcases (show i = 0 ∨ i = 1 by omega) with e | e
    · rw [e]; rfl
    · rw [e]; rfl
  have h54 : ∀ i, i < 2 → G0 (504 + 6 * 0 + i) = si zr 0 8 := fun i hi => by
    rcases (show i = 0 ∨ i = 1 by omega) with e | e
    · rw [e]; rfl
    · rw [e]; rfl
  have none1 : ∀ (P : Nat → Prop) k, k < 0 → P k := fun P k hk => absurd hk (Nat.not_lt_zero k)
  refine ⟨by rw [e1]; rfl, ?_, fun k _ => ?_, fun k _ hk => ?_⟩
  · rw [em]
    unfold BR
    rw [show 800 + 0 = 800 from rfl, e800]
    refine ⟨⟨0, Nat.zero_le _, rfl, rfl⟩, fun i _ => ⟨rfl, rfl⟩, rfl, rfl, fun k _ => ⟨0, Nat.zero_le _, rfl, rfl⟩, fun i hi => ?_, fun i hi => ?_, fun i hi => ?_, fun i hi => ?_⟩
    · refine ⟨hv0, hv0_ok, ?_, ?_⟩
      · rw [hh i hi]; exact HX.zr0
      · have hz : HM (fun _ => 0) 0 hv0 := HM.zero (fun _ _ => rfl)
        exact hz.shift hv0_ok (fun x _ => rfl)
    · refine ⟨(0, fun _ _ => 0), ⟨Nat.zero_le _, none1 _⟩, ?_, rfl, none1 _⟩
      rw [h5 i hi]
      exact ⟨rfl, rfl, none1 _⟩
    · refine ⟨(0, fun _ _ => 0), ⟨Nat.zero_le _, none1 _⟩, ?_, rfl, none1 _⟩
      rw [h52 i hi]
      exact ⟨rfl, rfl, none1 _⟩
    · refine ⟨(0, fun _ _ => 0), ⟨Nat.zero_le _, none1 _⟩, ?_, rfl, none1 _⟩
      rw [h54 i hi]
      exact ⟨rfl, rfl, none1 _⟩
  · rw [em, e901, if_pos (show gr zr k = 0 from rfl)]
    rfl
  · rw [e901] at hk
    exact absurd rfl hk
