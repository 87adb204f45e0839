theorem text_cases {g : Gs} {r : Rec} {n : Nat} (e1 : gi (g 800) 1 = nI n) (hc : ∀ k, k < 4 → ∃ m : Nat, m ≤ 2 ∧ ga (g 800) 4 k = nI m ∧ ga r 5 k = nI m) (a1 a2 : Int32) : (fX9_text g a1 a2 = some (ug g 800 (tT0 g), -2) ∧ fX10_text r a1 a2 = some (tR0 r, -2)) ∨ ∃ so c sl : Nat, so < 4 ∧ a1 = nI so ∧ c ≤ 2 ∧ sl < 2 ∧ sl ≤ c ∧ ga (g 800) 4 so = nI c ∧ ga r 5 so = nI c ∧ ((a2 = -1 ∧ sl = c) ∨ (a2 = nI sl ∧ sl < c)) ∧ fX9_text g a1 a2 = rdX g n so (nI sl) ∧ fX10_text r a1 a2 = bX10_text_75 (tR0 r) (nI so) a2 := by
  rw [textX0 e1, textM0]
  rcases i32_cases a1 with hneg | ⟨so, hso, rfl⟩
  · left
    rw [if_pos hneg]
    unfold fX10_in
    rw [if_pos hneg]
    exact ⟨rfl, rfl⟩
  have nneg : ∀ x : Nat, x < 2 ^ 31 → ¬ nI x < 0 := fun x hx z => by have := (nI_ltI (b := 0) hx (by decide)).mp z; omega
  rw [if_neg (nneg so hso)]
  by_cases h4 : so < 4
  · obtain ⟨c, c2, x4, x5⟩ := hc so h4
    have in3 : fX10_in (nI so) 0 3 = some 1 := by
      unfold fX10_in
      rw [if_neg (nneg so hso), if_neg (show ¬ (3 : Int32) < nI so from fun z => by have := (nI_ltI (a := 3) (by decide) hso).mp z; omega)]
    have y5 : ga (tR0 r) 5 so = nI c := x5
    rw [if_pos (show nI so < 4 from (nI_ltI (b := 4) hso (by decide)).mpr h4), in3, bd_some, if_neg (show ¬ (1 : Int32) = 0 by decide), nI_clamp hso, inR_nI h4 (by decide), gd_true, inR_nI (show so < 16 by omega) (by decide), gd_true, y5, x4]
    have g4 : ga ((ug g 800 (tT0 g)) 800) 4 so = nI c := by rw [ug_same]; exact x4
    by_cases hm : a2 = -1
    · rw [if_pos hm, if_pos hm]
      unfold bX9_text_62 bX9_text_82
      rw [if_pos hm, if_neg (nneg c (by omega))]
      by_cases hc2 : c = 2
      · left
        rw [hc2]
        exact ⟨rfl, rfl⟩
      · right
        refine ⟨so, c, c, h4, rfl, c2, by omega, Nat.le_refl _, x4, x5, Or.inl ⟨hm, rfl⟩, ?_, ?_⟩
        · rw [if_pos (show nI c < 2 from (nI_ltI (b := 2) (by omega) (by decide)).mpr (by omega))]
          rfl
        · rw [if_neg (show ¬ nI c = 2 from fun z => hc2 ((nI_eq (b := 2) (by omega) (by decide)).mp z))]
    · rw [if_neg hm, if_neg hm]
      unfold bX9_text_62 bX9_text_82
      rw [if_neg hm, inR_nI h4 (by decide), gd_true, nI_clamp hso, g4]
      have eis : fX10_is (tR0 r) (nI so) a2 = (fX10_in a2 0 (nI c - 1)).bind fun z2 => gd (isB z2) (some z2) := by
        unfold fX10_is
        rw [inR_nI (show so < 16 by omega) (by decide), gd_true, nI_clamp hso, y5]
      rw [eis]
      rcases i32_cases a2 with h2 | ⟨sl, hsl, rfl⟩
      · left
        unfold fX10_in
        rw [if_pos h2, if_pos h2]
        exact ⟨rfl, rfl⟩
      · rw [if_neg (nneg sl hsl)]
        unfold fX10_in
        rw [if_neg (nneg sl hsl)]
        by_cases hlt : sl < c
        · right
          refine ⟨so, c, sl, h4, rfl, c2, by omega, by omega, x4, x5, Or.inr ⟨rfl, hlt⟩, ?_, ?_⟩
          · rw [if_pos ((nI_ltI (by omega) (by omega)).mpr hlt)]
            rfl
          · rw [show nI c - 1 = nI (c - 1) by rw [show (1 : Int32) = nI 1 from rfl, pk_sub (by omega)], if_neg (show ¬ nI (c - 1) < nI sl from fun z => by have := (nI_ltI (by omega) (by omega)).mp z; omega)]
            rfl
        · left
          rw [if_neg (fun z => hlt ((nI_ltI (by omega) (by omega)).mp z))]
          refine ⟨rfl, ?_⟩
          rw [if_pos (show nI c - 1 < nI sl from Int32.lt_iff_toInt_lt.mpr (by
            have a := (le_fm (c := sl) (m := c))
            match c, c2, hlt with
            | 0, _, _ => rw [show (nI 0 - 1).toInt = -1 by decide, nI_toInt hsl]; omega
            | k + 1, _, hlt => rw [fm_s, nI_toInt (by omega), nI_toInt hsl]; omega))]
          rfl
  · left
    rw [if_neg (show ¬ nI so < 4 from fun z => h4 ((nI_ltI (b := 4) hso (by decide)).mp z))]
    unfold fX10_in
    rw [if_neg (nneg so hso), if_pos (show (3 : Int32) < nI so from (nI_ltI (a := 3) (by decide) hso).mpr (by omega))]
    exact ⟨rfl, rfl⟩
