theorem fs_ne0 : ∀ j, j < 17 → j < 0 → Cond.not (Cond.eq (tmS 0) (tmS j)) ∈ flG ∨ Cond.not (Cond.eq (tmS j) (tmS 0)) ∈ flG := by decide +kernel
theorem fs_ne1 : ∀ j, j < 17 → j < 1 → Cond.not (Cond.eq (tmS 1) (tmS j)) ∈ flG ∨ Cond.not (Cond.eq (tmS j) (tmS 1)) ∈ flG := by decide +kernel
theorem fs_ne2 : ∀ j, j < 17 → j < 2 → Cond.not (Cond.eq (tmS 2) (tmS j)) ∈ flG ∨ Cond.not (Cond.eq (tmS j) (tmS 2)) ∈ flG := by decide +kernel
theorem fs_ne3 : ∀ j, j < 17 → j < 3 → Cond.not (Cond.eq (tmS 3) (tmS j)) ∈ flG ∨ Cond.not (Cond.eq (tmS j) (tmS 3)) ∈ flG := by decide +kernel
theorem fs_ne4 : ∀ j, j < 17 → j < 4 → Cond.not (Cond.eq (tmS 4) (tmS j)) ∈ flG ∨ Cond.not (Cond.eq (tmS j) (tmS 4)) ∈ flG := by decide +kernel
theorem fs_ne5 : ∀ j, j < 17 → j < 5 → Cond.not (Cond.eq (tmS 5) (tmS j)) ∈ flG ∨ Cond.not (Cond.eq (tmS j) (tmS 5)) ∈ flG := by decide +kernel
theorem fs_ne6 : ∀ j, j < 17 → j < 6 → Cond.not (Cond.eq (tmS 6) (tmS j)) ∈ flG ∨ Cond.not (Cond.eq (tmS j) (tmS 6)) ∈ flG := by decide +kernel
theorem fs_ne7 : ∀ j, j < 17 → j < 7 → Cond.not (Cond.eq (tmS 7) (tmS j)) ∈ flG ∨ Cond.not (Cond.eq (tmS j) (tmS 7)) ∈ flG := by decide +kernel
theorem fs_ne8 : ∀ j, j < 17 → j < 8 → Cond.not (Cond.eq (tmS 8) (tmS j)) ∈ flG ∨ Cond.not (Cond.eq (tmS j) (tmS 8)) ∈ flG := by decide +kernel
theorem fs_ne9 : ∀ j, j < 17 → j < 9 → Cond.not (Cond.eq (tmS 9) (tmS j)) ∈ flG ∨ Cond.not (Cond.eq (tmS j) (tmS 9)) ∈ flG := by decide +kernel
theorem fs_ne10 : ∀ j, j < 17 → j < 10 → Cond.not (Cond.eq (tmS 10) (tmS j)) ∈ flG ∨ Cond.not (Cond.eq (tmS j) (tmS 10)) ∈ flG := by decide +kernel
theorem fs_ne11 : ∀ j, j < 17 → j < 11 → Cond.not (Cond.eq (tmS 11) (tmS j)) ∈ flG ∨ Cond.not (Cond.eq (tmS j) (tmS 11)) ∈ flG := by decide +kernel
theorem fs_ne12 : ∀ j, j < 17 → j < 12 → Cond.not (Cond.eq (tmS 12) (tmS j)) ∈ flG ∨ Cond.not (Cond.eq (tmS j) (tmS 12)) ∈ flG := by decide +kernel
theorem fs_ne13 : ∀ j, j < 17 → j < 13 → Cond.not (Cond.eq (tmS 13) (tmS j)) ∈ flG ∨ Cond.not (Cond.eq (tmS j) (tmS 13)) ∈ flG := by decide +kernel
theorem fs_ne14 : ∀ j, j < 17 → j < 14 → Cond.not (Cond.eq (tmS 14) (tmS j)) ∈ flG ∨ Cond.not (Cond.eq (tmS j) (tmS 14)) ∈ flG := by decide +kernel
theorem fs_ne15 : ∀ j, j < 17 → j < 15 → Cond.not (Cond.eq (tmS 15) (tmS j)) ∈ flG ∨ Cond.not (Cond.eq (tmS j) (tmS 15)) ∈ flG := by decide +kernel
theorem fs_ne16 : ∀ j, j < 17 → j < 16 → Cond.not (Cond.eq (tmS 16) (tmS j)) ∈ flG ∨ Cond.not (Cond.eq (tmS j) (tmS 16)) ∈ flG := by decide +kernel
theorem fs_ne0a : ∀ i, i < 17 → ∀ j, j < 17 → j < i → Cond.not (Cond.eq (tmS i) (tmS j)) ∈ flG ∨ Cond.not (Cond.eq (tmS j) (tmS i)) ∈ flG := by
  intro i hi
  match i, hi with
  | 0, _ => exact fs_ne0
  | 1, _ => exact fs_ne1
  | 2, _ => exact fs_ne2
  | 3, _ => exact fs_ne3
  | 4, _ => exact fs_ne4
  | 5, _ => exact fs_ne5
  | 6, _ => exact fs_ne6
  | 7, _ => exact fs_ne7
  | 8, _ => exact fs_ne8
  | 9, _ => exact fs_ne9
  | 10, _ => exact fs_ne10
  | 11, _ => exact fs_ne11
  | 12, _ => exact fs_ne12
  | 13, _ => exact fs_ne13
  | 14, _ => exact fs_ne14
  | 15, _ => exact fs_ne15
  | 16, _ => exact fs_ne16
  | i + 17, hi => omega
theorem fs_ne : ∀ i, i < 17 → ∀ j, j < 17 → i ≠ j → Cond.not (Cond.eq (tmS i) (tmS j)) ∈ flG ∨ Cond.not (Cond.eq (tmS j) (tmS i)) ∈ flG := by
  intro i hi j hj hn
  rcases Nat.lt_or_gt_of_ne hn with h | h
  · exact (fs_ne0a j hj i hi h).symm
  · exact fs_ne0a i hi j hj h
