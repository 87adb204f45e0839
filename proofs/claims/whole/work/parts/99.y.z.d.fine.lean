theorem upd_same2 (f : Nat → Int32) (k : Nat) : upd f k (f k) = f := by
  funext j
  rw [upd_if]
  by_cases c : j = k
  · rw [if_pos c, c]
  · rw [if_neg c]
/-- the class puts a text that was read into its slot -/
theorem takeText_eq {g3 : Gs} {so c sl : Nat} (hso : so < 4) (hc : c ≤ 2) (hs : sl < 2) (hsc : sl ≤ c) (h4 : ga (g3 800) 4 so = nI c) : ∃ g14, fX9_takeText g3 (nI so) (nI sl) = bX9_takeText_25 g14 (nI so) (nI sl) ∧ g14 = ug g3 800 (sa (g3 800) 4 (upd (ga (g3 800) 4) so (nI (max c (sl + 1))))) := by
  refine ⟨_, ?_, rfl⟩
  unfold fX9_takeText
  rw [inR_nI hso (by decide), gd_true, gd_true, nI_clamp (by omega), h4]
  by_cases hlt : sl < c
  · rw [if_pos ((nI_ltI (by omega) (by omega)).mpr hlt), show max c (sl + 1) = c by omega, ← h4, upd_same2, sa_self, ug_self]
  · rw [if_neg (fun z => hlt ((nI_ltI (by omega) (by omega)).mp z)), bd_some, nI_1, show max c (sl + 1) = sl + 1 by omega]
