theorem text75 {r q : Rec} {a2 : Int32} {so c sl : Nat} (hso : so < 4) (hc : c ≤ 2) (hs : sl < 2) (hsc : sl ≤ c) (hread : fX10_readText r (nI so) = some (q, 1)) (h5 : ga q 5 so = nI c) (ha : (a2 = -1 ∧ sl = c) ∨ (a2 = nI sl ∧ sl < c)) : bX10_text_75 r (nI so) a2 = (fX10_storeAll (sa q 5 (upd (ga q 5) so (nI (max c (sl + 1))))) (nI so) (nI sl)).bind fun z3 => some ((z3, nI sl)) := by
  unfold bX10_text_75
  rw [hread, bd_some]
  dsimp only
  rw [if_neg (show ¬ (1 : Int32) = 0 by decide), inR_nI (show so < 16 by omega) (by decide), gd_true, nI_clamp (by omega), h5]
  unfold bX10_text_100 bX10_text_118
  rw [inR_nI (show so < 16 by omega) (by decide), gd_true, gd_true, gd_true, nI_clamp (by omega), h5]
  rcases ha with ⟨h1, h2⟩ | ⟨h1, h2⟩
  · rw [if_pos h1, if_pos h1, bd_some, nI_1, h2, show max c (c + 1) = c + 1 by omega]
  · rw [if_neg (by rw [h1]; exact nI_m1 (by omega)), if_neg (by rw [h1]; exact nI_m1 (by omega)), gd_true, gd_true, bd_some, h1, show max c (sl + 1) = c by omega, show nI c + 0 = nI c by rw [show (0 : Int32) = nI 0 from rfl, nI_add, Nat.add_zero]]
