theorem houseAt_neg {T : Rec} {x : Int32} (h : x < 0) : fX8_houseAt T 800 x = some none := by
  unfold fX8_houseAt
  rw [if_pos h]
  rfl
theorem houseAt_nI {T : Rec} {c n : Nat} (hc : ga T 4 0 = nI c) (hn : n < 2 ^ 31) (hc2 : c ≤ 2) : fX8_houseAt T 800 (nI n) = some (if n < c then some (200 + n) else none) := by
  unfold fX8_houseAt
  rw [if_neg (nI_nlt0 hn), show ga T 4 (Int32.toNatClampNeg 0) = nI c from hc]
  by_cases h : n < c
  · rw [if_pos ((nI_ltI hn (by omega)).mpr h), if_pos h, inR_nI (by omega) (by decide), gd_true, nI_clamp hn]
    rfl
  · rw [if_neg (fun h1 => h ((nI_ltI hn (by omega)).mp h1)), if_neg h]
    rfl
theorem MP.HM {r r' : Rec} {o : Nat} {v : Hv} (h : MP r r') (hm : HM (ga r 6) o v) : HM (ga r' 6) o v := by rw [h.2.2.2.2.2.1]; exact hm
/-- a house that is told, or not: both sides -/
theorem house_cases {g : Gs} (hI : Inv g) (x : Int32) : (fX8_houseAt (g 800) 800 x = some none ∧ ∀ r, MP (g 1001) r → fX10_hand r x = some (r, 0)) ∨ ∃ (n : Nat) (v : Hv), n < 2 ∧ x = nI n ∧ HvOK v ∧ HX (g (200 + n)) v ∧ fX8_houseAt (g 800) 800 x = some (some (200 + n)) ∧ isHm (200 + n) = true ∧ ∀ r, MP (g 1001) r → ∃ r', fX10_hand r x = some (r', 1) ∧ Hd r' n v ∧ MP r r' := by
  have hb := hI.2.1
  obtain ⟨c, hc2, c1, c2⟩ := hb.2.2.2.2.1 0 (by decide)
  have c2 : ga (g 1001) 5 0 = nI c := c2
  rcases i32_cases x with h | ⟨n, hn, rfl⟩
  · exact Or.inl ⟨houseAt_neg h, fun r _ => hand_neg h⟩
  · by_cases hnc : n < c
    · obtain ⟨v, ok, hx, hm⟩ := hb.2.2.2.2.2.1 n (by omega)
      have hm : HM (ga (g 1001) 6) (71 * n) v := by have := hm; rw [show 71 * (2 * 0 + n) = 71 * n by omega] at this; exact this
      refine Or.inr ⟨n, v, by omega, rfl, ok, hx, ?_, ?_, fun r hr => ?_⟩
      · have := houseAt_nI (T := g 800) c1 hn hc2
        rw [if_pos hnc] at this
        exact this
      · rcases (show n = 0 ∨ n = 1 by omega) with rfl | rfl <;> rfl
      · exact hand_in (c := c) (by rw [hr.2.2.2.2.1]; exact c2) hc2 hnc ok (hr.HM hm)
    · refine Or.inl ⟨?_, fun r hr => hand_out (by rw [hr.2.2.2.2.1]; exact c2) hc2 hn hnc⟩
      have := houseAt_nI (T := g 800) c1 hn hc2
      rw [if_neg hnc] at this
      exact this
theorem piece_cases {h r : Rec} {P : Nat} (e1 : gi h 0 = nI P) (e2 : gi r 26 = nI P) (hP8 : P ≤ 8) (x : Int32) : (fX2_hasPiece h x = some 0 ∧ fX10_isPiece r x = some 0) ∨ ∃ p, p < P ∧ x = nI p ∧ fX2_hasPiece h x = some 1 ∧ fX10_isPiece r x = some 1 := by
  unfold fX2_hasPiece fX10_isPiece
  rw [e1, e2]
  rcases i32_cases x with h | ⟨k, hk, rfl⟩
  · exact Or.inl ⟨by rw [if_pos h], by rw [in_lt0 h]; rfl⟩
  · by_cases hkn : k < P
    · exact Or.inr ⟨k, hkn, rfl, by rw [if_neg (nI_nlt0 hk), if_neg (fun h1 => by have := (nI_leI (by omega) hk).mp h1; omega)], by rw [in_pred hk (by omega), if_pos hkn]; rfl⟩
    · exact Or.inl ⟨by rw [if_neg (nI_nlt0 hk), if_pos ((nI_leI (by omega) hk).mpr (by omega))], by rw [in_pred hk (by omega), if_neg hkn]; rfl⟩
theorem secret_cases {h r : Rec} {S : Nat} (e1 : gi h 1 = nI S) (e2 : gi r 27 = nI S) (hS10 : S ≤ 10) (x : Int32) : (fX2_hasSecret h x = some 0 ∧ fX10_isSecret r x = some 0) ∨ ∃ p, p < S ∧ x = nI p ∧ fX2_hasSecret h x = some 1 ∧ fX10_isSecret r x = some 1 := by
  unfold fX2_hasSecret fX10_isSecret
  rw [e1, e2]
  rcases i32_cases x with h | ⟨k, hk, rfl⟩
  · exact Or.inl ⟨by rw [if_pos h], by rw [in_lt0 h]; rfl⟩
  · by_cases hkn : k < S
    · exact Or.inr ⟨k, hkn, rfl, by rw [if_neg (nI_nlt0 hk), if_neg (fun h1 => by have := (nI_leI (by omega) hk).mp h1; omega)], by rw [in_pred hk (by omega), if_pos hkn]; rfl⟩
    · exact Or.inl ⟨by rw [if_neg (nI_nlt0 hk), if_pos ((nI_leI (by omega) hk).mpr (by omega))], by rw [in_pred hk (by omega), if_neg hkn]; rfl⟩
/-! worth -/
def wFull (w k t : Nat) : Nat := if k = t then 2 * w else w
def wHalf (f : Nat) (b : Bool) : Nat := if b then f / 2 else f
def wv (v : Hv) (s p : Nat) : Nat := wHalf (wFull (hWt v s) (hKi v s) (hTa v p)) ((hKn v p).testBit s)
theorem wv_le {v : Hv} (ok : HvOK v) {s p : Nat} (hs : s < hS v) : wv v s p ≤ 60 := by
  obtain ⟨-, -, -, -, -, -, h, -⟩ := ok
  have h1 := (h s hs).2.2
  unfold wv wHalf wFull
  split <;> split <;> omega
theorem kn_lt {v : Hv} (ok : HvOK v) (p : Nat) : hKn v p < 2 ^ 10 := Nat.lt_of_lt_of_le (ok.2.2.2.2.2.1 p) (Nat.pow_le_pow_right (by decide) ok.2.1)
theorem half_nI {f : Nat} (hf : f < 2 ^ 31) : nI f / 2 = nI (f / 2) := pk_div (d := 2) hf (by decide) (by decide)
theorem worthOf_nI {w : Nat} (hw : w ≤ 30) (b1 b2 : Bool) : fX9_worthOf (nI w) (if b1 then 1 else 0) (if b2 then 1 else 0) = some (nI (wHalf (if b1 then 2 * w else w) b2)) := by
  unfold fX9_worthOf bX9_worthOf_11 wHalf
  have e : (2 : Int32) * nI w = nI (2 * w) := pk_mul 2 w
  cases b1 <;> cases b2
  · rfl
  · rw [if_pos (show (if false = true then (1 : Int32) else 0) = 0 from rfl), if_neg (show ¬ (if true = true then (1 : Int32) else 0) = 0 by decide)]
    exact congrArg some (half_nI (by omega))
  · rw [if_neg (show ¬ (if true = true then (1 : Int32) else 0) = 0 by decide), if_pos (show (if false = true then (1 : Int32) else 0) = 0 from rfl), e]
    rfl
  · rw [if_neg (show ¬ (if true = true then (1 : Int32) else 0) = 0 by decide), e]
    exact congrArg some (half_nI (by omega))
theorem worthIf_nI {h : Rec} {v : Hv} (ok : HvOK v) (hx : HX h v) {s p t : Nat} (hs : s < hS v) (hp : p < 8) (ht : t < 2 ^ 31) : fX2_worthIfTaste h (nI s) (nI p) (nI t) = some (nI (wHalf (wFull (hWt v s) (hKi v s) t) ((hKn v p).testBit s))) := by
  have hS10 := ok.2.1
  have hk := (ok.2.2.2.2.2.2.1 s hs)
  unfold fX2_worthIfTaste
  rw [inR_nI (by omega) (by decide), gd_true, gd_true, nI_clamp (by omega), (hx.2.2.2.2.2.1 s hs).1, (hx.2.2.2.2.2.1 s hs).2]
  have key : ∀ b : Bool, bX2_worthIfTaste_21 h (nI s) (nI p) (if b then 1 else 0) (nI (hWt v s)) = some (nI (wHalf (if b then 2 * hWt v s else hWt v s) ((hKn v p).testBit s))) := by
    intro b
    unfold bX2_worthIfTaste_21
    rw [inR_nI hp (by decide), gd_true, nI_clamp (by omega), hx.2.2.2.2.1 p hp, hasBit_nI (by have := kn_lt ok p; omega) (by omega), bd_some, worthOf_nI (by omega), bd_some]
  unfold wFull
  by_cases e : hKi v s = t
  · rw [if_pos (by rw [e]), if_pos e]
    exact key true
  · rw [if_neg (fun h1 => e ((nI_eq (by omega) ht).mp h1)), if_neg e]
    exact key false
theorem worthTo_nI {h : Rec} {v : Hv} (ok : HvOK v) (hx : HX h v) {s p : Nat} (hs : s < hS v) (hp : p < hP v) : fX2_worthTo h (nI s) (nI p) = some (nI (wv v s p)) := by
  have hP8 := ok.1
  have ht := (ok.2.2.2.1 p hp).1
  unfold fX2_worthTo
  rw [inR_nI (by omega) (by decide), gd_true, nI_clamp (by omega), (hx.2.2.2.1 p hp).1, worthIf_nI ok hx hs (by omega) (by omega)]
  rfl
theorem plain_nI {r : Rec} {n : Nat} {v : Hv} (ok : HvOK v) (hd : Hd r n v) {s p : Nat} (hs : s < hS v) (hp : p < hP v) : fX10_plain r (nI s) (nI p) = some (nI (wFull (hWt v s) (hKi v s) (hTa v p))) := by
  have hS10 := ok.2.1
  have hP8 := ok.1
  have hk := (ok.2.2.2.2.2.2.1 s hs)
  have ht := (ok.2.2.2.1 p hp).1
  obtain ⟨h0, h1, h2, h3, h4, hm⟩ := hd
  unfold fX10_plain bX10_plain_31
  rw [show (37 : Int32) + nI s = nI (37 + s) from nI_add 37 s, show (27 : Int32) + nI s = nI (27 + s) from nI_add 27 s, show (3 : Int32) + nI p = nI (3 + p) from nI_add 3 p, of_nI h1 h0 (by omega), of_nI h1 h0 (by omega), of_nI h1 h0 (by omega), bd_some, bd_some, bd_some, ← Nat.add_assoc, ← Nat.add_assoc, ← Nat.add_assoc, (hm.2.2.2.2.2.2.1 s hs).1, (hm.2.2.2.2.2.2.1 s hs).2, hm.2.2.2.1 p hp]
  unfold wFull
  by_cases e : hKi v s = hTa v p
  · rw [if_pos (by rw [e]), if_pos e, show nI (hWt v s) * 2 = nI (hWt v s * 2) from pk_mul _ 2, Nat.mul_comm]
  · rw [if_neg (fun h1 => e ((nI_eq (by omega) (by omega)).mp h1)), if_neg e, show nI (hWt v s) * 1 = nI (hWt v s * 1) from pk_mul _ 1, Nat.mul_one]
theorem worthNow_nI {r : Rec} {n : Nat} {v : Hv} (ok : HvOK v) (hd : Hd r n v) {s p : Nat} (hs : s < hS v) (hp : p < hP v) : fX10_worthNow r (nI s) (nI p) = some (nI (wv v s p)) := by
  have hS10 := ok.2.1
  have hP8 := ok.1
  unfold fX10_worthNow
  rw [inR_nI (by omega) (by decide), gd_true, nI_clamp (by omega), hd.2.2.2.2.1 p (by omega), has_nI (by have := kn_lt ok p; omega) (by omega), bd_some, plain_nI ok hd hs hp, bd_some, bd_some]
  unfold wv wHalf
  have hk := (ok.2.2.2.2.2.2.1 s hs)
  have hle : wFull (hWt v s) (hKi v s) (hTa v p) ≤ 60 := by unfold wFull; split <;> omega
  cases (hKn v p).testBit s
  · rfl
  · rw [if_neg (show ¬ (if true = true then (1 : Int32) else 0) = 0 by decide)]
    exact congrArg some (half_nI (by omega))
theorem ob_worth : Ob_worth Inv := by
  intro g a1 a2 a3 hI
  have m0 : MP (g 1001) (si (g 1001) 0 0) := MP.si _ _ _
  rcases house_cases hI a1 with ⟨h1, h2⟩ | ⟨n, v, hn, rfl, ok, hx, h1, h2, h3⟩
  · refine ⟨-1, _, ?_, ?_, hI.keep (XP.rf hI.1) m0⟩
    · unfold fX9_worth; rw [h1]; rfl
    · unfold fX10_worth; rw [bd_some, h2 _ m0]; rfl
  · obtain ⟨r', e1, hd, m1⟩ := h3 _ m0
    have ex : ∀ w : Option Int32, (fX2_hasSecret (g (200 + n)) a2).bind (fun z4 => if z4 = 0 then some (-1) else (fX2_hasPiece (g (200 + n)) a3).bind fun z5 => if z5 = 0 then some (-1) else (fX2_worthTo (g (200 + n)) a2 a3).bind fun z6 => some z6) = w → fX9_worth g (nI n) a2 a3 = w := by
      intro w hw
      unfold fX9_worth
      rw [h1, bd_some]
      show gd (isHm (200 + n)) _ = _
      rw [h2, gd_true]
      exact hw
    have em : ∀ w : Option (Rec × Int32), (fX10_isSecret r' a2).bind (fun z3 => if z3 = 0 then some ((r', (-1))) else (fX10_isPiece r' a3).bind fun z4 => if z4 = 0 then some ((r', (-1))) else (fX10_worthNow r' a2 a3).bind fun z5 => some ((r', z5))) = w → fX10_worth (g 1001) (nI n) a2 a3 = w := by
      intro w hw
      unfold fX10_worth
      rw [bd_some, e1, bd_some]
      exact hw
    have hS10 := ok.2.1
    have hP8 := ok.1
    rcases secret_cases hx.2.1 hd.2.2.2.1 hS10 a2 with ⟨s1, s2⟩ | ⟨s, hs, rfl, s1, s2⟩
    · exact ⟨-1, r', ex _ (by rw [s1]; rfl), em _ (by rw [s2]; rfl), hI.keep (XP.rf hI.1) (m0.tr m1)⟩
    · rcases piece_cases hx.1 hd.2.2.1 hP8 a3 with ⟨p1, p2⟩ | ⟨p, hp, rfl, p1, p2⟩
      · exact ⟨-1, r', ex _ (by rw [s1, bd_some, p1]; rfl), em _ (by rw [s2, bd_some, p2]; rfl), hI.keep (XP.rf hI.1) (m0.tr m1)⟩
      · exact ⟨nI (wv v s p), r', ex _ (by rw [s1, bd_some, p1, bd_some, worthTo_nI ok hx hs hp]; rfl), em _ (by rw [s2, bd_some, p2, bd_some, worthNow_nI ok hd hs hp]; rfl), hI.keep (XP.rf hI.1) (m0.tr m1)⟩
