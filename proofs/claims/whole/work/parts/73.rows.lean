theorem in_pred {n c : Nat} (hn : n < 2 ^ 31) (hc : c < 2 ^ 31) : fX10_in (nI n) 0 (nI c - 1) = some (if n < c then 1 else 0) := by
  by_cases h0 : c = 0
  · subst h0
    unfold fX10_in
    rw [if_neg (nI_nlt0 hn), if_pos (by
      rw [Int32.lt_iff_toInt_lt, nI_toInt hn]
      have : (nI 0 - 1 : Int32).toInt = -1 := by decide
      omega), if_neg (by omega)]
  · have e : nI c - 1 = nI (c - 1) := by
      have := nI_pred (c - 1)
      rw [show c - 1 + 1 = c by omega] at this
      exact this
    rw [e, in_nI hn (by omega)]
    by_cases h : n < c
    · rw [if_pos h, if_pos (by omega)]
    · rw [if_neg h, if_neg (by omega)]
theorem is_neg {r : Rec} {s : Nat} {x : Int32} (hs : s < 16) (h : x < 0) : fX10_is r (nI s) x = some 0 := by
  unfold fX10_is
  rw [inR_nI hs (by decide), gd_true, in_lt0 h]
  rfl
theorem is_nI {r : Rec} {s c n : Nat} (hs : s < 16) (hc : ga r 5 s = nI c) (hn : n < 2 ^ 31) (hc2 : c ≤ 2) : fX10_is r (nI s) (nI n) = some (if n < c then 1 else 0) := by
  unfold fX10_is
  rw [inR_nI hs (by decide), gd_true, nI_clamp (by omega), hc, in_pred hn (by omega), bd_some]
  by_cases h : n < c
  · rw [if_pos h]; rfl
  · rw [if_neg h]; rfl
/-- the class's rows of a sort -/
theorem rowsAt_neg {T : Rec} {s : Nat} {x : Int32} (hs1 : 1 ≤ s) (hs3 : s ≤ 3) (h : x < 0) : fX8_rowsAt T 800 (nI s) x = some none := by
  unfold fX8_rowsAt
  rw [if_neg (nI_nlt0 (by omega)), if_neg (show ¬ (4 : Int32) ≤ nI s from fun h1 => by have := (nI_leI (a := 4) (by decide) (by omega)).mp h1; omega), if_pos h]
theorem rowsAt_nI {T : Rec} {s c n : Nat} (hs1 : 1 ≤ s) (hs3 : s ≤ 3) (hc : ga T 4 s = nI c) (hn : n < 2 ^ 31) (hc2 : c ≤ 2) : fX8_rowsAt T 800 (nI s) (nI n) = some (if n < c then some (498 + 2 * s + n) else none) := by
  unfold fX8_rowsAt
  rw [if_neg (nI_nlt0 (by omega)), if_neg (show ¬ (4 : Int32) ≤ nI s from fun h1 => by have := (nI_leI (a := 4) (by decide) (by omega)).mp h1; omega), if_neg (nI_nlt0 hn), inR_nI (by omega) (by decide), gd_true, nI_clamp (by omega), hc]
  by_cases h : n < c
  · rw [if_pos ((nI_ltI hn (by omega)).mpr h), if_pos h, inR_nI (by omega) (by decide), gd_true, gd_true, gd_true, nI_clamp hn]
    rcases (show s = 1 ∨ s = 2 ∨ s = 3 by omega) with rfl | rfl | rfl
    · rw [if_pos (by decide)]; rfl
    · rw [if_neg (by decide), if_pos (by decide)]; rfl
    · rw [if_neg (by decide), if_neg (by decide), if_pos (by decide)]; rfl
  · rw [if_neg (fun h1 => h ((nI_ltI hn (by omega)).mp h1)), if_neg h]
theorem hasRow_neg {h : Rec} {x : Int32} (hx : x < 0) : fX5_hasRow h x = some 0 := by unfold fX5_hasRow; rw [if_pos hx]
theorem hasRow_nI {h : Rec} {n k : Nat} (hs : gi h 2 = nI n) (hn : n < 2 ^ 31) (hk : k < 2 ^ 31) : fX5_hasRow h (nI k) = some (if k < n then 1 else 0) := by
  unfold fX5_hasRow
  rw [if_neg (nI_nlt0 hk), hs]
  by_cases h : k < n
  · rw [if_neg (fun h1 => by have := (nI_leI hn hk).mp h1; omega), if_pos h]
  · rw [if_pos ((nI_leI hn hk).mpr (by omega)), if_neg h]
theorem cell_nI {h : Rec} {lim n k c : Nat} (hl : gi h 0 = nI lim) (hs : gi h 2 = nI n) (hn : n ≤ lim) (hlim : lim ≤ 40) (hk : k < n) (hc : c < 4) : fX5_cell h (nI k) (nI c) = some (ga h 1 (4 * k + c)) := by
  unfold fX5_cell
  rw [hasRow_nI hs (by omega) (by omega), if_pos hk, bd_some, if_neg (by decide), if_neg (nI_nlt0 (by omega)), if_neg (show ¬ (4 : Int32) ≤ nI c from fun h1 => by have := (nI_leI (a := 4) (by decide) (by omega)).mp h1; omega)]
  rw [show nI k * 4 + nI c = nI (4 * k + c) by rw [show (4 : Int32) = nI 4 from rfl, pk_mul, nI_add, Nat.mul_comm], hl, nI_clamp (by omega), inR_nI (by omega) (by omega), gd_true, nI_clamp (by omega)]
theorem isRw_of {s n : Nat} (hs1 : 1 ≤ s) (hs3 : s ≤ 3) (hn : n < 2) : isRw (498 + 2 * s + n) = true := by
  rcases (show s = 1 ∨ s = 2 ∨ s = 3 by omega) with rfl | rfl | rfl <;> rcases (show n = 0 ∨ n = 1 by omega) with rfl | rfl <;> rfl
theorem m1_ne {k : Nat} (hk : k < 2 ^ 31) : ¬ nI k = -1 := by
  intro h
  have h1 := congrArg Int32.toInt h
  rw [nI_toInt hk] at h1
  have : (-1 : Int32).toInt = -1 := by decide
  omega
theorem lt0_m1 {x : Int32} (h : x < 0) : x = -1 ∨ (¬ x = -1) := by
  by_cases e : x = -1
  · exact Or.inl e
  · exact Or.inr e
/-- the numbers of rows: the answer -/
def rowAns (n w : Nat) (x : Nat → Nat → Int32) (v1 v2 : Int32) : Int32 := if v1 = -1 then (if v2 = 0 then nI n else -2) else if v1 < 0 ∨ nI n ≤ v1 then -2 else if v2 < 0 ∨ nI w ≤ v2 then -2 else x v1.toNatClampNeg v2.toNatClampNeg
section RA
variable {n w k c : Nat} {x : Nat → Nat → Int32} {v1 v2 : Int32}
theorem ra_m1_0 : rowAns n w x (-1) 0 = nI n := by unfold rowAns; rw [if_pos rfl, if_pos rfl]
theorem ra_m1 (h : ¬ v2 = 0) : rowAns n w x (-1) v2 = -2 := by unfold rowAns; rw [if_pos rfl, if_neg h]
theorem ra_neg (h1 : ¬ v1 = -1) (h : v1 < 0) : rowAns n w x v1 v2 = -2 := by unfold rowAns; rw [if_neg h1, if_pos (Or.inl h)]
theorem ra_big (hn : n < 2 ^ 31) (hk : k < 2 ^ 31) (h : ¬ k < n) : rowAns n w x (nI k) v2 = -2 := by unfold rowAns; rw [if_neg (m1_ne hk), if_pos (Or.inr ((nI_leI hn hk).mpr (by omega)))]
theorem ra_k (hn : n < 2 ^ 31) (h : k < n) : ¬ (nI k < 0 ∨ nI n ≤ nI k) := fun h2 => h2.elim (nI_nlt0 (by omega)) (fun h3 => by have := (nI_leI hn (by omega)).mp h3; omega)
theorem ra_cneg (hn : n < 2 ^ 31) (h : k < n) (h2 : v2 < 0) : rowAns n w x (nI k) v2 = -2 := by unfold rowAns; rw [if_neg (m1_ne (by omega)), if_neg (ra_k hn h), if_pos (Or.inl h2)]
theorem ra_cbig (hn : n < 2 ^ 31) (h : k < n) (hw : w < 2 ^ 31) (hc : c < 2 ^ 31) (h2 : ¬ c < w) : rowAns n w x (nI k) (nI c) = -2 := by unfold rowAns; rw [if_neg (m1_ne (by omega)), if_neg (ra_k hn h), if_pos (Or.inr ((nI_leI hw hc).mpr (by omega)))]
theorem ra_in (hn : n < 2 ^ 31) (h : k < n) (hw : w < 2 ^ 31) (h2 : c < w) : rowAns n w x (nI k) (nI c) = x k c := by unfold rowAns; rw [if_neg (m1_ne (by omega)), if_neg (ra_k hn h), if_neg (ra_k hw h2), nI_clamp (by omega), nI_clamp (by omega)]
end RA
theorem rowNum_spec {g : Gs} {u n lim w : Nat} {x : Nat → Nat → Int32} (hl : gi (g u) 0 = nI lim) (hs : gi (g u) 2 = nI n) (hn : n ≤ lim) (hlim : lim ≤ 40) (hw : w ≤ 3) (hx : ∀ k, k < n → ∀ c, c < w → ga (g u) 1 (4 * k + c + 1) = x k c) (v1 v2 : Int32) :
    fX9_rowNumber g (some u) v1 v2 (nI w) = some (rowAns n w x v1 v2) := by
  show (if v1 = -1 then _ else _) = _
  by_cases h1 : v1 = -1
  · subst h1
    rw [if_pos rfl, hs]
    by_cases h2 : v2 = 0
    · subst h2; rw [if_pos rfl, ra_m1_0]
    · rw [if_neg h2, ra_m1 h2]
  · rw [if_neg h1]
    rcases i32_cases v1 with h | ⟨k, hk, rfl⟩
    · rw [hasRow_neg h, ra_neg h1 h]; rfl
    · rw [hasRow_nI hs (by omega) hk, bd_some]
      by_cases hkn : k < n
      · rw [if_pos hkn, if_neg (show ¬ (1 : Int32) = 0 by decide)]
        rcases i32_cases v2 with h | ⟨c, hc, rfl⟩
        · rw [if_pos h, ra_cneg (by omega) hkn h]
        · rw [if_neg (nI_nlt0 hc)]
          by_cases hcw : c < w
          · rw [if_pos ((nI_ltI hc (by omega)).mpr hcw), nI_1, cell_nI hl hs hn hlim hkn (by omega), bd_some, ra_in (by omega) hkn (by omega) hcw, show 4 * k + (c + 1) = 4 * k + c + 1 by omega, hx k hkn c hcw]
          · rw [if_neg (fun h2 => hcw ((nI_ltI hc (by omega)).mp h2)), ra_cbig (by omega) hkn (by omega) hc hcw]
      · rw [if_neg hkn, if_pos rfl, ra_big (by omega) hk hkn]
/-- the reference's way of it: 'how many' is D, a number is N -/
theorem rowM_spec {r1 : Rec} {D : Option Int32} {N : Option Int32} {n w : Nat} {x : Nat → Nat → Int32} {v1 v2 : Int32} (hn : n ≤ 40) (hw1 : 1 ≤ w) (hw : w ≤ 4) (hD : D = some (nI n)) (hN : ∀ k c : Nat, v1 = nI k → v2 = nI c → k < n → c < w → N = some (x k c)) :
    (if v1 = -1 then if v2 = 0 then D.bind fun z9 => some ((r1, z9)) else some ((r1, (-2))) else D.bind fun z3 => (fX10_in v1 0 (z3 - 1)).bind fun z4 => if z4 = 0 then some ((r1, (-2))) else (fX10_in v2 0 (nI (w - 1))).bind fun z5 => if z5 = 0 then some ((r1, (-2))) else N.bind fun z6 => some ((r1, z6))) = some ((r1, rowAns n w x v1 v2)) := by
  subst hD
  by_cases h1 : v1 = -1
  · subst h1
    rw [if_pos rfl]
    by_cases h2 : v2 = 0
    · subst h2; rw [if_pos rfl, ra_m1_0]; rfl
    · rw [if_neg h2, ra_m1 h2]
  · rw [if_neg h1, bd_some]
    rcases i32_cases v1 with h | ⟨k, hk, rfl⟩
    · rw [in_lt0 h, ra_neg h1 h]; rfl
    · rw [in_pred hk (by omega), bd_some]
      by_cases hkn : k < n
      · rw [if_pos hkn, if_neg (show ¬ (1 : Int32) = 0 by decide)]
        rcases i32_cases v2 with h | ⟨c, hc, rfl⟩
        · rw [in_lt0 h, ra_cneg (by omega) hkn h]; rfl
        · rw [in_nI hc (by omega), bd_some]
          by_cases hcw : c < w
          · rw [if_pos (show c ≤ w - 1 by omega), if_neg (show ¬ (1 : Int32) = 0 by decide), hN k c rfl rfl hkn hcw, ra_in (by omega) hkn (by omega) hcw]; rfl
          · rw [if_neg (show ¬ c ≤ w - 1 by omega), if_pos rfl, ra_cbig (by omega) hkn (by omega) hc hcw]
      · rw [if_neg hkn, if_pos rfl, ra_big (by omega) hk hkn]
/-- an index of a row, put together -/
theorem ix3 (a n b m k c : Nat) : nI a * nI n + nI b + nI m * nI k + nI c = nI (a * n + b + m * k + c) := by rw [pk_mul, pk_mul, nI_add, nI_add, nI_add]
theorem ob_dinner : Ob_dinner Inv := by
  intro g a1 a2 a3 hI
  have hb := hI.2.1
  obtain ⟨c, hc2, c1, c2⟩ := hb.2.2.2.2.1 2 (by decide)
  have c2 : ga (g 1001) 5 2 = nI c := c2
  have mp : MP (g 1001) (si (si (g 1001) 0 0) 35 a1) := (MP.si _ _ _).tr (MP.si _ _ _)
  have no : fX8_rowsAt (g 800) 800 2 a1 = some none → fX10_is (si (si (g 1001) 0 0) 35 a1) 2 a1 = some 0 → ∃ (v : Int32) (r : Rec), fX9_dinner g a1 a2 a3 = some v ∧ fX10_dinner (g 1001) a1 a2 a3 = some (r, v) ∧ Inv (ug g 1001 r) := by
    intro h1 h2
    refine ⟨-2, _, ?_, ?_, hI.keep (XP.rf hI.1) mp⟩
    · unfold fX9_dinner; rw [h1, bd_some]; rfl
    · unfold fX10_dinner fX10_hasTable; rw [bd_some, bd_some, h2]; rfl
  rcases i32_cases a1 with h | ⟨n, hn, rfl⟩
  · exact no (rowsAt_neg (s := 2) (by decide) (by decide) h) (is_neg (s := 2) (by decide) h)
  · by_cases hnc : n < c
    · obtain ⟨v, ok, dx, dm⟩ := hb.2.2.2.2.2.2.2.1 n (by omega)
      have dx : DX (g (502 + n)) v := dx
      have dm : DM (ga (g 1001) 8) (25 * n) v := by have := dm; rw [show 25 * (2 * 0 + n) = 25 * n by omega] at this; exact this
      have hk8 := ok.1
      refine ⟨rowAns v.1 3 v.2 a2 a3, si (si (g 1001) 0 0) 35 (nI n), ?_, ?_, hI.keep (XP.rf hI.1) mp⟩
      · unfold fX9_dinner
        rw [show fX8_rowsAt (g 800) 800 2 (nI n) = some (some (502 + n)) by have := rowsAt_nI (T := g 800) (s := 2) (by decide) (by decide) c1 hn hc2; rw [if_pos hnc] at this; exact this, bd_some]
        show gd (isRw (502 + n)) _ = _
        rw [show isRw (502 + n) = true from isRw_of (s := 2) (by decide) (by decide) (by omega), gd_true, show (3 : Int32) = nI 3 from rfl, rowNum_spec (lim := 8) (x := v.2) dx.1 dx.2.1 ok.1 (by decide) (by decide) dx.2.2 a2 a3, bd_some]
      · unfold fX10_dinner fX10_hasTable
        rw [bd_some, bd_some, show fX10_is (si (si (g 1001) 0 0) 35 (nI n)) 2 (nI n) = some 1 by have := is_nI (r := si (si (g 1001) 0 0) 35 (nI n)) (s := 2) (by decide) c2 hn hc2; rw [if_pos hnc] at this; exact this, bd_some]
        refine rowM_spec (w := 3) (by omega) (by decide) (by decide) ?_ (fun k q e1 e2 hk hq => ?_)
        · show fX10_dinners (si (si (g 1001) 0 0) 35 (nI n)) = _
          unfold fX10_dinners
          rw [show 25 * gi (si (si (g 1001) 0 0) 35 (nI n)) 35 = nI (25 * n) from pk_mul 25 n, inR_nI (by omega) (by decide), gd_true, nI_clamp (by omega)]
          exact congrArg some dm.1
        · subst e1; subst e2
          show fX10_dinnerOf (si (si (g 1001) 0 0) 35 (nI n)) (nI k) (nI q) = _
          unfold fX10_dinnerOf
          rw [show 25 * gi (si (si (g 1001) 0 0) 35 (nI n)) 35 + 1 + 3 * nI k + nI q = nI (25 * n + 1 + 3 * k + q) from ix3 25 n 1 3 k q, bd_some, inR_nI (by omega) (by decide), gd_true, nI_clamp (by omega)]
          exact congrArg some (dm.2 k hk q hq)
    · exact no (by have := rowsAt_nI (T := g 800) (s := 2) (by decide) (by decide) c1 hn hc2; rw [if_neg hnc] at this; exact this) (by have := is_nI (r := si (si (g 1001) 0 0) 35 (nI n)) (s := 2) (by decide) c2 hn hc2; rw [if_neg hnc] at this; exact this)
theorem ob_fact : Ob_fact Inv := by
  intro g a1 a2 a3 hI
  have hb := hI.2.1
  obtain ⟨c, hc2, c1, c2⟩ := hb.2.2.2.2.1 3 (by decide)
  have c2 : ga (g 1001) 5 3 = nI c := c2
  have mp : MP (g 1001) (si (si (g 1001) 0 0) 41 a1) := (MP.si _ _ _).tr (MP.si _ _ _)
  have no : fX8_rowsAt (g 800) 800 3 a1 = some none → fX10_is (si (si (g 1001) 0 0) 41 a1) 3 a1 = some 0 → ∃ (v : Int32) (r : Rec), fX9_fact g a1 a2 a3 = some v ∧ fX10_fact (g 1001) a1 a2 a3 = some (r, v) ∧ Inv (ug g 1001 r) := by
    intro h1 h2
    refine ⟨-2, _, ?_, ?_, hI.keep (XP.rf hI.1) mp⟩
    · unfold fX9_fact; rw [h1, bd_some]; rfl
    · unfold fX10_fact fX10_hasLog; rw [bd_some, bd_some, h2]; rfl
  rcases i32_cases a1 with h | ⟨n, hn, rfl⟩
  · exact no (rowsAt_neg (s := 3) (by decide) (by decide) h) (is_neg (s := 3) (by decide) h)
  · by_cases hnc : n < c
    · obtain ⟨v, ok, dx, dm⟩ := hb.2.2.2.2.2.2.2.2 n (by omega)
      have dx : LX (g (504 + n)) v := dx
      have dm : LM (ga (g 1001) 9) (17 * n) v := by have := dm; rw [show 17 * (2 * 0 + n) = 17 * n by omega] at this; exact this
      have hk8 := ok.1
      refine ⟨rowAns v.1 2 v.2 a2 a3, si (si (g 1001) 0 0) 41 (nI n), ?_, ?_, hI.keep (XP.rf hI.1) mp⟩
      · unfold fX9_fact
        rw [show fX8_rowsAt (g 800) 800 3 (nI n) = some (some (504 + n)) by have := rowsAt_nI (T := g 800) (s := 3) (by decide) (by decide) c1 hn hc2; rw [if_pos hnc] at this; exact this, bd_some]
        show gd (isRw (504 + n)) _ = _
        rw [show isRw (504 + n) = true from isRw_of (s := 3) (by decide) (by decide) (by omega), gd_true, show (2 : Int32) = nI 2 from rfl, rowNum_spec (lim := 8) (x := v.2) dx.1 dx.2.1 ok.1 (by decide) (by decide) dx.2.2 a2 a3, bd_some]
      · unfold fX10_fact fX10_hasLog
        rw [bd_some, bd_some, show fX10_is (si (si (g 1001) 0 0) 41 (nI n)) 3 (nI n) = some 1 by have := is_nI (r := si (si (g 1001) 0 0) 41 (nI n)) (s := 3) (by decide) c2 hn hc2; rw [if_pos hnc] at this; exact this, bd_some]
        have e17 : (17 : Int32) * nI n = nI (17 * n) := pk_mul 17 n
        have ed : ga (si (si (g 1001) 0 0) 41 (nI n)) 9 (17 * n) = nI v.1 := dm.1
        rw [show gd (isB 1) (some (si (si (g 1001) 0 0) 41 (nI n), (1 : Int32))) = some (si (si (g 1001) 0 0) 41 (nI n), 1) from rfl, bd_some]
        dsimp only
        rw [if_neg (show ¬ (1 : Int32) = 0 by decide), e17, inR_nI (show 17 * n < 136 by omega) (by decide), gd_true, gd_true, nI_clamp (show 17 * n < 2 ^ 31 by omega), ed]
        refine rowM_spec (D := some (nI v.1)) (w := 2) (N := fX10_factOf (si (si (g 1001) 0 0) 41 (nI n)) a2 a3) (by omega) (by decide) (by decide) rfl (fun k q e1 e2 hk hq => ?_)
        subst e1; subst e2
        unfold fX10_factOf
        rw [show 17 * gi (si (si (g 1001) 0 0) 41 (nI n)) 41 + 1 + 2 * nI k + nI q = nI (17 * n + 1 + 2 * k + q) from ix3 17 n 1 2 k q, bd_some, inR_nI (by omega) (by decide), gd_true, nI_clamp (by omega)]
        exact congrArg some (dm.2 k hk q hq)
    · exact no (by have := rowsAt_nI (T := g 800) (s := 3) (by decide) (by decide) c1 hn hc2; rw [if_neg hnc] at this; exact this) (by have := is_nI (r := si (si (g 1001) 0 0) 41 (nI n)) (s := 3) (by decide) c2 hn hc2; rw [if_neg hnc] at this; exact this)
theorem ob_deed : Ob_deed Inv := by
  intro g a1 a2 a3 hI
  have hb := hI.2.1
  obtain ⟨c, hc2, c1, c2⟩ := hb.2.2.2.2.1 1 (by decide)
  have c2 : ga (g 1001) 5 1 = nI c := c2
  have mp : MP (g 1001) (si (si (g 1001) 0 0) 29 a1) := (MP.si _ _ _).tr (MP.si _ _ _)
  have no : fX8_rowsAt (g 800) 800 1 a1 = some none → fX10_is (si (si (g 1001) 0 0) 29 a1) 1 a1 = some 0 → ∃ (v : Int32) (r : Rec), fX9_deed g a1 a2 a3 = some v ∧ fX10_deed (g 1001) a1 a2 a3 = some (r, v) ∧ Inv (ug g 1001 r) := by
    intro h1 h2
    refine ⟨-2, _, ?_, ?_, hI.keep (XP.rf hI.1) mp⟩
    · unfold fX9_deed; rw [h1, bd_some]; rfl
    · unfold fX10_deed fX10_hasMonth; rw [bd_some, bd_some, h2]; rfl
  rcases i32_cases a1 with h | ⟨n, hn, rfl⟩
  · exact no (rowsAt_neg (s := 1) (by decide) (by decide) h) (is_neg (s := 1) (by decide) h)
  · by_cases hnc : n < c
    · obtain ⟨v, ok, dx, dm⟩ := hb.2.2.2.2.2.2.1 n (by omega)
      have dx : MX (g (500 + n)) v := dx
      have dm : MM (ga (g 1001) 7) (161 * n) v := by have := dm; rw [show 161 * (2 * 0 + n) = 161 * n by omega] at this; exact this
      have hk8 := ok.1
      refine ⟨rowAns v.1 4 v.2 a2 a3, si (si (g 1001) 0 0) 29 (nI n), ?_, ?_, hI.keep (XP.rf hI.1) mp⟩
      · unfold fX9_deed
        rw [show fX8_rowsAt (g 800) 800 1 (nI n) = some (some (500 + n)) by have := rowsAt_nI (T := g 800) (s := 1) (by decide) (by decide) c1 hn hc2; rw [if_pos hnc] at this; exact this, bd_some]
        show gd (isRw (500 + n)) _ = _
        rw [show isRw (500 + n) = true from isRw_of (s := 1) (by decide) (by decide) (by omega), gd_true]
        by_cases h1 : a2 = -1
        · subst h1
          rw [if_pos rfl, dx.2.1]
          by_cases h2 : a3 = 0
          · subst h2; rw [if_pos rfl, ra_m1_0]
          · rw [if_neg h2, ra_m1 h2]
        · rw [if_neg h1]
          rcases i32_cases a2 with h | ⟨k, hk, rfl⟩
          · rw [hasRow_neg h, ra_neg h1 h]; rfl
          · rw [hasRow_nI dx.2.1 (by omega) hk, bd_some]
            by_cases hkn : k < v.1
            · rw [if_pos hkn, if_neg (show ¬ (1 : Int32) = 0 by decide)]
              rcases i32_cases a3 with h | ⟨q, hq, rfl⟩
              · rw [if_pos h, ra_cneg (by omega) hkn h]
              · rw [if_neg (nI_nlt0 hq)]
                by_cases hq4 : q < 4
                · rw [if_pos (show nI q ≤ 3 from (nI_leI (b := 3) hq (by decide)).mpr (by omega)), cell_nI dx.1 dx.2.1 ok.1 (by decide) hkn hq4, bd_some, ra_in (by omega) hkn (by decide) hq4]
                  by_cases h0 : q = 0
                  · subst h0
                    rw [if_pos (show nI 0 = 0 from rfl), show 4 * k + 0 = 4 * k from rfl, (dx.2.2 k hkn).1]
                    congr 1
                    rw [Int32.add_sub_cancel]
                  · rw [if_neg (show ¬ nI q = 0 from fun h2 => h0 ((nI_eq (b := 0) hq (by decide)).mp h2))]
                    have := (dx.2.2 k hkn).2 (q - 1) (by omega)
                    rw [show 4 * k + (q - 1) + 1 = 4 * k + q by omega, show q - 1 + 1 = q by omega] at this
                    rw [this]
                · rw [if_neg (show ¬ nI q ≤ 3 from fun h2 => by have := (nI_leI (b := 3) hq (by decide)).mp h2; omega), ra_cbig (by omega) hkn (by decide) hq hq4]
            · rw [if_neg hkn, if_pos rfl, ra_big (by omega) hk hkn]
      · unfold fX10_deed fX10_hasMonth
        rw [bd_some, bd_some, show fX10_is (si (si (g 1001) 0 0) 29 (nI n)) 1 (nI n) = some 1 by have := is_nI (r := si (si (g 1001) 0 0) 29 (nI n)) (s := 1) (by decide) c2 hn hc2; rw [if_pos hnc] at this; exact this, bd_some]
        refine rowM_spec (w := 4) (by omega) (by decide) (by decide) ?_ (fun k q e1 e2 hk hq => ?_)
        · show fX10_deeds (si (si (g 1001) 0 0) 29 (nI n)) = _
          unfold fX10_deeds
          rw [show 161 * gi (si (si (g 1001) 0 0) 29 (nI n)) 29 = nI (161 * n) from pk_mul 161 n, inR_nI (by omega) (by decide), gd_true, nI_clamp (by omega)]
          exact congrArg some dm.1
        · subst e1; subst e2
          show fX10_deedOf (si (si (g 1001) 0 0) 29 (nI n)) (nI k) (nI q) = _
          unfold fX10_deedOf
          rw [show 161 * gi (si (si (g 1001) 0 0) 29 (nI n)) 29 + 1 + 4 * nI k + nI q = nI (161 * n + 1 + 4 * k + q) from ix3 161 n 1 4 k q, bd_some, inR_nI (by omega) (by decide), gd_true, nI_clamp (by omega)]
          exact congrArg some (dm.2 k hk q hq)
    · exact no (by have := rowsAt_nI (T := g 800) (s := 1) (by decide) (by decide) c1 hn hc2; rw [if_neg hnc] at this; exact this) (by have := is_nI (r := si (si (g 1001) 0 0) 29 (nI n)) (s := 1) (by decide) c2 hn hc2; rw [if_neg hnc] at this; exact this)
