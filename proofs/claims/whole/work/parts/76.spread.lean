def fo {α : Type} (f : Nat → α → α) (a : α) : Nat → α
  | 0 => a
  | n + 1 => f n (fo f a n)
theorem or_nI (a b : Nat) : nI a ||| nI b = nI (a ||| b) := by
  apply Int32.toBitVec_inj.mp
  apply BitVec.eq_of_toNat_eq
  show ((nI a).toBitVec ||| (nI b).toBitVec).toNat = (nI (a ||| b)).toBitVec.toNat
  rw [BitVec.toNat_or]
  show a % 2 ^ 32 ||| b % 2 ^ 32 = (a ||| b) % 2 ^ 32
  exact (Nat.or_mod_two_pow).symm
theorem shl_nI : ∀ s, s < 31 → (1 : Int32) <<< (nI s &&& 31) = nI (2 ^ s) := by decide +kernel
theorem le_nI_iff {a b : Nat} (ha : a < 2 ^ 31) (hb : b < 2 ^ 31) : (nI a ≤ nI b) = (a ≤ b) := propext (nI_leI ha hb)
/-! spread -/
def cntK (v : Hv) (s : Nat) (n : Nat) : Nat := fo (fun p c => c + if (hKn v p).testBit s then 1 else 0) 0 n
theorem cntK_le (v : Hv) (s n : Nat) : cntK v s n ≤ n := by
  unfold cntK
  induction n with
  | zero => exact Nat.le_refl _
  | succ n ih => show fo _ 0 n + _ ≤ n + 1; split <;> omega
def setK (v : Hv) (many : Nat) (n : Nat) : Nat := fo (fun s z => z ||| if cntK v s (hP v) = many then 2 ^ s else 0) 0 n
theorem known_in {h : Rec} {v : Hv} (ok : HvOK v) (hx : HX h v) {x1 x2 : Int32} {s : Nat} (hs : s < hS v) : iter (fun st : Int32 × Int32 => bX2_knownBy_18 h x1 x2 (nI s) st.1 st.2) (0, 0) = bX2_knownBy_57 h x1 x2 (nI s) (nI (cntK v s (hP v))) := by
  have hS10 := ok.2.1
  have hP8 := ok.1
  have e := iter_seq (step := fun st : Int32 × Int32 => bX2_knownBy_18 h x1 x2 (nI s) st.1 st.2) (fun i => (nI (cntK v s i), nI i)) (hP v) (fun i hi => by
    show bX2_knownBy_18 h x1 x2 (nI s) (nI (cntK v s i)) (nI i) = _
    unfold bX2_knownBy_18 bX2_knownBy_48
    rw [hx.1, if_neg (fun h1 => by have := (nI_leI (by omega) (by omega)).mp h1; omega), inR_nI (by omega) (by decide), gd_true, nI_clamp (by omega), hx.2.2.2.2.1 i (by omega), hasBit_nI (by have := kn_lt ok i; omega) (by omega), bd_some, nI_1]
    show _ = some (Sum.inl (nI (cntK v s i + if (hKn v i).testBit s then 1 else 0), nI (i + 1)))
    cases (hKn v i).testBit s
    · rw [if_pos (show (if false = true then (1 : Int32) else 0) = 0 from rfl)]
      show some (Sum.inl (nI _ + 0, _)) = _
      rw [show (0 : Int32) = nI 0 from rfl, nI_add]
      rfl
    · rw [if_neg (show ¬ (if true = true then (1 : Int32) else 0) = 0 by decide), nI_1]
      rfl)
  rw [show ((0 : Int32), (0 : Int32)) = (nI (cntK v s 0), nI 0) from rfl, e]
  have hend : bX2_knownBy_18 h x1 x2 (nI s) (nI (cntK v s (hP v))) (nI (hP v)) = out1 (bX2_knownBy_57 h x1 x2 (nI s) (nI (cntK v s (hP v)))) := by
    unfold bX2_knownBy_18
    rw [hx.1, if_pos (show nI (hP v) ≤ nI (hP v) from (nI_leI (by omega) (by omega)).mpr (Nat.le_refl _))]
  have h57 : ∃ y, bX2_knownBy_57 h x1 x2 (nI s) (nI (cntK v s (hP v))) = some y := by
    unfold bX2_knownBy_57 bX2_knownBy_71
    split
    · exact ⟨_, rfl⟩
    · exact ⟨_, rfl⟩
  obtain ⟨y, hy⟩ := h57
  rw [hy] at hend ⊢
  exact iter_end hend
theorem knownBy_nI {h : Rec} {v : Hv} (ok : HvOK v) (hx : HX h v) {m : Nat} (hm : m ≤ 8) : fX2_knownBy h (nI m) = some (nI (setK v m (hS v))) := by
  have hS10 := ok.2.1
  have hP8 := ok.1
  unfold fX2_knownBy
  refine iter_count (step := fun st : Int32 × Int32 => bX2_knownBy_4 h (nI m) st.1 st.2) (fun i => (nI (setK v m i), nI i)) (hS v) (fun i hi => ?_) ?_
  · show bX2_knownBy_4 h (nI m) (nI (setK v m i)) (nI i) = _
    unfold bX2_knownBy_4
    rw [hx.2.1, if_neg (fun h1 => by have := (nI_leI (by omega) (by omega)).mp h1; omega), known_in ok hx hi]
    unfold bX2_knownBy_57 bX2_knownBy_71
    have hc := cntK_le v i (hP v)
    show _ = some (Sum.inl (nI (setK v m i ||| if cntK v i (hP v) = m then 2 ^ i else 0), nI (i + 1)))
    by_cases e : cntK v i (hP v) = m
    · rw [if_pos (by rw [e]), if_pos e, shl_nI i (by omega), or_nI, nI_1]
    · rw [if_neg (fun h1 => e ((nI_eq (by omega) (by omega)).mp h1)), if_neg e, show (0 : Int32) = nI 0 from rfl, or_nI, nI_1]
  · show bX2_knownBy_4 h (nI m) (nI (setK v m (hS v))) (nI (hS v)) = _
    unfold bX2_knownBy_4
    rw [hx.2.1, if_pos (show nI (hS v) ≤ nI (hS v) from (nI_leI (by omega) (by omega)).mpr (Nat.le_refl _))]
theorem spread_in {r : Rec} {n : Nat} {v : Hv} (ok : HvOK v) (hd : Hd r n v) {x2 x3 : Int32} {s : Nat} (hs : s < hS v) : iter (fun st : Int32 × Int32 => bX10_spread_44 r x2 x3 (nI s) st.1 st.2) (0, 0) = bX10_spread_84 r x2 x3 (nI s) (nI (cntK v s (hP v))) := by
  have hS10 := ok.2.1
  have hP8 := ok.1
  have e := iter_seq (step := fun st : Int32 × Int32 => bX10_spread_44 r x2 x3 (nI s) st.1 st.2) (fun i => (nI (cntK v s i), nI i)) (hP v) (fun i hi => by
    show bX10_spread_44 r x2 x3 (nI s) (nI (cntK v s i)) (nI i) = _
    unfold bX10_spread_44 bX10_spread_75
    rw [hd.2.2.1, if_neg (fun h1 => by have := (nI_leI (by omega) (by omega)).mp h1; omega), inR_nI (by omega) (by decide), gd_true, nI_clamp (by omega), hd.2.2.2.2.1 i (by omega), has_nI (by have := kn_lt ok i; omega) (by omega), bd_some, nI_1]
    show _ = some (Sum.inl (nI (cntK v s i + if (hKn v i).testBit s then 1 else 0), nI (i + 1)))
    cases (hKn v i).testBit s
    · rw [if_pos (show (if false = true then (1 : Int32) else 0) = 0 from rfl)]
      show some (Sum.inl (nI _ + 0, _)) = _
      rw [show (0 : Int32) = nI 0 from rfl, nI_add]
      rfl
    · rw [if_neg (show ¬ (if true = true then (1 : Int32) else 0) = 0 by decide), nI_1]
      rfl)
  rw [show ((0 : Int32), (0 : Int32)) = (nI (cntK v s 0), nI 0) from rfl, e]
  have hend : bX10_spread_44 r x2 x3 (nI s) (nI (cntK v s (hP v))) (nI (hP v)) = out1 (bX10_spread_84 r x2 x3 (nI s) (nI (cntK v s (hP v)))) := by
    unfold bX10_spread_44
    rw [hd.2.2.1, if_pos (show nI (hP v) ≤ nI (hP v) from (nI_leI (by omega) (by omega)).mpr (Nat.le_refl _))]
  have h57 : ∃ y, bX10_spread_84 r x2 x3 (nI s) (nI (cntK v s (hP v))) = some y := by
    unfold bX10_spread_84 bX10_spread_101 bX10_spread_112
    split <;> split <;> exact ⟨_, rfl⟩
  obtain ⟨y, hy⟩ := h57
  rw [hy] at hend ⊢
  exact iter_end hend
theorem spreadM {r : Rec} {n : Nat} {v : Hv} (ok : HvOK v) (hd : Hd r n v) {x : Int32} {m : Nat} (hm : m ≤ 8) (hxm : (if x = 0 then gi r 26 else x - 1) = nI m) : iter (fun st : Int32 × Int32 => bX10_spread_29 r x st.1 st.2) (0, 0) = some (r, nI (setK v m (hS v))) := by
  have hS10 := ok.2.1
  have hP8 := ok.1
  refine iter_count (step := fun st : Int32 × Int32 => bX10_spread_29 r x st.1 st.2) (fun i => (nI (setK v m i), nI i)) (hS v) (fun i hi => ?_) ?_
  · show bX10_spread_29 r x (nI (setK v m i)) (nI i) = _
    unfold bX10_spread_29
    rw [hd.2.2.2.1, if_neg (fun h1 => by have := (nI_leI (by omega) (by omega)).mp h1; omega), spread_in ok hd hi]
    have key : bX10_spread_84 r x (nI (setK v m i)) (nI i) (nI (cntK v i (hP v))) = bX10_spread_101 r x (nI i) (nI m) (nI (cntK v i (hP v))) (nI (setK v m i)) := by
      unfold bX10_spread_84
      by_cases e : x = 0
      · rw [if_pos e] at hxm ⊢; rw [hxm]
      · rw [if_neg e] at hxm ⊢; rw [hxm]
    rw [key]
    unfold bX10_spread_101 bX10_spread_112
    have hc := cntK_le v i (hP v)
    show _ = some (Sum.inl (nI (setK v m i ||| if cntK v i (hP v) = m then 2 ^ i else 0), nI (i + 1)))
    by_cases e : cntK v i (hP v) = m
    · rw [if_pos (by rw [e]), if_pos e, shl_nI i (by omega), or_nI, nI_1]
    · rw [if_neg (fun h1 => e ((nI_eq (by omega) (by omega)).mp h1)), if_neg e, show (0 : Int32) = nI 0 from rfl, or_nI, nI_1]
  · show bX10_spread_29 r x (nI (setK v m (hS v))) (nI (hS v)) = _
    unfold bX10_spread_29
    rw [hd.2.2.2.1, if_pos (show nI (hS v) ≤ nI (hS v) from (nI_leI (by omega) (by omega)).mpr (Nat.le_refl _))]
theorem ob_spread : Ob_spread Inv := by
  intro g a1 a2 hI
  have m0 : MP (g 1001) (si (g 1001) 0 0) := MP.si _ _ _
  rcases house_cases hI a1 with ⟨h1, h2⟩ | ⟨n, v, hn, rfl, ok, hx, h1, h2, h3⟩
  · refine ⟨-1, _, ?_, ?_, hI.keep (XP.rf hI.1) m0⟩
    · unfold fX9_spread; rw [h1]; rfl
    · unfold fX10_spread; rw [bd_some, h2 _ m0]; rfl
  · obtain ⟨r', e1, hd, m1⟩ := h3 _ m0
    have hP8 := ok.1
    have ex : ∀ w : Option Int32, (if a2 = 0 then (fX2_knownBy (g (200 + n)) (gi (g (200 + n)) 0)).bind fun z4 => some (z4) else if a2 = 1 then (fX2_knownBy (g (200 + n)) 0).bind fun z5 => some (z5) else if a2 = 2 then (fX2_knownBy (g (200 + n)) 1).bind fun z6 => some (z6) else some (-1)) = w → fX9_spread g (nI n) a2 = w := by
      intro w hw
      unfold fX9_spread
      rw [h1, bd_some]
      show gd (isHm (200 + n)) _ = _
      rw [h2, gd_true]
      exact hw
    have em : ∀ w : Option (Rec × Int32), (fX10_in a2 0 2).bind (fun z11 => if z11 = 0 then some ((r', (-1))) else iter (fun st : Int32 × Int32 => bX10_spread_29 r' a2 st.1 st.2) (0, 0)) = w → fX10_spread (g 1001) (nI n) a2 = w := by
      intro w hw
      unfold fX10_spread
      rw [bd_some, e1, bd_some]
      exact hw
    by_cases c0 : a2 = 0
    · subst c0
      exact ⟨nI (setK v (hP v) (hS v)), r', ex _ (by rw [if_pos rfl, hx.1, knownBy_nI ok hx hP8]; rfl), em _ (by rw [show fX10_in 0 0 2 = some 1 from rfl, bd_some, if_neg (by decide), spreadM ok hd hP8 (by rw [if_pos rfl]; exact hd.2.2.1)]), hI.keep (XP.rf hI.1) (m0.tr m1)⟩
    · by_cases c1 : a2 = 1
      · subst c1
        exact ⟨nI (setK v 0 (hS v)), r', ex _ (by rw [if_neg (by decide), if_pos rfl, show (0 : Int32) = nI 0 from rfl, knownBy_nI ok hx (by decide)]; rfl), em _ (by rw [show fX10_in 1 0 2 = some 1 from rfl, bd_some, if_neg (by decide), spreadM (m := 0) ok hd (by decide) (by rw [if_neg (by decide)]; rfl)]), hI.keep (XP.rf hI.1) (m0.tr m1)⟩
      · by_cases c2 : a2 = 2
        · subst c2
          exact ⟨nI (setK v 1 (hS v)), r', ex _ (by rw [if_neg (by decide), if_neg (by decide), if_pos rfl, show (1 : Int32) = nI 1 from rfl, knownBy_nI ok hx (by decide)]; rfl), em _ (by rw [show fX10_in 2 0 2 = some 1 from rfl, bd_some, if_neg (by decide), spreadM (m := 1) ok hd (by decide) (by rw [if_neg (by decide)]; rfl)]), hI.keep (XP.rf hI.1) (m0.tr m1)⟩
        · refine ⟨-1, r', ex _ (by rw [if_neg c0, if_neg c1, if_neg c2]), em _ ?_, hI.keep (XP.rf hI.1) (m0.tr m1)⟩
          have : fX10_in a2 0 2 = some 0 := by
            rcases i32_cases a2 with h | ⟨k, hk, rfl⟩
            · exact in_lt0 h
            · rw [show (2 : Int32) = nI 2 from rfl, in_nI hk (by decide), if_neg (fun h => by
                rcases (show k = 0 ∨ k = 1 ∨ k = 2 by omega) with rfl | rfl | rfl
                · exact c0 rfl
                · exact c1 rfl
                · exact c2 rfl)]
          rw [this]
          rfl
