theorem ob_fault : Ob_fault Inv := by
  intro g a1 hI
  have hb := hI.2.1
  by_cases h0 : a1 = 0
  · refine ⟨gi (g 800) 2, si (g 1001) 0 0, ?_, ?_, hI.keep (XP.rf hI.1) (MP.si _ _ _)⟩
    · unfold fX9_fault; rw [if_pos h0]
    · unfold fX10_fault; rw [bd_some, if_pos h0]; rw [show gi (g 800) 2 = ga (g 1001) 3 0 from hb.2.2.1]; rfl
  · by_cases h1 : a1 = 1
    · refine ⟨gi (g 800) 3, si (g 1001) 0 0, ?_, ?_, hI.keep (XP.rf hI.1) (MP.si _ _ _)⟩
      · unfold fX9_fault; rw [if_neg h0, if_pos h1]
      · unfold fX10_fault; rw [bd_some, if_neg h0, if_pos h1]; rw [show gi (g 800) 3 = ga (g 1001) 4 0 from hb.2.2.2.1]; rfl
    · refine ⟨-1, si (g 1001) 0 0, ?_, ?_, hI.keep (XP.rf hI.1) (MP.si _ _ _)⟩
      · unfold fX9_fault; rw [if_neg h0, if_neg h1]
      · unfold fX10_fault; rw [bd_some, if_neg h0, if_neg h1]
/-- an Int32 is below 0, or a Nat -/
theorem i32_cases (x : Int32) : x < 0 ∨ ∃ n : Nat, n < 2 ^ 31 ∧ x = nI n := by
  by_cases h : x < 0
  · exact Or.inl h
  · exact Or.inr (nI_of h)
theorem nI_nlt0 {n : Nat} (h : n < 2 ^ 31) : ¬ nI n < 0 := nI_pos h
theorem in_lt0 {x hi : Int32} (h : x < 0) : fX10_in x 0 hi = some 0 := by unfold fX10_in; rw [if_pos h]
theorem in_nI {n k : Nat} (hn : n < 2 ^ 31) (hk : k < 2 ^ 31) : fX10_in (nI n) 0 (nI k) = some (if n ≤ k then 1 else 0) := by
  unfold fX10_in
  rw [if_neg (nI_nlt0 hn)]
  by_cases h : n ≤ k
  · rw [if_neg (fun h1 => by have := (nI_ltI hk hn).mp h1; omega), if_pos h]
  · rw [if_pos ((nI_ltI hk hn).mpr (by omega)), if_neg h]
theorem ob_count : Ob_count Inv := by
  intro g a1 hI
  have hb := hI.2.1
  rcases i32_cases a1 with h | ⟨n, hn, rfl⟩
  · refine ⟨-2, si (g 1001) 0 0, ?_, ?_, hI.keep (XP.rf hI.1) (MP.si _ _ _)⟩
    · unfold fX9_count; rw [if_pos h]; rfl
    · unfold fX10_count; rw [bd_some, in_lt0 h]; rfl
  · by_cases h4 : n < 4
    · refine ⟨ga (g 800) 4 n, si (g 1001) 0 0, ?_, ?_, hI.keep (XP.rf hI.1) (MP.si _ _ _)⟩
      · unfold fX9_count
        rw [if_neg (nI_nlt0 hn), if_pos (show nI n < 4 from (nI_ltI (b := 4) hn (by decide)).mpr h4), inR_nI h4 (by decide), gd_true, nI_clamp hn]
      · unfold fX10_count
        rw [bd_some, show fX10_in (nI n) 0 3 = some 1 by rw [show (3 : Int32) = nI 3 from rfl, in_nI hn (by decide), if_pos (by omega)], bd_some, if_neg (by decide), inR_nI (by omega) (by decide), gd_true, nI_clamp hn, ga_si]
        obtain ⟨c, -, e1, e2⟩ := hb.2.2.2.2.1 n h4
        rw [show ga (g 800) 4 n = ga (g (800 + 0)) 4 n from rfl, e1, ← e2]
        simp
    · refine ⟨-2, si (g 1001) 0 0, ?_, ?_, hI.keep (XP.rf hI.1) (MP.si _ _ _)⟩
      · unfold fX9_count
        rw [if_neg (nI_nlt0 hn), if_neg (show ¬ nI n < 4 from fun h1 => h4 ((nI_ltI (b := 4) hn (by decide)).mp h1))]; rfl
      · unfold fX10_count
        rw [bd_some, show fX10_in (nI n) 0 3 = some 0 by rw [show (3 : Int32) = nI 3 from rfl, in_nI hn (by decide), if_neg (by omega)]]; rfl
/-! the tape -/
def bt (v sh : Int32) : Int32 := vp_nar .byte ((v >>> (sh &&& 31) : Int32).toInt8.toInt32)
def wr4 (f : Nat → Int32) (n : Nat) (v : Int32) : Nat → Int32 := upd (upd (upd (upd f n (bt v 24)) (n + 1) (bt v 16)) (n + 2) (bt v 8)) (n + 3) (bt v 0)
/-- a record that differs in one row and one int at most -/
def Oth (r r' : Rec) (a i : Nat) : Prop := (∀ k, k ≠ a → ga r' k = ga r k) ∧ (∀ k, k ≠ i → gi r' k = gi r k) ∧ (∀ k, gr r' k = gr r k)
theorem Oth.tr {r1 r2 r3 : Rec} {a i : Nat} (h : Oth r1 r2 a i) (k : Oth r2 r3 a i) : Oth r1 r3 a i := ⟨fun x hx => (k.1 x hx).trans (h.1 x hx), fun x hx => (k.2.1 x hx).trans (h.2.1 x hx), fun x => (k.2.2 x).trans (h.2.2 x)⟩
theorem app_step {r : Rec} {o n : Nat} {v : Int32} (sh : Int32) (hn : gi r 1 = nI n) (h : n < 600) (hs : ¬ sh < 0) : ∃ r', bX8_append_3 r o v sh = some (.inl (sh + (-8), r')) ∧ ga r' 0 = upd (ga r 0) n (bt v sh) ∧ gi r' 1 = nI (n + 1) ∧ Oth r r' 0 1 := by
  refine ⟨si (sa r 0 (upd (ga r 0) n (bt v sh))) 1 (nI (n + 1)), ?_, rfl, rfl, fun k hk => ?_, fun k hk => ?_, fun k => rfl⟩
  · unfold bX8_append_3
    rw [if_neg hs, hn, if_neg (show ¬ (600 : Int32) ≤ nI n from fun h1 => by have := (nI_leI (a := 600) (by decide) (by omega)).mp h1; omega), inR_nI h (by decide), gd_true, bd_some, bd_some, nI_clamp (by omega)]
    rw [show gi (sa r 0 (upd (ga r 0) n (vp_nar .byte ((v >>> (sh &&& 31) : Int32).toInt8.toInt32)))) 1 = nI n from hn, nI_1]
    rfl
  · show ga (sa r 0 _) k = _
    rw [ga_sa', if_neg hk]
  · rw [gi_si, if_neg hk]; rfl
theorem app_spec {r : Rec} {o n : Nat} (v : Int32) (hn : gi r 1 = nI n) (h : n + 4 ≤ 600) : ∃ r', fX8_append r o v = some r' ∧ ga r' 0 = wr4 (ga r 0) n v ∧ gi r' 1 = nI (n + 4) ∧ Oth r r' 0 1 := by
  obtain ⟨r1, a1, b1, c1, d1⟩ := app_step (o := o) (v := v) 24 hn (by omega) (by decide)
  obtain ⟨r2, a2, b2, c2, d2⟩ := app_step (o := o) (v := v) (24 + -8) c1 (by omega) (by decide)
  obtain ⟨r3, a3, b3, c3, d3⟩ := app_step (o := o) (v := v) (24 + -8 + -8) c2 (by omega) (by decide)
  obtain ⟨r4, a4, b4, c4, d4⟩ := app_step (o := o) (v := v) (24 + -8 + -8 + -8) c3 (by omega) (by decide)
  refine ⟨r4, ?_, ?_, c4, ((d1.tr d2).tr d3).tr d4⟩
  · unfold fX8_append
    refine (iter_step (step := fun st : Int32 × Rec => bX8_append_3 st.2 o v st.1) (s := (24, r)) (s' := (24 + -8, r1)) a1).trans ?_
    refine (iter_step (step := fun st : Int32 × Rec => bX8_append_3 st.2 o v st.1) (s := (24 + -8, r1)) (s' := (24 + -8 + -8, r2)) a2).trans ?_
    refine (iter_step (step := fun st : Int32 × Rec => bX8_append_3 st.2 o v st.1) (s := (24 + -8 + -8, r2)) (s' := (24 + -8 + -8 + -8, r3)) a3).trans ?_
    refine (iter_step (step := fun st : Int32 × Rec => bX8_append_3 st.2 o v st.1) (s := (24 + -8 + -8 + -8, r3)) (s' := (24 + -8 + -8 + -8 + -8, r4)) a4).trans ?_
    refine iter_end (step := fun st : Int32 × Rec => bX8_append_3 st.2 o v st.1) (s := (24 + -8 + -8 + -8 + -8, r4)) ?_
    show bX8_append_3 r4 o v (24 + -8 + -8 + -8 + -8) = _
    unfold bX8_append_3
    rw [if_pos (by decide)]
  · rw [b4, b3, b2, b1]; rfl
theorem four_step {r : Rec} {n : Nat} {v : Int32} (sh : Int32) (hn : ga r 2 0 = nI n) (h : n < 600) (hs : ¬ sh < 0) : ∃ r', bX10_four_3 r v sh = some (.inl (sh + (-8), r')) ∧ ga r' 1 = upd (ga r 1) n (bt v sh) ∧ ga r' 2 = upd (ga r 2) 0 (nI (n + 1)) ∧ (∀ k, k ≠ 1 → k ≠ 2 → ga r' k = ga r k) := by
  refine ⟨sa (sa r 1 (upd (ga r 1) n (bt v sh))) 2 (upd (ga r 2) 0 (nI (n + 1))), ?_, rfl, rfl, fun k h1 h2 => ?_⟩
  · unfold bX10_four_3
    rw [if_neg hs, bd_some, show ga r 2 (Int32.toNatClampNeg 0) = nI n from hn, inR_nI (by omega) (by decide), gd_true, bd_some, bd_some, nI_clamp (by omega)]
    rw [show ga (sa r 1 (upd (ga r 1) n (vp_nar .byte ((v >>> (sh &&& 31) : Int32).toInt8.toInt32)))) 2 (Int32.toNatClampNeg 0) = nI n from hn, nI_1]
    rfl
  · rw [ga_sa', if_neg h2, ga_sa', if_neg h1]
theorem upd_upd (f : Nat → Int32) (k : Nat) (x y : Int32) : upd (upd f k x) k y = upd f k y := by
  funext j
  by_cases h : j = k
  · simp [upd, h]
  · simp [upd, h]
theorem four_spec {r : Rec} {n : Nat} (v : Int32) (hn : ga r 2 0 = nI n) (h : n + 4 ≤ 600) : ∃ r', fX10_four r v = some r' ∧ ga r' 1 = wr4 (ga r 1) n v ∧ ga r' 2 = upd (ga r 2) 0 (nI (n + 4)) ∧ (∀ k, k ≠ 1 → k ≠ 2 → ga r' k = ga r k) := by
  obtain ⟨r1, a1, b1, c1, d1⟩ := four_step (v := v) 24 hn (by omega) (by decide)
  obtain ⟨r2, a2, b2, c2, d2⟩ := four_step (v := v) (24 + -8) (n := n + 1) (by rw [c1]; rfl) (by omega) (by decide)
  obtain ⟨r3, a3, b3, c3, d3⟩ := four_step (v := v) (24 + -8 + -8) (n := n + 2) (by rw [c2]; rfl) (by omega) (by decide)
  obtain ⟨r4, a4, b4, c4, d4⟩ := four_step (v := v) (24 + -8 + -8 + -8) (n := n + 3) (by rw [c3]; rfl) (by omega) (by decide)
  refine ⟨r4, ?_, ?_, ?_, fun k h1 h2 => by rw [d4 k h1 h2, d3 k h1 h2, d2 k h1 h2, d1 k h1 h2]⟩
  · unfold fX10_four
    refine (iter_step (step := fun st : Int32 × Rec => bX10_four_3 st.2 v st.1) (s := (24, r)) (s' := (24 + -8, r1)) a1).trans ?_
    refine (iter_step (step := fun st : Int32 × Rec => bX10_four_3 st.2 v st.1) (s := (24 + -8, r1)) (s' := (24 + -8 + -8, r2)) a2).trans ?_
    refine (iter_step (step := fun st : Int32 × Rec => bX10_four_3 st.2 v st.1) (s := (24 + -8 + -8, r2)) (s' := (24 + -8 + -8 + -8, r3)) a3).trans ?_
    refine (iter_step (step := fun st : Int32 × Rec => bX10_four_3 st.2 v st.1) (s := (24 + -8 + -8 + -8, r3)) (s' := (24 + -8 + -8 + -8 + -8, r4)) a4).trans ?_
    refine iter_end (step := fun st : Int32 × Rec => bX10_four_3 st.2 v st.1) (s := (24 + -8 + -8 + -8 + -8, r4)) ?_
    show bX10_four_3 r4 v (24 + -8 + -8 + -8 + -8) = _
    unfold bX10_four_3
    rw [if_pos (by decide)]
  · rw [b4, b3, b2, b1]; rfl
  · rw [c4, c3, c2, c1, upd_upd, upd_upd, upd_upd]
