theorem gq_heavy {b : Nat → Nat} {W w : Nat} (h : W < w) : ∀ n e l, gq b W w n e l = 1000000
  | 0, _, _ => rfl
  | n + 1, e, l => by
    by_cases h1 : 10 ≤ e
    · exact gq_far h1
    · rw [gq_nx (by omega) (by omega)]
      exact gq_heavy h n _ _
theorem fD_heavy {v : Hv} {b : Nat → Nat} {W s0 : Nat} (h : W < hWt v s0) : ∀ T, T.testBit s0 = true → fD v b W T = 1000000 := by
  intro T
  induction T using Nat.strongRecOn with
  | ind T ih =>
    intro hT
    have h0 : T ≠ 0 := fun q => by rw [q, Nat.zero_testBit] at hT; cases hT
    obtain ⟨-, -, e | ⟨s, hs, ⟨c1, c2⟩, e⟩⟩ := fD_mn (v := v) (b := b) (W := W) h0
    · exact e
    · by_cases q : s = s0
      · rw [e, q]
        exact gq_heavy h _ _ _
      · have h1 : (andn T (2 ^ s)).testBit s0 = true := by rw [dl_bit, hT]; simp [q]
        have := ih _ (dl_lt c1) h1
        omega
theorem bit_ex {T S : Nat} (h : T ≠ 0) (hT : T < 2 ^ S) : ∃ s, s < S ∧ T.testBit s = true := by
  obtain ⟨s, hs⟩ := Nat.exists_testBit_of_ne_zero h
  refine ⟨s, ?_, hs⟩
  apply Classical.byContradiction
  intro q
  have : T.testBit s = false := Nat.testBit_lt_two_pow (Nat.lt_of_lt_of_le hT (Nat.pow_le_pow_right (by decide) (by omega)))
  rw [this] at hs
  cases hs
theorem bit_lt {T S s : Nat} (hT : T < 2 ^ S) (hs : T.testBit s = true) : s < S := by
  apply Classical.byContradiction
  intro q
  have : T.testBit s = false := Nat.testBit_lt_two_pow (Nat.lt_of_lt_of_le hT (Nat.pow_le_pow_right (by decide) (by omega)))
  rw [this] at hs
  cases hs
theorem pkD_mn {v : Hv} {W T : Nat} (h : T ≠ 0) : MnC 1408 (fun s => T.testBit s = true) (fun s => adN W (pkD v W (andn T (2 ^ s))) (hWt v s)) (hS v) (pkD v W T) := by
  rw [pkD_s h]
  refine fo_mn (fun s a hc => ?_) (fun s a hc => ?_) _
  · unfold pkS; rw [if_pos hc]
  · unfold pkS; rw [if_neg hc]
/-- both tables say the same, where no secret is too heavy -/
theorem pk_fD {v : Hv} (ok : HvOK v) {W : Nat} (hW1 : 1 ≤ W) (hW : W ≤ 99) (hw : ∀ s, s < hS v → hWt v s ≤ W) : ∀ T, T < 2 ^ hS v → T ≠ 0 → fD v (fun _ => 0) W T ≤ 999 ∧ fD v (fun _ => 0) W T / 100 + 1 ≤ pc T ∧ pkD v W T = 128 * (fD v (fun _ => 0) W T / 100 + 1) + fD v (fun _ => 0) W T % 100 := by
  intro T
  induction T using Nat.strongRecOn with
  | ind T ih =>
    intro hT h0
    have hS10 := ok.2.1
    have h10 : 2 ^ hS v ≤ 2 ^ 10 := Nat.pow_le_pow_right (by decide) hS10
    have X : ∀ s, s < hS v → T.testBit s = true → fD v (fun _ => 0) W (andn T (2 ^ s)) < 1000000 ∧ stq (fun _ => 0) W (fD v (fun _ => 0) W (andn T (2 ^ s))) (hWt v s) ≤ 999 ∧ stq (fun _ => 0) W (fD v (fun _ => 0) W (andn T (2 ^ s))) (hWt v s) / 100 + 1 ≤ pc T ∧ adN W (pkD v W (andn T (2 ^ s))) (hWt v s) = 128 * (stq (fun _ => 0) W (fD v (fun _ => 0) W (andn T (2 ^ s))) (hWt v s) / 100 + 1) + stq (fun _ => 0) W (fD v (fun _ => 0) W (andn T (2 ^ s))) (hWt v s) % 100 := by
      intro s hs c
      have hd := dl_lt c
      have hpc := pc_sub (Sub.rf T).dl (Nat.lt_of_lt_of_le hT h10) (Nat.ne_of_lt hd)
      have hpl := pc_le T
      have hws := hw s hs
      have hw1 := (ok.2.2.2.2.2.2.1 s hs).2
      unfold stq
      by_cases z : andn T (2 ^ s) = 0
      · rw [z]
        have e1 : fD v (fun _ => 0) W 0 = 0 := rfl
        have e2 : pkD v W 0 = W := rfl
        rw [e1, e2, gq_fit (by omega) (by omega)]
        unfold adN
        rw [if_pos (by omega)]
        omega
      · obtain ⟨i1, i2, i3⟩ := ih _ hd (by omega) z
        rw [i3]
        generalize fD v (fun _ => 0) W (andn T (2 ^ s)) = q at i1 i2 i3 ⊢
        by_cases f : q % 100 + hWt v s ≤ W
        · rw [gq_fit (by omega) f]
          unfold adN
          rw [if_neg (by omega)]
          omega
        · rw [gq_nx (by omega) (by omega), show (if 10 ≤ q / 100 + 1 then 0 else (fun _ : Nat => 0) (q / 100 + 1)) = 0 by split <;> rfl, gq_fit (by omega) (by omega)]
          unfold adN
          rw [if_pos (by omega)]
          omega
    obtain ⟨f1, f2, f3⟩ := fD_mn (v := v) (b := fun _ => 0) (W := W) h0
    obtain ⟨k1, k2, k3⟩ := pkD_mn (v := v) (W := W) h0
    obtain ⟨t, ht1, ht2⟩ := bit_ex h0 hT
    obtain ⟨x1, x2, x3, x4⟩ := X t ht1 ht2
    have y1 := f2 t ht1 ⟨ht2, x1⟩
    dsimp only at y1
    rcases f3 with e | ⟨s, hs, ⟨c1, c2⟩, e⟩
    · omega
    · obtain ⟨z1, z2, z3, z4⟩ := X s hs c1
      dsimp only at e
      rw [← e] at z2 z3 z4
      refine ⟨z2, z3, ?_⟩
      have y2 := k2 s hs c1
      dsimp only at y2
      rw [z4] at y2
      rcases k3 with e3 | ⟨p, hp, c3, e3⟩
      · omega
      · obtain ⟨w1, w2, w3, w4⟩ := X p hp c3
        dsimp only at e3
        rw [w4] at e3
        have y3 := f2 p hp ⟨c3, w1⟩
        dsimp only at y3
        omega
theorem all_bit {S s : Nat} (h : s < S) : (2 ^ S - 1).testBit s = true := by
  rw [Nat.testBit_two_pow_sub_one]
  exact decide_eq_true h
theorem told_loop {h : Rec} {v : Hv} (ok : HvOK v) (hx : HX h v) {W : Nat} (hW : W ≤ 99) : ∀ k i, i + k = hS v → ((∃ s, i ≤ s ∧ s < hS v ∧ W < hWt v s) ∧ iter (fun st : Int32 => bX2_mayBeTold_15 h (nI W) st) (nI i) = some (nI 0)) ∨ ((∀ s, i ≤ s → s < hS v → hWt v s ≤ W) ∧ iter (fun st : Int32 => bX2_mayBeTold_15 h (nI W) st) (nI i) = some (nI 1)) := by
  have hS10 := ok.2.1
  intro k
  induction k with
  | zero =>
    intro i hi
    refine Or.inr ⟨fun s h1 h2 => by omega, ?_⟩
    refine iter_end (step := fun st : Int32 => bX2_mayBeTold_15 h (nI W) st) (s := nI i) ?_
    show bX2_mayBeTold_15 h (nI W) (nI i) = _
    unfold bX2_mayBeTold_15
    simp (disch := omega) only [hx.S, bd_some, gd_true, inR_nI, nI_clamp, nI_add, pk_mul, pk_sub, leT, leF, ltT, ltF, eqT, eqF, ite_true, ite_false, reduceIte, nz_nI, oc_s, oc_n, pk_div, pk_rem, m1F, L0, L1, L2, L3, L4, L5, L6, L7, L8, L9, L10, L11, L12, L19, L20, L24, L25, L27, L28, L30, L32, L37, L39, L40, L47, L48, L50, L55, L57, L60, L61, L63, L71, L80, L97, L99, L100, L120, L122, L128, L161, L17, L600, L1000000, L1024, L1408, isB0, isB1, subdm, inT, inFl, inFh]
  | succ k ih =>
    intro i hi
    have hw := (ok.2.2.2.2.2.2.1 i (by omega)).2
    have hwt := hx.wt (s := i) (by omega)
    by_cases c : hWt v i ≤ W
    · have hst : iter (fun st : Int32 => bX2_mayBeTold_15 h (nI W) st) (nI i) = iter (fun st : Int32 => bX2_mayBeTold_15 h (nI W) st) (nI (i + 1)) := by
        refine iter_step (step := fun st : Int32 => bX2_mayBeTold_15 h (nI W) st) (s := nI i) (s' := nI (i + 1)) ?_
        show bX2_mayBeTold_15 h (nI W) (nI i) = _
        unfold bX2_mayBeTold_15
        simp (disch := omega) only [hx.S, hwt, bd_some, gd_true, inR_nI, nI_clamp, nI_add, pk_mul, pk_sub, leT, leF, ltT, ltF, eqT, eqF, ite_true, ite_false, reduceIte, nz_nI, oc_s, oc_n, pk_div, pk_rem, m1F, L0, L1, L2, L3, L4, L5, L6, L7, L8, L9, L10, L11, L12, L19, L20, L24, L25, L27, L28, L30, L32, L37, L39, L40, L47, L48, L50, L55, L57, L60, L61, L63, L71, L80, L97, L99, L100, L120, L122, L128, L161, L17, L600, L1000000, L1024, L1408, isB0, isB1, subdm, inT, inFl, inFh]
      rw [hst]
      rcases ih (i + 1) (by omega) with ⟨⟨s, s1, s2, s3⟩, e⟩ | ⟨s1, e⟩
      · exact Or.inl ⟨⟨s, by omega, s2, s3⟩, e⟩
      · refine Or.inr ⟨fun s h1 h2 => ?_, e⟩
        by_cases q : s = i
        · subst q; exact c
        · exact s1 s (by omega) h2
    · refine Or.inl ⟨⟨i, Nat.le_refl _, by omega, by omega⟩, ?_⟩
      refine iter_end (step := fun st : Int32 => bX2_mayBeTold_15 h (nI W) st) (s := nI i) ?_
      show bX2_mayBeTold_15 h (nI W) (nI i) = _
      unfold bX2_mayBeTold_15
      simp (disch := omega) only [hx.S, hwt, bd_some, gd_true, inR_nI, nI_clamp, nI_add, pk_mul, pk_sub, leT, leF, ltT, ltF, eqT, eqF, ite_true, ite_false, reduceIte, nz_nI, oc_s, oc_n, pk_div, pk_rem, m1F, L0, L1, L2, L3, L4, L5, L6, L7, L8, L9, L10, L11, L12, L19, L20, L24, L25, L27, L28, L30, L32, L37, L39, L40, L47, L48, L50, L55, L57, L60, L61, L63, L71, L80, L97, L99, L100, L120, L122, L128, L161, L17, L600, L1000000, L1024, L1408, isB0, isB1, subdm, inT, inFl, inFh]
theorem told_cases {h : Rec} {v : Hv} (ok : HvOK v) (hx : HX h v) (x : Int32) : (fX2_mayBeTold h x = some (nI 0) ∧ fX10_in x (nI 1) (nI 99) = some (nI 0)) ∨ ∃ W, 1 ≤ W ∧ W ≤ 99 ∧ x = nI W ∧ fX10_in x (nI 1) (nI 99) = some (nI 1) ∧ ((fX2_mayBeTold h x = some (nI 0) ∧ ∃ s, s < hS v ∧ W < hWt v s) ∨ (fX2_mayBeTold h x = some (nI 1) ∧ ∀ s, s < hS v → hWt v s ≤ W)) := by
  rcases rng x 99 with k | ⟨m, k, k2, rfl⟩ | ⟨m, k, k2, rfl⟩
  · refine Or.inl ⟨?_, in_neg k (by decide)⟩
    unfold fX2_mayBeTold
    simp (disch := omega) only [neg1 k, bd_some, gd_true, inR_nI, nI_clamp, nI_add, pk_mul, pk_sub, leT, leF, ltT, ltF, eqT, eqF, ite_true, ite_false, reduceIte, nz_nI, oc_s, oc_n, pk_div, pk_rem, m1F, L0, L1, L2, L3, L4, L5, L6, L7, L8, L9, L10, L11, L12, L19, L20, L24, L25, L27, L28, L30, L32, L37, L39, L40, L47, L48, L50, L55, L57, L60, L61, L63, L71, L80, L97, L99, L100, L120, L122, L128, L161, L17, L600, L1000000, L1024, L1408, isB0, isB1, subdm, inT, inFl, inFh]
  · refine Or.inl ⟨?_, inFh k k2⟩
    unfold fX2_mayBeTold
    simp (disch := omega) only [bd_some, gd_true, inR_nI, nI_clamp, nI_add, pk_mul, pk_sub, leT, leF, ltT, ltF, eqT, eqF, ite_true, ite_false, reduceIte, nz_nI, oc_s, oc_n, pk_div, pk_rem, m1F, L0, L1, L2, L3, L4, L5, L6, L7, L8, L9, L10, L11, L12, L19, L20, L24, L25, L27, L28, L30, L32, L37, L39, L40, L47, L48, L50, L55, L57, L60, L61, L63, L71, L80, L97, L99, L100, L120, L122, L128, L161, L17, L600, L1000000, L1024, L1408, isB0, isB1, subdm, inT, inFl, inFh]
  · by_cases c : m = 0
    · subst c
      refine Or.inl ⟨?_, inFl (by decide) (by decide)⟩
      unfold fX2_mayBeTold
      simp (disch := omega) only [bd_some, gd_true, inR_nI, nI_clamp, nI_add, pk_mul, pk_sub, leT, leF, ltT, ltF, eqT, eqF, ite_true, ite_false, reduceIte, nz_nI, oc_s, oc_n, pk_div, pk_rem, m1F, L0, L1, L2, L3, L4, L5, L6, L7, L8, L9, L10, L11, L12, L19, L20, L24, L25, L27, L28, L30, L32, L37, L39, L40, L47, L48, L50, L55, L57, L60, L61, L63, L71, L80, L97, L99, L100, L120, L122, L128, L161, L17, L600, L1000000, L1024, L1408, isB0, isB1, subdm, inT, inFl, inFh]
    · have e : fX2_mayBeTold h (nI m) = iter (fun st : Int32 => bX2_mayBeTold_15 h (nI m) st) (nI 0) := by
        unfold fX2_mayBeTold
        simp (disch := omega) only [bd_some, gd_true, inR_nI, nI_clamp, nI_add, pk_mul, pk_sub, leT, leF, ltT, ltF, eqT, eqF, ite_true, ite_false, reduceIte, nz_nI, oc_s, oc_n, pk_div, pk_rem, m1F, L0, L1, L2, L3, L4, L5, L6, L7, L8, L9, L10, L11, L12, L19, L20, L24, L25, L27, L28, L30, L32, L37, L39, L40, L47, L48, L50, L55, L57, L60, L61, L63, L71, L80, L97, L99, L100, L120, L122, L128, L161, L17, L600, L1000000, L1024, L1408, isB0, isB1, subdm, inT, inFl, inFh]
      refine Or.inr ⟨m, by omega, k, rfl, inT (by omega) k (by decide), ?_⟩
      rw [e]
      rcases told_loop ok hx k (hS v) 0 (by omega) with ⟨⟨s, s1, s2, s3⟩, q⟩ | ⟨s1, q⟩
      · exact Or.inl ⟨q, s, s2, s3⟩
      · exact Or.inr ⟨q, fun s hs => s1 s (by omega) hs⟩
theorem in99 (x : Int32) : fX10_in x (nI 1) (nI 99) = some (nI 0) ∨ fX10_in x (nI 1) (nI 99) = some (nI 1) := by
  rcases rng x 99 with k | ⟨m, k, k2, rfl⟩ | ⟨m, k, k2, rfl⟩
  · exact Or.inl (in_neg k (by decide))
  · exact Or.inl (inFh k k2)
  · by_cases c : m = 0
    · subst c; exact Or.inl (inFl (by decide) (by decide))
    · exact Or.inr (inT (by omega) k (by decide))
theorem fwM_heavy {v : Hv} {W s0 : Nat} (hs : s0 < hS v) (h : W < hWt v s0) : fwM v W = -nI 1 := by
  unfold fwM
  rw [if_neg (by omega), fD_heavy h _ (all_bit hs), if_neg (by decide)]
theorem fwM_pk {v : Hv} (ok : HvOK v) {W : Nat} (hW1 : 1 ≤ W) (hW : W ≤ 99) (hw : ∀ s, s < hS v → hWt v s ≤ W) : fwM v W = nI (pkD v W (2 ^ hS v - 1) / 128) := by
  have hp1 := p1 (hS v)
  unfold fwM
  by_cases c : hS v = 0
  · rw [if_pos c]
    have e : 2 ^ hS v - 1 = 0 := by rw [c]
    rw [e, show pkD v W 0 = W from rfl, show W / 128 = 0 by omega]
  · have h2 : 2 ^ 1 ≤ 2 ^ hS v := Nat.pow_le_pow_right (by decide) (by omega)
    obtain ⟨i1, i2, i3⟩ := pk_fD ok hW1 hW hw (2 ^ hS v - 1) (by omega) (by omega)
    rw [if_neg c, if_pos (by omega), i3]
    congr 1
    omega
theorem ob_evenings : Ob_evenings Inv := by
  intro g a1 a2 hI
  rcases house_cases hI a1 with ⟨h1, h2⟩ | ⟨n, v, hn, rfl, ok, hx, h1, h2, h3⟩
  · have h2 := h2 _ (m0 _)
    refine ⟨g, -1, _, ?_, ?_, rfl, hI.1, hI.keep (XP.rf hI.1) (m0 _)⟩
    · unfold fX9_evenings; simp (disch := omega) only [h1, bd_some, gd_true, inR_nI, nI_clamp, nI_add, pk_mul, pk_sub, leT, leF, ltT, ltF, eqT, eqF, ite_true, ite_false, reduceIte, nz_nI, oc_s, oc_n, pk_div, pk_rem, m1F, L0, L1, L2, L3, L4, L5, L6, L7, L8, L9, L10, L11, L12, L19, L20, L24, L25, L27, L28, L30, L32, L37, L39, L40, L47, L48, L50, L55, L57, L60, L61, L63, L71, L80, L97, L99, L100, L120, L122, L128, L161, L17, L600, L1000000, L1024, L1408, isB0, isB1, subdm, inT, inFl, inFh]
    · unfold fX10_evenings
      rcases in99 a2 with k | k
      · simp (disch := omega) only [k, bd_some, gd_true, inR_nI, nI_clamp, nI_add, pk_mul, pk_sub, leT, leF, ltT, ltF, eqT, eqF, ite_true, ite_false, reduceIte, nz_nI, oc_s, oc_n, pk_div, pk_rem, m1F, L0, L1, L2, L3, L4, L5, L6, L7, L8, L9, L10, L11, L12, L19, L20, L24, L25, L27, L28, L30, L32, L37, L39, L40, L47, L48, L50, L55, L57, L60, L61, L63, L71, L80, L97, L99, L100, L120, L122, L128, L161, L17, L600, L1000000, L1024, L1408, isB0, isB1, subdm, inT, inFl, inFh]
      · simp (disch := omega) only [k, h2, bd_some, gd_true, inR_nI, nI_clamp, nI_add, pk_mul, pk_sub, leT, leF, ltT, ltF, eqT, eqF, ite_true, ite_false, reduceIte, nz_nI, oc_s, oc_n, pk_div, pk_rem, m1F, L0, L1, L2, L3, L4, L5, L6, L7, L8, L9, L10, L11, L12, L19, L20, L24, L25, L27, L28, L30, L32, L37, L39, L40, L47, L48, L50, L55, L57, L60, L61, L63, L71, L80, L97, L99, L100, L120, L122, L128, L161, L17, L600, L1000000, L1024, L1408, isB0, isB1, subdm, inT, inFl, inFh]
  · obtain ⟨r', e1, hd, m1⟩ := h3 _ (m0 _)
    rcases told_cases ok hx a2 with ⟨t1, t2⟩ | ⟨W, hW1, hW, rfl, t2, ⟨t1, s0, hs0, hh⟩ | ⟨t1, hw⟩⟩
    · refine ⟨g, -1, _, ?_, ?_, rfl, hI.1, hI.keep (XP.rf hI.1) (m0 _)⟩
      · unfold fX9_evenings; simp (disch := omega) only [h1, h2, t1, bd_some, gd_true, inR_nI, nI_clamp, nI_add, pk_mul, pk_sub, leT, leF, ltT, ltF, eqT, eqF, ite_true, ite_false, reduceIte, nz_nI, oc_s, oc_n, pk_div, pk_rem, m1F, L0, L1, L2, L3, L4, L5, L6, L7, L8, L9, L10, L11, L12, L19, L20, L24, L25, L27, L28, L30, L32, L37, L39, L40, L47, L48, L50, L55, L57, L60, L61, L63, L71, L80, L97, L99, L100, L120, L122, L128, L161, L17, L600, L1000000, L1024, L1408, isB0, isB1, subdm, inT, inFl, inFh]
      · unfold fX10_evenings; simp (disch := omega) only [t2, bd_some, gd_true, inR_nI, nI_clamp, nI_add, pk_mul, pk_sub, leT, leF, ltT, ltF, eqT, eqF, ite_true, ite_false, reduceIte, nz_nI, oc_s, oc_n, pk_div, pk_rem, m1F, L0, L1, L2, L3, L4, L5, L6, L7, L8, L9, L10, L11, L12, L19, L20, L24, L25, L27, L28, L30, L32, L37, L39, L40, L47, L48, L50, L55, L57, L60, L61, L63, L71, L80, L97, L99, L100, L120, L122, L128, L161, L17, L600, L1000000, L1024, L1408, isB0, isB1, subdm, inT, inFl, inFh]
    · obtain ⟨r1, f1, f2, f3, f4⟩ := fewM ok hd hW
      rw [fwM_heavy hs0 hh] at f1
      refine ⟨g, -1, r1, ?_, ?_, rfl, hI.1, hI.keep (XP.rf hI.1) (((m0 _).tr m1).tr (MP.of (fun k hk => f2 k (by omega) (by omega))))⟩
      · unfold fX9_evenings; simp (disch := omega) only [h1, h2, t1, bd_some, gd_true, inR_nI, nI_clamp, nI_add, pk_mul, pk_sub, leT, leF, ltT, ltF, eqT, eqF, ite_true, ite_false, reduceIte, nz_nI, oc_s, oc_n, pk_div, pk_rem, m1F, L0, L1, L2, L3, L4, L5, L6, L7, L8, L9, L10, L11, L12, L19, L20, L24, L25, L27, L28, L30, L32, L37, L39, L40, L47, L48, L50, L55, L57, L60, L61, L63, L71, L80, L97, L99, L100, L120, L122, L128, L161, L17, L600, L1000000, L1024, L1408, isB0, isB1, subdm, inT, inFl, inFh]
      · unfold fX10_evenings; simp (disch := omega) only [t2, e1, f1, bd_some, gd_true, inR_nI, nI_clamp, nI_add, pk_mul, pk_sub, leT, leF, ltT, ltF, eqT, eqF, ite_true, ite_false, reduceIte, nz_nI, oc_s, oc_n, pk_div, pk_rem, m1F, L0, L1, L2, L3, L4, L5, L6, L7, L8, L9, L10, L11, L12, L19, L20, L24, L25, L27, L28, L30, L32, L37, L39, L40, L47, L48, L50, L55, L57, L60, L61, L63, L71, L80, L97, L99, L100, L120, L122, L128, L161, L17, L600, L1000000, L1024, L1408, isB0, isB1, subdm, inT, inFl, inFh]
    · obtain ⟨r1, f1, f2, f3, f4⟩ := fewM ok hd hW
      obtain ⟨g1, x1, x2⟩ := fewX ok hx (show 200 + n ≠ 301 by omega) hW
      rw [fwM_pk ok hW1 hW hw] at f1
      have hr : g1 1001 = g 1001 := x2 _ (by decide)
      refine ⟨g1, nI (pkD v W (2 ^ hS v - 1) / 128), r1, ?_, ?_, by rw [x2 901 (by decide)], by rw [x2 1 (by decide)]; exact hI.1, hI.keep (XP.of hI.1 x2 (Or.inr (Or.inr (Or.inl rfl)))) (((m0 _).tr m1).tr (MP.of (fun k hk => f2 k (by omega) (by omega))))⟩
      · unfold fX9_evenings; simp (disch := omega) only [h1, h2, t1, x1, bd_some, gd_true, inR_nI, nI_clamp, nI_add, pk_mul, pk_sub, leT, leF, ltT, ltF, eqT, eqF, ite_true, ite_false, reduceIte, nz_nI, oc_s, oc_n, pk_div, pk_rem, m1F, L0, L1, L2, L3, L4, L5, L6, L7, L8, L9, L10, L11, L12, L19, L20, L24, L25, L27, L28, L30, L32, L37, L39, L40, L47, L48, L50, L55, L57, L60, L61, L63, L71, L80, L97, L99, L100, L120, L122, L128, L161, L17, L600, L1000000, L1024, L1408, isB0, isB1, subdm, inT, inFl, inFh]
      · rw [hr]; unfold fX10_evenings; simp (disch := omega) only [t2, e1, f1, bd_some, gd_true, inR_nI, nI_clamp, nI_add, pk_mul, pk_sub, leT, leF, ltT, ltF, eqT, eqF, ite_true, ite_false, reduceIte, nz_nI, oc_s, oc_n, pk_div, pk_rem, m1F, L0, L1, L2, L3, L4, L5, L6, L7, L8, L9, L10, L11, L12, L19, L20, L24, L25, L27, L28, L30, L32, L37, L39, L40, L47, L48, L50, L55, L57, L60, L61, L63, L71, L80, L97, L99, L100, L120, L122, L128, L161, L17, L600, L1000000, L1024, L1408, isB0, isB1, subdm, inT, inFl, inFh]
