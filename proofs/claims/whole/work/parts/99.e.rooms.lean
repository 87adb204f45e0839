/-! which secrets fit into evenings -/
def ld (b : Nat → Nat) (e w : Nat) : Nat → Nat := fun x => if x = e then b x + w else b x
theorem ld_e (b : Nat → Nat) (e w : Nat) : ld b e w e = b e + w := if_pos rfl
theorem ld_n {b : Nat → Nat} {e w x : Nat} (h : x ≠ e) : ld b e w x = b x := if_neg h
def sumAt (v : Hv) (T : Nat) (asg : Nat → Nat) (e : Nat) : Nat := sm (fun s => if T.testBit s = true ∧ asg s = e then hWt v s else 0) 10
theorem sm_del {f h : Nat → Nat} {s0 : Nat} (h1 : ∀ s, s ≠ s0 → f s = h s) (h2 : h s0 = 0) (n : Nat) : sm f n = sm h n + if s0 < n then f s0 else 0 := by
  induction n with
  | zero =>
    rw [if_neg (Nat.not_lt_zero s0)]
    rfl
  | succ n ih =>
    have e1 : sm f (n + 1) = sm f n + f n := rfl
    have e2 : sm h (n + 1) = sm h n + h n := rfl
    rw [e1, e2, ih]
    by_cases c : n = s0
    · subst c
      rw [if_neg (Nat.lt_irrefl n), if_pos (Nat.lt_succ_self n), h2]
    · rw [h1 n c]
      by_cases d : s0 < n
      · rw [if_pos d, if_pos (Nat.lt_succ_of_lt d)]; omega
      · rw [if_neg d, if_neg (by omega)]; omega
theorem sumAt_del {v : Hv} {T s0 e : Nat} {asg : Nat → Nat} (h : T.testBit s0 = true) (hs : s0 < 10) : sumAt v T asg e = sumAt v (andn T (2 ^ s0)) asg e + if asg s0 = e then hWt v s0 else 0 := by
  have A : ∀ x, x ≠ s0 → (if T.testBit x = true ∧ asg x = e then hWt v x else 0) = (if (andn T (2 ^ s0)).testBit x = true ∧ asg x = e then hWt v x else 0) := by
    intro x hne
    have hb : (andn T (2 ^ s0)).testBit x = T.testBit x := by
      rw [dl_bit, decide_eq_false (Ne.symm hne)]
      simp
    rw [hb]
  have B : (if (andn T (2 ^ s0)).testBit s0 = true ∧ asg s0 = e then hWt v s0 else 0) = 0 := by
    have hb : (andn T (2 ^ s0)).testBit s0 = false := by
      rw [dl_bit, decide_eq_true (rfl : s0 = s0)]
      simp
    rw [hb]
    exact if_neg (fun q => by cases q.1)
  have C : (if T.testBit s0 = true ∧ asg s0 = e then hWt v s0 else 0) = (if asg s0 = e then hWt v s0 else 0) := by
    by_cases c : asg s0 = e
    · rw [if_pos ⟨h, c⟩, if_pos c]
    · rw [if_neg (fun q => c q.2), if_neg c]
  have E := sm_del (f := fun x => if T.testBit x = true ∧ asg x = e then hWt v x else 0) (h := fun x => if (andn T (2 ^ s0)).testBit x = true ∧ asg x = e then hWt v x else 0) (s0 := s0) A B 10
  rw [if_pos hs] at E
  unfold sumAt
  rw [E]
  exact congrArg _ C
theorem sumAt_congr {v : Hv} {T e : Nat} {asg asg' : Nat → Nat} (h : ∀ s, s < 10 → T.testBit s = true → asg s = asg' s) : sumAt v T asg e = sumAt v T asg' e := by
  unfold sumAt
  refine sm_congr (fun s hs => ?_)
  by_cases c : T.testBit s = true
  · rw [h s hs c]
  · rw [if_neg (fun q => c q.1), if_neg (fun q => c q.1)]
theorem sumAt_zero {v : Hv} {T e : Nat} {asg : Nat → Nat} (h : ∀ s, s < 10 → T.testBit s = true → asg s ≠ e) : sumAt v T asg e = 0 := by
  unfold sumAt
  rw [sm_congr (g := fun _ => 0) (fun s hs => if_neg (fun q => h s hs q.1 q.2)), sm_zero]
theorem sumAt_0 {v : Hv} {e : Nat} {asg : Nat → Nat} : sumAt v 0 asg e = 0 := sumAt_zero (fun s _ h => by rw [Nat.zero_testBit] at h; cases h)
def Fe (v : Hv) (W D : Nat) (b : Nat → Nat) (T : Nat) : Prop := ∃ asg : Nat → Nat, (∀ s, s < 10 → T.testBit s = true → asg s < D) ∧ ∀ e, e < D → b e + sumAt v T asg e ≤ W
theorem Fe_step {v : Hv} {W D T s : Nat} {b : Nat → Nat} (h : T.testBit s = true) (hs : s < 10) : Fe v W D b T ↔ ∃ e, e < D ∧ Fe v W D (ld b e (hWt v s)) (andn T (2 ^ s)) := by
  constructor
  · rintro ⟨asg, h1, h2⟩
    refine ⟨asg s, h1 s hs h, asg, fun x hx hb => h1 x hx ((Sub.rf T).dl x hb), fun e he => ?_⟩
    have := h2 e he
    rw [sumAt_del h hs] at this
    by_cases c : e = asg s
    · subst c
      rw [if_pos rfl] at this
      rw [ld_e]; omega
    · rw [if_neg (fun q => c q.symm)] at this
      rw [ld_n c]; omega
  · rintro ⟨e0, he0, asg, h1, h2⟩
    refine ⟨fun x => if x = s then e0 else asg x, fun x hx hb => ?_, fun e he => ?_⟩
    · dsimp only
      by_cases c : x = s
      · rw [if_pos c]; exact he0
      · rw [if_neg c]
        exact h1 x hx (by rw [dl_bit, hb]; simp [Ne.symm c])
    · rw [sumAt_del h hs]
      try dsimp only
      rw [if_pos rfl, sumAt_congr (asg' := asg) (fun x hx hb => by
        try dsimp only
        rw [if_neg (fun q => by rw [q, dl_bit] at hb; simp at hb)])]
      have := h2 e he
      by_cases c : e0 = e
      · subst c
        rw [ld_e] at this
        rw [if_pos rfl]; omega
      · rw [ld_n (Ne.symm c)] at this
        rw [if_neg c]; omega
def sw (a b x : Nat) : Nat := if x = a then b else if x = b then a else x
theorem sw_sw (a b x : Nat) : sw a b (sw a b x) = x := by unfold sw; (repeat' split) <;> omega
theorem Fe_swap {v : Hv} {W D T e1 e2 w : Nat} {b : Nat → Nat} (h1 : e1 < D) (h2 : e2 < D) (hb : b e1 = b e2) (h : Fe v W D (ld b e1 w) T) : Fe v W D (ld b e2 w) T := by
  obtain ⟨asg, a1, a2⟩ := h
  have hlt : ∀ x, x < D → sw e1 e2 x < D := by intro x hx; unfold sw; (repeat' split) <;> omega
  refine ⟨fun s => sw e1 e2 (asg s), fun s hs ht => hlt _ (a1 s hs ht), fun e he => ?_⟩
  have e3 : sumAt v T (fun s => sw e1 e2 (asg s)) e = sumAt v T asg (sw e1 e2 e) := by
    unfold sumAt
    refine sm_congr (fun s _ => ?_)
    have : (sw e1 e2 (asg s) = e) ↔ (asg s = sw e1 e2 e) := ⟨fun q => by rw [← q, sw_sw], fun q => by rw [q, sw_sw]⟩
    by_cases c : T.testBit s = true ∧ asg s = sw e1 e2 e
    · rw [if_pos ⟨c.1, this.mpr c.2⟩, if_pos c]
    · rw [if_neg (fun q => c ⟨q.1, this.mp q.2⟩), if_neg c]
  have e4 : ld b e2 w e = ld b e1 w (sw e1 e2 e) := by
    unfold ld sw
    by_cases c1 : e = e1
    · subst c1
      rw [if_pos rfl]
      by_cases c2 : e = e2
      · subst c2; rfl
      · rw [if_neg c2, if_neg (Ne.symm c2), hb]
    · rw [if_neg c1]
      by_cases c2 : e = e2
      · subst c2
        rw [if_pos rfl, if_pos rfl, if_pos rfl, hb]
      · rw [if_neg c2, if_neg c2, if_neg c1]
  rw [e3, e4]
  exact a2 _ (hlt e he)
/-! what the table says of it -/
theorem gq_spec {b : Nat → Nat} {W w : Nat} : ∀ n e l, gq b W w n e l < 1000000 → (e < 10 ∧ l + w ≤ W ∧ gq b W w n e l = 100 * e + l + w) ∨ ∃ e', e < e' ∧ e' < 10 ∧ b e' + w ≤ W ∧ gq b W w n e l = 100 * e' + b e' + w
  | 0, e, l, h => by
    have : gq b W w 0 e l = 1000000 := rfl
    omega
  | n + 1, e, l, h => by
    by_cases h0 : 10 ≤ e
    · rw [gq_far h0] at h; omega
    · by_cases h1 : l + w ≤ W
      · exact Or.inl ⟨by omega, h1, gq_fit (by omega) h1⟩
      · rw [gq_nx (by omega) (by omega)] at h ⊢
        by_cases h2 : 10 ≤ e + 1
        · rw [if_pos h2] at h ⊢
          rcases gq_spec n _ _ h with ⟨q, -, -⟩ | ⟨e', q1, q2, q3, q4⟩
          · omega
          · omega
        · rw [if_neg h2] at h ⊢
          rcases gq_spec n _ _ h with ⟨q1, q2, q3⟩ | ⟨e', q1, q2, q3, q4⟩
          · exact Or.inr ⟨e + 1, by omega, q1, q2, q3⟩
          · exact Or.inr ⟨e', by omega, q2, q3, q4⟩
theorem fD_asg {v : Hv} (ok : HvOK v) {b : Nat → Nat} {W : Nat} (hW : W ≤ 99) (hb : ∀ e, e < 10 → b e ≤ W) : ∀ T, T < 2 ^ hS v → fD v b W T < 1000000 → ∃ asg : Nat → Nat, (∀ s, s < 10 → T.testBit s = true → asg s ≤ fD v b W T / 100) ∧ (∀ e, e < 10 → b e + sumAt v T asg e ≤ W) ∧ b (fD v b W T / 100) + sumAt v T asg (fD v b W T / 100) = fD v b W T % 100 ∧ fD v b W T / 100 < 10 := by
  intro T
  induction T using Nat.strongRecOn with
  | ind T ih =>
    intro hT hF
    have hS10 := ok.2.1
    by_cases h0 : T = 0
    · subst h0
      have e0 : fD v b W 0 = b 0 := rfl
      have hb0 := hb 0 (by decide)
      refine ⟨fun _ => 0, fun s _ h => Nat.zero_le _, fun e he => ?_, ?_, ?_⟩
      · rw [sumAt_0]; exact hb e he
      · rw [sumAt_0, e0, show b 0 / 100 = 0 by omega]; omega
      · rw [e0]; omega
    · obtain ⟨-, -, e | ⟨s, hs, ⟨c1, c2⟩, e⟩⟩ := fD_mn (v := v) (b := b) (W := W) h0
      · omega
      · have hd := dl_lt c1
        obtain ⟨asg, i1, i2, i3, i4⟩ := ih _ hd (by omega) c2
        have key : ∃ e', e' < 10 ∧ fD v b W (andn T (2 ^ s)) / 100 ≤ e' ∧ b e' + sumAt v (andn T (2 ^ s)) asg e' + hWt v s ≤ W ∧ fD v b W T = 100 * e' + (b e' + sumAt v (andn T (2 ^ s)) asg e' + hWt v s) := by
          dsimp only at e
          rw [e] at hF
          rcases gq_spec _ _ _ hF with ⟨q1, q2, q3⟩ | ⟨e', q1, q2, q3, q4⟩
          · refine ⟨_, q1, Nat.le_refl _, by rw [i3]; exact q2, ?_⟩
            rw [e, i3]
            unfold stq
            rw [q3]
            omega
          · have hz : sumAt v (andn T (2 ^ s)) asg e' = 0 := sumAt_zero (fun x hx ht => by have := i1 x hx ht; omega)
            refine ⟨e', q2, by omega, by rw [hz]; omega, ?_⟩
            rw [e, hz]
            unfold stq
            rw [q4]
            omega
        obtain ⟨e', k1, k2, k3, k4⟩ := key
        have hs1 : ∀ x, sumAt v T (fun y => if y = s then e' else asg y) x = sumAt v (andn T (2 ^ s)) asg x + if e' = x then hWt v s else 0 := by
          intro x
          rw [sumAt_del c1 (by omega)]
          try dsimp only
          rw [if_pos rfl, sumAt_congr (asg' := asg) (fun y hy hb => by
            try dsimp only
            rw [if_neg (fun q => by rw [q, dl_bit] at hb; simp at hb)])]
        have d1 : fD v b W T / 100 = e' := by omega
        refine ⟨fun y => if y = s then e' else asg y, fun x hx ht => ?_, fun x hx => ?_, ?_, by omega⟩
        · try dsimp only
          rw [d1]
          by_cases c : x = s
          · rw [if_pos c]; exact Nat.le_refl _
          · rw [if_neg c]
            have := i1 x hx (by rw [dl_bit, ht]; simp [Ne.symm c])
            omega
        · rw [hs1]
          by_cases c : e' = x
          · subst c
            rw [if_pos rfl]; omega
          · rw [if_neg c]
            have := i2 x hx
            omega
        · rw [d1, hs1, if_pos rfl]; omega
theorem gq_reach {b : Nat → Nat} {W w m y : Nat} (hW : W ≤ 99) (hm : m < 10) (hb : b m ≤ y) (hy : y + w ≤ W) : ∀ n e l, e ≤ m → m < e + n → (e = m → l ≤ y) → gq b W w n e l ≤ 100 * m + y + w
  | 0, _, _, h1, h2, _ => by omega
  | n + 1, e, l, h1, h2, h3 => by
    by_cases f : l + w ≤ W
    · rw [gq_fit (by omega) f]
      by_cases c : e = m
      · have := h3 c; omega
      · omega
    · rw [gq_nx (by omega) (by omega)]
      have c : e ≠ m := fun q => by have := h3 q; omega
      refine gq_reach hW hm hb hy n _ _ (by omega) (by omega) (fun q => ?_)
      rw [if_neg (by omega), q]; exact hb
theorem max_ex {T : Nat} {asg : Nat → Nat} : ∀ n, (∃ s, s < n ∧ T.testBit s = true) → ∃ s, s < n ∧ T.testBit s = true ∧ ∀ x, x < n → T.testBit x = true → asg x ≤ asg s
  | 0, ⟨s, h, _⟩ => by omega
  | n + 1, ⟨s, h, hs⟩ => by
    by_cases q : ∃ s, s < n ∧ T.testBit s = true
    · obtain ⟨t, t1, t2, t3⟩ := max_ex (asg := asg) n q
      by_cases c : T.testBit n = true ∧ asg t ≤ asg n
      · refine ⟨n, by omega, c.1, fun x hx hb => ?_⟩
        by_cases e : x = n
        · subst e; exact Nat.le_refl _
        · have := t3 x (by omega) hb; omega
      · refine ⟨t, by omega, t2, fun x hx hb => ?_⟩
        by_cases e : x = n
        · subst e
          have : ¬ asg t ≤ asg x := fun z => c ⟨hb, z⟩
          omega
        · exact t3 x (by omega) hb
    · have e : s = n := by
        apply Classical.byContradiction
        intro z
        exact q ⟨s, by omega, hs⟩
      subst e
      refine ⟨s, by omega, hs, fun x hx hb => ?_⟩
      by_cases e : x = s
      · subst e; exact Nat.le_refl _
      · exact absurd ⟨x, by omega, hb⟩ q
theorem fD_reach {v : Hv} (ok : HvOK v) {b asg : Nat → Nat} {W : Nat} (hW : W ≤ 99) (hb : ∀ e, e < 10 → b e ≤ W) : ∀ T, T < 2 ^ hS v → ∀ m, m < 10 → (∀ s, s < 10 → T.testBit s = true → asg s ≤ m) → (∀ e, e ≤ m → b e + sumAt v T asg e ≤ W) → fD v b W T ≤ 100 * m + (b m + sumAt v T asg m) := by
  intro T
  induction T using Nat.strongRecOn with
  | ind T ih =>
    intro hT m hm h1 h2
    have hS10 := ok.2.1
    by_cases h0 : T = 0
    · subst h0
      have e0 : fD v b W 0 = b 0 := rfl
      have hb0 := hb 0 (by decide)
      rw [e0]
      by_cases c : m = 0
      · subst c; omega
      · omega
    · obtain ⟨t, t1, t2⟩ := bit_ex h0 hT
      obtain ⟨s, s1, s2, s3⟩ := max_ex (T := T) (asg := asg) 10 ⟨t, by omega, t2⟩
      have hs := bit_lt hT s2
      have hd := dl_lt s2
      have hms := h1 s s1 s2
      have hdel : ∀ e, sumAt v T asg e = sumAt v (andn T (2 ^ s)) asg e + if asg s = e then hWt v s else 0 := fun e => sumAt_del s2 s1
      have i := ih _ hd (by omega) (asg s) (by omega) (fun x hx ht => s3 x hx ((Sub.rf T).dl x ht)) (fun e he => by
        have := h2 e (by omega)
        rw [hdel e] at this
        omega)
      have hy := h2 (asg s) hms
      rw [hdel, if_pos rfl] at hy
      have hst : stq b W (fD v b W (andn T (2 ^ s))) (hWt v s) ≤ 100 * asg s + (b (asg s) + sumAt v (andn T (2 ^ s)) asg (asg s)) + hWt v s := gq_reach hW (by omega) (by omega) (by omega) 11 _ _ (by omega) (by omega) (fun q => by omega)
      obtain ⟨-, f2, -⟩ := fD_mn (v := v) (b := b) (W := W) h0
      have := f2 s hs ⟨s2, by omega⟩
      dsimp only at this
      by_cases c : asg s = m
      · rw [← c, hdel, if_pos rfl]; omega
      · omega
/-- the table says which fit -/
theorem fD_Fe {v : Hv} (ok : HvOK v) {b : Nat → Nat} {W D T : Nat} (hW : W ≤ 99) (hD1 : 1 ≤ D) (hD : D ≤ 10) (hb : ∀ e, e < 10 → b e ≤ W) (hT : T < 2 ^ hS v) : fD v b W T / 100 < D ↔ Fe v W D b T := by
  constructor
  · intro h
    obtain ⟨asg, a1, a2, -, -⟩ := fD_asg ok hW hb T hT (by omega)
    exact ⟨asg, fun s hs ht => by have := a1 s hs ht; omega, fun e he => a2 e (by omega)⟩
  · rintro ⟨asg, a1, a2⟩
    have := fD_reach ok (asg := asg) hW hb T hT (D - 1) (by omega) (fun s hs ht => by have := a1 s hs ht; omega) (fun e he => a2 e (by omega))
    have := a2 (D - 1) (by omega)
    omega
