/-- a loop by what holds at its head after i rounds -/
theorem iter_loop {σ ρ : Type} {step : σ → Option (σ ⊕ ρ)} (I : Nat → σ → Prop) (P : ρ → Prop) (n : Nat) (hs : ∀ i s, i < n → I i s → ∃ s', step s = some (.inl s') ∧ I (i + 1) s') (he : ∀ s, I n s → ∃ x, step s = some (.inr x) ∧ P x) {s0 : σ} (h0 : I 0 s0) : ∃ x, iter step s0 = some x ∧ P x := by
  have key : ∀ d i s, i + d = n → I i s → ∃ x, iter step s = some x ∧ P x := by
    intro d
    induction d with
    | zero =>
      intro i s hi h
      have : i = n := by omega
      subst this
      obtain ⟨x, h1, h2⟩ := he s h
      exact ⟨x, iter_end h1, h2⟩
    | succ d ih =>
      intro i s hi h
      obtain ⟨s', h1, h2⟩ := hs i s (by omega) h
      rw [iter_step h1]
      exact ih (i + 1) s' (by omega) h2
  exact key n 0 s0 (by omega) h0
/-! bits -/
theorem bit_nI {q k : Nat} (hq : q < 2 ^ 31) (hk : k < 31) : (nI q >>> (nI k &&& 31)) &&& 1 = if q.testBit k then 1 else 0 := by
  have e1 : nI k &&& 31 = nI k := by
    have := pk_andN (n := k) (by omega) (m := 31) 5 (by decide)
    rw [this, Nat.mod_eq_of_lt (by omega)]
  rw [e1, pk_shrN hq (nI k) k (by
    have h1 : (nI k).toBitVec.toNat = k := pk_tn (by omega)
    have : ((nI k).toBitVec.smod 32).toNat = k := by
      have h2 : ∀ k, k < 31 → ((nI k).toBitVec.smod 32).toNat = k := by decide +kernel
      exact h2 k hk
    exact this)]
  have := pk_andN (n := q / 2 ^ k) (by
    have : q / 2 ^ k ≤ q := Nat.div_le_self _ _
    omega) (m := 1) 1 (by decide)
  rw [this]
  rw [Nat.testBit, Nat.shiftRight_eq_div_pow]
  have hm : q / 2 ^ k % 2 < 2 := Nat.mod_lt _ (by decide)
  rcases (show q / 2 ^ k % 2 = 0 ∨ q / 2 ^ k % 2 = 1 by omega) with h | h
  · rw [show (2 : Nat) ^ 1 = 2 from rfl, h]
    simp [Nat.and_comm, Nat.one_and_eq_mod_two, h]
    rfl
  · rw [show (2 : Nat) ^ 1 = 2 from rfl, h]
    simp [Nat.and_comm, Nat.one_and_eq_mod_two, h]
    rfl
theorem has_nI {q k : Nat} (hq : q < 2 ^ 31) (hk : k < 31) : fX10_has (nI q) (nI k) = some (if q.testBit k then 1 else 0) := by
  unfold fX10_has
  rw [bit_nI hq hk]
  cases q.testBit k <;> rfl
theorem hasBit_nI {q k : Nat} (hq : q < 2 ^ 31) (hk : k < 31) : fX9_hasBit (nI q) (nI k) = some (if q.testBit k then 1 else 0) := by
  unfold fX9_hasBit
  rw [bit_nI hq hk]
  cases q.testBit k <;> rfl
/-! a house in the reference's hand -/
def Hd (r : Rec) (n : Nat) (v : Hv) : Prop := n < 2 ∧ gi r 25 = nI n ∧ gi r 26 = nI (hP v) ∧ gi r 27 = nI (hS v) ∧ (∀ p, p < 8 → ga r 28 p = nI (hKn v p)) ∧ HM (ga r 6) (71 * n) v
theorem of_nI {r : Rec} {n a : Nat} (h25 : gi r 25 = nI n) (hn : n < 2) (ha : a < 71) : fX10_of r (nI a) = some (ga r 6 (71 * n + a)) := by
  unfold fX10_of
  rw [h25, show (71 : Int32) * nI n + nI a = nI (71 * n + a) by rw [show (71 : Int32) = nI 71 from rfl, pk_mul, nI_add], inR_nI (by omega) (by decide), gd_true, nI_clamp (by omega)]
theorem hand_neg {r : Rec} {x : Int32} (h : x < 0) : fX10_hand r x = some (r, 0) := by
  unfold fX10_hand
  rw [show fX10_is r 0 x = some 0 from is_neg (s := 0) (by decide) h]
  rfl
theorem hand_out {r : Rec} {n c : Nat} (hc : ga r 5 0 = nI c) (hc2 : c ≤ 2) (hn : n < 2 ^ 31) (h : ¬ n < c) : fX10_hand r (nI n) = some (r, 0) := by
  unfold fX10_hand
  rw [show fX10_is r 0 (nI n) = some 0 by have := is_nI (s := 0) (by decide) hc hn hc2; rw [if_neg h] at this; exact this]
  rfl
theorem hand_in2 {r : Rec} {n c : Nat} (hc : ga r 5 0 = nI c) (hc2 : c ≤ 2) (h : n < c) {v : Hv} (ok : HvOK v) (hm : HM (ga r 6) (71 * n) v) : ∃ r', fX10_hand r (nI n) = some (r', 1) ∧ Hd r' n v ∧ MP r r' ∧ (∀ k, k ≠ 28 → ga r' k = ga r k) := by
  unfold fX10_hand
  rw [show fX10_is r 0 (nI n) = some 1 by have := is_nI (s := 0) (by decide) hc (show n < 2 ^ 31 by omega) hc2; rw [if_pos h] at this; exact this, bd_some, if_neg (show ¬ (1 : Int32) = 0 by decide), bd_some]
  rw [show fX10_of (si r 25 (nI n)) 0 = some (nI (hP v)) by have := of_nI (r := si r 25 (nI n)) (n := n) (a := 0) rfl (by omega) (by decide); rw [show 71 * n + 0 = 71 * n from rfl] at this; rw [show (0 : Int32) = nI 0 from rfl, this]; exact congrArg some hm.1, bd_some, bd_some]
  rw [show fX10_of (si (si r 25 (nI n)) 26 (nI (hP v))) 1 = some (nI (hS v)) by have := of_nI (r := si (si r 25 (nI n)) 26 (nI (hP v))) (n := n) (a := 1) rfl (by omega) (by decide); rw [show (1 : Int32) = nI 1 from rfl, this]; exact congrArg some hm.2.1, bd_some, bd_some]
  obtain ⟨x, h1, h2⟩ := iter_loop (step := fun st : Int32 × Rec => bX10_hand_36 st.2 st.1) (fun i st => st.1 = nI i ∧ (∀ p, p < i → ga st.2 28 p = nI (hKn v p)) ∧ (∀ k, k ≠ 28 → ga st.2 k = ga r k) ∧ gi st.2 25 = nI n ∧ gi st.2 26 = nI (hP v) ∧ gi st.2 27 = nI (hS v)) (fun x => x.2 = 1 ∧ (∀ p, p < 8 → ga x.1 28 p = nI (hKn v p)) ∧ (∀ k, k ≠ 28 → ga x.1 k = ga r k) ∧ gi x.1 25 = nI n ∧ gi x.1 26 = nI (hP v) ∧ gi x.1 27 = nI (hS v)) 8 (by
    rintro i ⟨k, s⟩ hi ⟨e, a1, a2, a3, a4, a5⟩
    dsimp only at e a1 a2 a3 a4 a5
    subst e
    refine ⟨(nI (i + 1), sa s 28 (upd (ga s 28) i (nI (hKn v i)))), ?_, rfl, fun p hp => ?_, fun k hk => ?_, a3, a4, a5⟩
    · show bX10_hand_36 s (nI i) = _
      unfold bX10_hand_36
      rw [if_neg (show ¬ (8 : Int32) ≤ nI i from fun h1 => by have := (nI_leI (a := 8) (by decide) (by omega)).mp h1; omega)]
      rw [show fX10_of s (19 + nI i) = some (nI (hKn v i)) by
        rw [show (19 : Int32) + nI i = nI (19 + i) by rw [show (19 : Int32) = nI 19 from rfl, nI_add], of_nI a3 (by omega) (by omega), a2 6 (by decide), ← Nat.add_assoc]
        exact congrArg some (hm.2.2.2.2.2.1 i hi), bd_some, inR_nI (by omega) (by decide), gd_true, bd_some, nI_clamp (by omega), nI_1]
    · show upd (ga s 28) i (nI (hKn v i)) p = _
      rw [upd_if]
      by_cases hp2 : p = i
      · rw [if_pos hp2, hp2]
      · rw [if_neg hp2]; exact a1 p (by omega)
    · show ga (sa s 28 _) k = _
      rw [ga_sa', if_neg hk]; exact a2 k hk) (by
    rintro ⟨k, s⟩ ⟨e, a1, a2, a3, a4, a5⟩
    dsimp only at e a1 a2 a3 a4 a5
    subst e
    refine ⟨(s, 1), ?_, rfl, a1, a2, a3, a4, a5⟩
    show bX10_hand_36 s (nI 8) = _
    unfold bX10_hand_36
    rw [if_pos (show (8 : Int32) ≤ nI 8 by decide)]) (s0 := (0, si (si (si r 25 (nI n)) 26 (nI (hP v))) 27 (nI (hS v)))) ⟨rfl, fun p hp => by omega, fun k _ => rfl, rfl, rfl, rfl⟩
  obtain ⟨x1, x2⟩ := x
  obtain ⟨b0, b1, b2, b3, b4, b5⟩ := h2
  dsimp only at b0 b1 b2 b3 b4 b5
  subst b0
  refine ⟨x1, h1, ⟨by omega, b3, b4, b5, b1, by rw [b2 6 (by decide)]; exact hm⟩, ⟨b2 1 (by decide), b2 2 (by decide), b2 3 (by decide), b2 4 (by decide), b2 5 (by decide), b2 6 (by decide), b2 7 (by decide), b2 8 (by decide), b2 9 (by decide), b2 48 (by decide)⟩, b2⟩
theorem hand_in {r : Rec} {n c : Nat} (hc : ga r 5 0 = nI c) (hc2 : c ≤ 2) (h : n < c) {v : Hv} (ok : HvOK v) (hm : HM (ga r 6) (71 * n) v) : ∃ r', fX10_hand r (nI n) = some (r', 1) ∧ Hd r' n v ∧ MP r r' := by
  obtain ⟨r', h1, h2, h3, _⟩ := hand_in2 hc hc2 h ok hm
  exact ⟨r', h1, h2, h3⟩
