theorem farP_iff {u : Nat → Nat} {n : Nat} {ps vs : Nat → Nat} {c : Nat} : ∀ l, c < farP u n ps vs l ↔ ∃ k, k < l ∧ vs k = 2 ∧ c ≤ num u n ps vs k 0
  | 0 => ⟨fun z => absurd z (Nat.not_lt_zero c), fun ⟨k, h, _⟩ => absurd h (Nat.not_lt_zero k)⟩
  | l + 1 => by
    have ih := farP_iff (u := u) (n := n) (ps := ps) (vs := vs) (c := c) l
    show c < (if vs l = 2 then max (farP u n ps vs l) (num u n ps vs l 0 + 1) else farP u n ps vs l) ↔ _
    have up : (∃ k, k < l ∧ vs k = 2 ∧ c ≤ num u n ps vs k 0) → ∃ k, k < l + 1 ∧ vs k = 2 ∧ c ≤ num u n ps vs k 0 := fun ⟨k, a, b⟩ => ⟨k, by omega, b⟩
    by_cases e : vs l = 2
    · rw [if_pos e]
      refine ⟨fun z => ?_, fun ⟨k, a, b, d⟩ => ?_⟩
      · by_cases y : c < farP u n ps vs l
        · exact up (ih.mp y)
        · exact ⟨l, by omega, e, by omega⟩
      · by_cases y : k = l
        · subst y; omega
        · have := ih.mpr ⟨k, by omega, b, d⟩; omega
    · rw [if_neg e]
      refine ⟨fun z => up (ih.mp z), fun ⟨k, a, b, d⟩ => ih.mpr ⟨k, ?_, b, d⟩⟩
      by_cases y : k = l
      · subst y; exact absurd b e
      · omega
theorem farS_iff {u : Nat → Nat} {n : Nat} {ps vs : Nat → Nat} {c : Nat} : ∀ l, c < farS u n ps vs l ↔ ∃ k, k < l ∧ ((vs k = 2 ∧ c ≤ num u n ps vs k 1) ∨ (vs k = 3 ∧ (c ≤ num u n ps vs k 0 ∨ c ≤ num u n ps vs k 1 ∨ c ≤ num u n ps vs k 2)))
  | 0 => ⟨fun z => absurd z (Nat.not_lt_zero c), fun ⟨k, h, _⟩ => absurd h (Nat.not_lt_zero k)⟩
  | l + 1 => by
    have ih := farS_iff (u := u) (n := n) (ps := ps) (vs := vs) (c := c) l
    show c < (if vs l = 2 then max (farS u n ps vs l) (num u n ps vs l 1 + 1) else if vs l = 3 then max (max (max (farS u n ps vs l) (num u n ps vs l 0 + 1)) (num u n ps vs l 1 + 1)) (num u n ps vs l 2 + 1) else farS u n ps vs l) ↔ _
    refine ⟨fun z => ?_, ?_⟩
    · by_cases y : c < farS u n ps vs l
      · obtain ⟨k, a, b⟩ := ih.mp y
        exact ⟨k, by omega, b⟩
      · refine ⟨l, by omega, ?_⟩
        by_cases e : vs l = 2
        · rw [if_pos e] at z; omega
        · rw [if_neg e] at z
          by_cases e3 : vs l = 3
          · rw [if_pos e3] at z; omega
          · rw [if_neg e3] at z; omega
    · rintro ⟨k, a, b⟩
      by_cases y : k = l
      · subst y
        clear ih
        by_cases e : vs k = 2
        · rw [if_pos e]; omega
        · rw [if_neg e]
          by_cases e3 : vs k = 3
          · rw [if_pos e3]; omega
          · omega
      · have h1 := ih.mpr ⟨k, by omega, b⟩
        by_cases e : vs l = 2
        · rw [if_pos e]; omega
        · rw [if_neg e]
          by_cases e3 : vs l = 3
          · rw [if_pos e3]; omega
          · rw [if_neg e3]; exact h1
theorem far_msg {u : Nat → Nat} {n : Nat} {ps vs : Nat → Nat} {L : Nat} : (cnt vs 0 L < farP u n ps vs L ∨ cnt vs 1 L < farS u n ps vs L) ↔ ∃ l, l < L ∧ msg u n ps vs L l := by
  rw [farP_iff, farS_iff]
  refine ⟨fun z => ?_, fun ⟨l, a, b⟩ => ?_⟩
  · rcases z with ⟨k, a, b, c⟩ | ⟨k, a, b⟩
    · exact ⟨k, a, Or.inl ⟨b, Or.inl c⟩⟩
    · refine ⟨k, a, ?_⟩
      rcases b with b | b
      · exact Or.inl ⟨b.1, Or.inr b.2⟩
      · exact Or.inr b
  · rcases b with ⟨b, c | c⟩ | b
    · exact Or.inl ⟨l, a, b, c⟩
    · exact Or.inr ⟨l, a, Or.inl ⟨b, c⟩⟩
    · exact Or.inr ⟨l, a, Or.inr b⟩
theorem le_fm {c m : Nat} (hc : c ≤ 1000) (hm : m ≤ 1000) : nI c ≤ nI m - 1 ↔ c < m := by
  match m, hm with
  | 0, _ =>
    rw [show nI 0 - 1 = -nI 1 by decide]
    refine ⟨fun z => ?_, fun z => absurd z (Nat.not_lt_zero c)⟩
    have := Int32.le_iff_toInt_le.mp z
    rw [nI_toInt (by omega), show (-nI 1).toInt = -1 by decide] at this
    omega
  | a + 1, hm =>
    rw [fm_s, nI_leI (by omega) (by omega)]
    omega
def ft (r : Rec) (x y : Int32) : Rec := sa (sa r 3 (upd (ga r 3) 0 x)) 4 (upd (ga r 4) 0 y)
theorem rt_bad {r : Rec} {F : Nat} (h : gi r 16 = nI F) : bX10_readText_107 r 0 = some (ft r (nI 1) (nI F), 0) := by
  unfold bX10_readText_107 bX10_readText_124 bX10_readText_156
  rw [if_pos rfl, show inR 0 4 = true from rfl, gd_true, bd_some, if_pos rfl, gi_sa, h, gd_true, bd_some, show Int32.toNatClampNeg 0 = 0 from rfl, ga_san (by decide), ga_sae, upd_if, if_pos rfl]
  rfl
theorem rt_none {r : Rec} {b : Nat} (h : FS r none b) : bX10_readText_107 r 1 = some (ft r 0 (-1), 1) := by
  have h : gi r 17 = 0 := h
  unfold bX10_readText_107 bX10_readText_124 bX10_readText_156
  rw [if_neg (show ¬ (1 : Int32) = 0 by decide), show inR 0 4 = true from rfl, gd_true, bd_some, if_neg (show ¬ (1 : Int32) = 0 by decide), gi_sa, h, if_pos (show (0 : Int32) ≤ 0 by decide), gd_true, bd_some, show Int32.toNatClampNeg 0 = 0 from rfl, ga_san (by decide), ga_sae, upd_if, if_pos rfl, if_pos rfl]
  rfl
theorem rt_some {r : Rec} {b : Nat} {x : Nat × Nat} (h : FS r (some x) b) : bX10_readText_107 r 1 = some (ft r (nI x.1) (nI x.2), 0) := by
  obtain ⟨h1, h2, h3, h4, h5⟩ := h
  unfold bX10_readText_107 bX10_readText_124 bX10_readText_156
  rw [if_neg (show ¬ (1 : Int32) = 0 by decide), show inR 0 4 = true from rfl, gd_true, bd_some, if_neg (show ¬ (1 : Int32) = 0 by decide), gi_sa, h1, if_neg (show ¬ nI x.1 ≤ 0 from fun z => by have := (nI_leI (b := 0) (by omega) (by decide)).mp z; omega), gi_sa, h2, gd_true, bd_some, show Int32.toNatClampNeg 0 = 0 from rfl, ga_san (by decide), ga_sae, upd_if, if_pos rfl, if_neg (show ¬ nI x.1 = 0 from fun z => by have := (nI_eq (b := 0) (by omega) (by decide)).mp z; omega)]
  rfl
