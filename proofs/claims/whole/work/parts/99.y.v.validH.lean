def HW (v : Hv) (P S : Nat) : Prop := (∀ p, p < hP v → hTa v p < 4 ∧ hWe v p < 10) ∧ (∀ p, hP v ≤ p → hWe v p = 0) ∧ (∀ p, P ≤ p → hKn v p = 0) ∧ (∀ p, hKn v p < 2 ^ S) ∧ (∀ s, s < hS v → hKi v s < 4 ∧ 1 ≤ hWt v s ∧ hWt v s ≤ 30) ∧ ∀ l, l < hL v → hA1 v l < S ∧ hA2 v l < S ∧ hA3 v l < S
theorem updN_if (f : Nat → Nat) (a b p : Nat) : updN f a b p = if p = a then b else f p := rfl
theorem HW.adP {v : Hv} {P S k x : Nat} (h : HW v P S) (hk : k < 4) (hx : x < 10) : HW (hadP v k x) P S := by
  obtain ⟨a, b, c, d, e, f⟩ := h
  refine ⟨fun p hp => ?_, fun p hp => ?_, c, d, e, f⟩
  · have hp : p < hP v + 1 := hp
    show updN (hTa v) (hP v) k p < 4 ∧ updN (hWe v) (hP v) x p < 10
    rw [updN_if, updN_if]
    by_cases z : p = hP v
    · rw [if_pos z, if_pos z]; exact ⟨hk, hx⟩
    · rw [if_neg z, if_neg z]; exact a p (by omega)
  · have hp : hP v + 1 ≤ p := hp
    show updN (hWe v) (hP v) x p = 0
    rw [updN_if, if_neg (by omega)]
    exact b p (by omega)
theorem HW.adS {v : Hv} {P S k x : Nat} (h : HW v P S) (hk : k < 4) (hx : 1 ≤ x ∧ x ≤ 30) : HW (hadS v k x) P S := by
  obtain ⟨a, b, c, d, e, f⟩ := h
  refine ⟨a, b, c, d, fun s hs => ?_, f⟩
  have hs : s < hS v + 1 := hs
  show updN (hKi v) (hS v) k s < 4 ∧ 1 ≤ updN (hWt v) (hS v) x s ∧ updN (hWt v) (hS v) x s ≤ 30
  rw [updN_if, updN_if]
  by_cases z : s = hS v
  · rw [if_pos z, if_pos z]; exact ⟨hk, hx⟩
  · rw [if_neg z, if_neg z]; exact e s (by omega)
theorem HW.adK {v : Hv} {P S p s : Nat} (h : HW v P S) (hp : p < P) (hs : s < S) : HW (hadK v p s) P S := by
  obtain ⟨a, b, c, d, e, f⟩ := h
  refine ⟨a, b, fun q hq => ?_, fun q => ?_, e, f⟩
  · show updN (hKn v) p (hKn v p ||| 2 ^ s) q = 0
    rw [updN_if, if_neg (by omega)]
    exact c q hq
  · show updN (hKn v) p (hKn v p ||| 2 ^ s) q < 2 ^ S
    rw [updN_if]
    by_cases z : q = p
    · rw [if_pos z]
      exact Nat.or_lt_two_pow (d p) (Nat.pow_lt_pow_right (by decide) hs)
    · rw [if_neg z]; exact d q
theorem HW.adL {v : Hv} {P S x y w : Nat} (h : HW v P S) (hx : x < S) (hy : y < S) (hw : w < S) : HW (hadL v x y w) P S := by
  obtain ⟨a, b, c, d, e, f⟩ := h
  refine ⟨a, b, c, d, e, fun l hl => ?_⟩
  have hl : l < hL v + 1 := hl
  show updN (hA1 v) (hL v) x l < S ∧ updN (hA2 v) (hL v) y l < S ∧ updN (hA3 v) (hL v) w l < S
  rw [updN_if, updN_if, updN_if]
  by_cases z : l = hL v
  · rw [if_pos z, if_pos z, if_pos z]; exact ⟨hx, hy, hw⟩
  · rw [if_neg z, if_neg z, if_neg z]; exact f l (by omega)
theorem hok {u : Nat → Nat} {n : Nat} {ps vs ks : Nat → Nat} {L : Nat} (hP2 : Ptx u n 0 ps vs ks L) (hff : ffl u n ps vs L = none) (hm : ¬ ∃ l, l < L ∧ msg u n ps vs L l) (b0 : cnt vs 0 L ≤ 8) (b1 : cnt vs 1 L ≤ 10) (b3 : cnt vs 3 L ≤ 8) : HvOK (hvl u n ps vs ks L) := by
  have key : ∀ l, l ≤ L → HW (hvl u n ps vs ks l) (cnt vs 0 L) (cnt vs 1 L) := by
    intro l
    induction l with
    | zero => exact fun _ => ⟨fun p hp => absurd hp (Nat.not_lt_zero p), fun p _ => rfl, fun p _ => rfl, fun p => Nat.two_pow_pos _, fun p hp => absurd hp (Nat.not_lt_zero p), fun p hp => absurd hp (Nat.not_lt_zero p)⟩
    | succ l ih =>
      intro hl
      have h := ih (by omega)
      obtain ⟨v1, v2, -, ok⟩ := rows_ok hP2 (by decide) hff l (by omega)
      have v2 : vs l < 4 := v2
      have hk := (hP2.2 l (by omega)).1.1.2.2.2
      have nm : ¬ msg u n ps vs L l := fun z => hm ⟨l, by omega, z⟩
      unfold msg at nm
      by_cases c0 : vs l = 0
      · rw [show hvl u n ps vs ks (l + 1) = hadP (hvl u n ps vs ks l) (ks l) (num u n ps vs l 0) from if_pos c0]
        exact h.adP (hk (by omega)).1 (by have := (ok_0 (m := num u n ps vs) c0).mp (ok 0 (by rw [c0]; decide)); omega)
      by_cases c1 : vs l = 1
      · rw [show hvl u n ps vs ks (l + 1) = hadS (hvl u n ps vs ks l) (ks l) (num u n ps vs l 0) from by
          show (if vs l = 0 then _ else if vs l = 1 then _ else _) = _
          rw [if_neg c0, if_pos c1]]
        exact h.adS (hk (by omega)).1 ((ok_1 (m := num u n ps vs) c1).mp (ok 0 (by rw [c1]; decide)))
      by_cases c2 : vs l = 2
      · rw [show hvl u n ps vs ks (l + 1) = hadK (hvl u n ps vs ks l) (num u n ps vs l 0) (num u n ps vs l 1) from by
          show (if vs l = 0 then _ else if vs l = 1 then _ else if vs l = 2 then _ else _) = _
          rw [if_neg c0, if_neg c1, if_pos c2]]
        exact h.adK (by omega) (by omega)
      · rw [show hvl u n ps vs ks (l + 1) = hadL (hvl u n ps vs ks l) (num u n ps vs l 0) (num u n ps vs l 1) (num u n ps vs l 2) from by
          show (if vs l = 0 then _ else if vs l = 1 then _ else if vs l = 2 then _ else _) = _
          rw [if_neg c0, if_neg c1, if_neg c2]]
        exact h.adL (by omega) (by omega) (by omega)
  obtain ⟨p0, p1, p3⟩ := hvl_cnt (u := u) (n := n) (ps := ps) (vs := vs) (ks := ks) L (fun x hx => (hP2.v (by decide) hx).2.1)
  obtain ⟨a, b, c, d, e, f⟩ := key L (Nat.le_refl L)
  refine ⟨by omega, by omega, by omega, a, fun p hp => ⟨b p hp, c p (by omega)⟩, by rw [p1]; exact d, e, by rw [p1]; exact f⟩
