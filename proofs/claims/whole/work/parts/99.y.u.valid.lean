theorem rows_ok {u : Nat → Nat} {n so : Nat} {ps vs ks : Nat → Nat} {L : Nat} (hP2 : Ptx u n so ps vs ks L) (hso : so < 4) (hff : ffl u n ps vs L = none) : ∀ l, l < L → vfr so ≤ vs l ∧ vs l < vfr (so + 1) ∧ ¬ tmy vs l = true ∧ ∀ j, j < nmb (vs l) → okP (num u n ps vs) vs l j = true := by
  intro l hl
  obtain ⟨y1, y2, y3⟩ := ffl_none (ffl_all hff (l + 1) (by omega))
  have hv := hP2.v hso hl
  exact ⟨hv.1, hv.2.1, y2, y3⟩
theorem mok {u : Nat → Nat} {n : Nat} {ps vs ks : Nat → Nat} {L : Nat} (hP2 : Ptx u n 1 ps vs ks L) (hff : ffl u n ps vs L = none) (hL40 : L ≤ 40) : MvOK (L, mrv u n ps vs) := by
  refine ⟨hL40, fun k hk => ?_⟩
  obtain ⟨v1, v2, -, ok⟩ := rows_ok hP2 (by decide) hff k hk
  have v1 : 4 ≤ vs k := v1
  have v2 : vs k < 10 := v2
  have hnum : ∀ j, j < nmb (vs k) → num u n ps vs k j < 10 := by
    intro j hj
    have o := ok j hj
    rw [okP_iff] at o
    have hm : ∀ v, v < 10 → 4 ≤ v → ∀ j, j < nmb v → mst v j < 10 := by decide +kernel
    have := hm (vs k) v2 v1 j hj
    omega
  have hd : ∀ c, 1 ≤ c → dOK (mrv u n ps vs k c) := by
    intro c hc
    unfold mrv
    rw [if_neg (by omega)]
    by_cases e : c - 1 < nmb (vs k)
    · rw [if_pos e]
      exact Or.inr ⟨_, hnum _ e, rfl⟩
    · rw [if_neg e]
      exact Or.inl rfl
  exact ⟨⟨vs k - 4, by omega, show mrv u n ps vs k 0 = nI (vs k - 4) from if_pos rfl⟩, hd 1 (by decide), hd 2 (by decide), hd 3 (by decide)⟩
theorem dok {u : Nat → Nat} {n : Nat} {ps vs ks : Nat → Nat} {L : Nat} (hP2 : Ptx u n 2 ps vs ks L) (hff : ffl u n ps vs L = none) (hL8 : L ≤ 8) : DvOK (L, fun k c => nI (num u n ps vs k c)) := by
  have hv : ∀ k, k < L → vs k = 10 := fun k hk => by
    obtain ⟨v1, v2, -, -⟩ := rows_ok hP2 (by decide) hff k hk
    have v1 : 10 ≤ vs k := v1
    have v2 : vs k < 11 := v2
    omega
  have ok : ∀ k, k < L → ((if k = 0 then 0 else num u n ps vs (k - 1) 0) ≤ num u n ps vs k 0 ∧ num u n ps vs k 0 ≤ 60) ∧ num u n ps vs k 1 ≤ 7 ∧ (1 ≤ num u n ps vs k 2 ∧ num u n ps vs k 2 ≤ 60) := fun k hk => by
    obtain ⟨-, -, -, o⟩ := rows_ok hP2 (by decide) hff k hk
    have e := hv k hk
    obtain ⟨k0, k1, k2⟩ := ok_10 (m := num u n ps vs) e
    exact ⟨k0.mp (o 0 (by rw [e]; decide)), k1.mp (o 1 (by rw [e]; decide)), k2.mp (o 2 (by rw [e]; decide))⟩
  have mono : ∀ d j, j + d < L → num u n ps vs j 0 ≤ num u n ps vs (j + d) 0 := by
    intro d
    induction d with
    | zero => exact fun j _ => Nat.le_refl _
    | succ d ih =>
      intro j hj
      have a := ih j (by omega)
      have b := (ok (j + d + 1) hj).1.1
      rw [if_neg (by omega), show j + d + 1 - 1 = j + d by omega] at b
      exact Nat.le_trans a b
  refine ⟨hL8, fun k hk => ?_⟩
  have o := ok k hk
  refine ⟨⟨_, o.1.2, rfl⟩, ⟨_, by omega, rfl⟩, ⟨_, o.2.2.1, o.2.2.2, rfl⟩, fun j hj => ?_⟩
  have hj2 := mono (k - j) j (by omega)
  rw [show j + (k - j) = k by omega] at hj2
  show (nI (num u n ps vs j 0)).toInt ≤ (nI (num u n ps vs k 0)).toInt
  have o2 := o.1.2
  rw [nI_toInt (by omega), nI_toInt (by omega)]
  omega
theorem lok {u : Nat → Nat} {n : Nat} {ps vs ks : Nat → Nat} {L : Nat} (hP2 : Ptx u n 3 ps vs ks L) (hff : ffl u n ps vs L = none) (hL8 : L ≤ 8) : LvOK (L, fun k c => nI (num u n ps vs k c)) := by
  refine ⟨hL8, fun k hk => ?_⟩
  obtain ⟨v1, v2, -, o⟩ := rows_ok hP2 (by decide) hff k hk
  have v1 : 11 ≤ vs k := v1
  have v2 : vs k < 12 := v2
  have e : vs k = 11 := by omega
  obtain ⟨k0, k1⟩ := ok_11 (m := num u n ps vs) e
  have a := k0.mp (o 0 (by rw [e]; decide))
  have b := k1.mp (o 1 (by rw [e]; decide))
  exact ⟨⟨_, by omega, rfl⟩, _, b.2, rfl⟩
theorem mxv {h : Rec} {u : Nat → Nat} {n : Nat} {ps vs ks : Nat → Nat} {L : Nat} (hP2 : Ptx u n 1 ps vs ks L) (hx : RwX h u n ps vs 40 L) : MX h (L, mrv u n ps vs) := by
  refine ⟨hx.1, hx.2.1, fun k hk => ?_⟩
  have v1 : 4 ≤ vs k := (hP2.v (by decide) hk).1
  have q := hx.2.2 k hk
  refine ⟨?_, fun c hc => ?_⟩
  · rw [q.1]
    show nI (vs k) = mrv u n ps vs k 0 + 4
    unfold mrv
    rw [if_pos rfl, show (4 : Int32) = nI 4 from rfl, nI_add, show vs k - 4 + 4 = vs k by omega]
  · rw [q.2 c hc]
    show nmv u n (qn u n (ps k) (vs k)) (vs k) c = mrv u n ps vs k (c + 1)
    unfold mrv nmv
    rw [if_neg (show ¬ c + 1 = 0 by omega), show c + 1 - 1 = c by omega]
    rfl
theorem dxv {h : Rec} {u : Nat → Nat} {n : Nat} {ps vs ks : Nat → Nat} {L : Nat} (hP2 : Ptx u n 2 ps vs ks L) (hx : RwX h u n ps vs 8 L) : DX h (L, fun k c => nI (num u n ps vs k c)) := by
  refine ⟨hx.1, hx.2.1, fun k hk c hc => ?_⟩
  have hv := hP2.v (by decide) hk
  have v1 : 10 ≤ vs k := hv.1
  have v2 : vs k < 11 := hv.2.1
  rw [(hx.2.2 k hk).2 c hc]
  unfold nmv
  rw [if_pos (by rw [show vs k = 10 by omega]; exact hc)]
  rfl
theorem lxv {h : Rec} {u : Nat → Nat} {n : Nat} {ps vs ks : Nat → Nat} {L : Nat} (hP2 : Ptx u n 3 ps vs ks L) (hx : RwX h u n ps vs 8 L) : LX h (L, fun k c => nI (num u n ps vs k c)) := by
  refine ⟨hx.1, hx.2.1, fun k hk c hc => ?_⟩
  have hv := hP2.v (by decide) hk
  have v1 : 11 ≤ vs k := hv.1
  have v2 : vs k < 12 := hv.2.1
  rw [(hx.2.2 k hk).2 c (by omega)]
  unfold nmv
  rw [if_pos (by rw [show vs k = 11 by omega]; exact hc)]
  rfl
