def lst (v j : Nat) : Nat := ([0, 0, 0, 1, 0, 0, 0, 0, 0, 0, 0, 0, 0, 0, 0, 0, 0, 0, 0, 0, 0, 0, 0, 0, 0, 0, 0, 0, 0, 0, 0, 0, 1, 0, 0, 0] : List Nat).getD (3 * v + j) 0
def mst (v j : Nat) : Nat := ([9, 0, 0, 30, 0, 0, 7, 9, 0, 9, 9, 9, 9, 7, 0, 9, 7, 7, 7, 0, 0, 7, 0, 0, 7, 0, 0, 0, 0, 0, 60, 7, 60, 7, 60, 0] : List Nat).getD (3 * v + j) 0
theorem lst_d : ∀ v, v < 12 → ∀ j, j < 3 → sDt 3 (3 * v + j) = nI (lst v j) ∧ lst v j < 100 := by decide +kernel
theorem mst_d : ∀ v, v < 12 → ∀ j, j < 3 → sDt 4 (3 * v + j) = nI (mst v j) ∧ mst v j < 100 := by decide +kernel
def cap (v : Nat) : Nat := ([8, 10, 600, 8, 40, 40, 40, 40, 40, 40, 8, 8] : List Nat).getD v 0
theorem cap_d : ∀ v, v < 12 → sDt 2 v = nI (cap v) ∧ cap v ≤ 600 := by decide +kernel
def cnt (vs : Nat → Nat) (v : Nat) : Nat → Nat
  | 0 => 0
  | l + 1 => cnt vs v l + if vs l = v then 1 else 0
theorem cnt_b (vs : Nat → Nat) (v : Nat) : ∀ l, cnt vs v l ≤ l
  | 0 => Nat.le_refl _
  | l + 1 => by
    have h := cnt_b vs v l
    show cnt vs v l + (if vs l = v then 1 else 0) ≤ l + 1
    by_cases c : vs l = v
    · rw [if_pos c]; omega
    · rw [if_neg c]; omega
def tmy (vs : Nat → Nat) (l : Nat) : Bool := decide (cap (vs l) ≤ if vs l ≤ 3 then cnt vs (vs l) l else l)
def num (u : Nat → Nat) (n : Nat) (ps vs : Nat → Nat) (l j : Nat) : Nat := nval u n (pz u n (qn u n (ps l) (vs l)) j)
def plc (u : Nat → Nat) (n : Nat) (ps vs : Nat → Nat) (l j : Nat) : Nat := tks u n (pz u n (qn u n (ps l) (vs l)) j)
def okP (m : Nat → Nat → Nat) (vs : Nat → Nat) (l j : Nat) : Bool := decide (lst (vs l) j ≤ m l j ∧ m l j ≤ mst (vs l) j ∧ (vs l = 3 → 0 < j → m l j ≠ m l 0 ∧ (j = 2 → m l j ≠ m l 1)) ∧ (vs l = 5 → j = 2 → m l j ≠ m l 1) ∧ (vs l = 10 → j = 0 → 0 < l → m (l - 1) 0 ≤ m l 0))
theorem okP_iff {m : Nat → Nat → Nat} {vs : Nat → Nat} {l j : Nat} : okP m vs l j = true ↔ (lst (vs l) j ≤ m l j ∧ m l j ≤ mst (vs l) j ∧ (vs l = 3 → 0 < j → m l j ≠ m l 0 ∧ (j = 2 → m l j ≠ m l 1)) ∧ (vs l = 5 → j = 2 → m l j ≠ m l 1) ∧ (vs l = 10 → j = 0 → 0 < l → m (l - 1) 0 ≤ m l 0)) := decide_eq_true_iff
def lt1 (ff : Option (Nat × Nat)) (b : Bool) (f p : Nat) : Option (Nat × Nat) := match ff with
  | none => if b = true then none else some (f, p)
  | some x => some x
def ffn (ff : Option (Nat × Nat)) (ok : Nat → Bool) (pl : Nat → Nat) : Nat → Option (Nat × Nat)
  | 0 => ff
  | j + 1 => lt1 (ffn ff ok pl j) (ok j) 2 (pl j)
def ffl (u : Nat → Nat) (n : Nat) (ps vs : Nat → Nat) : Nat → Option (Nat × Nat)
  | 0 => none
  | l + 1 => ffn (lt1 (ffl u n ps vs l) (!tmy vs l) 3 (tks u n (ps l))) (okP (num u n ps vs) vs l) (plc u n ps vs l) (nmb (vs l))
theorem ffn_some {x : Nat × Nat} {ok : Nat → Bool} {pl : Nat → Nat} : ∀ j, ffn (some x) ok pl j = some x
  | 0 => rfl
  | j + 1 => by
    show lt1 (ffn (some x) ok pl j) (ok j) 2 (pl j) = _
    rw [ffn_some j]
    rfl
theorem ffn_keep {ff : Option (Nat × Nat)} {x : Nat × Nat} {ok : Nat → Bool} {pl : Nat → Nat} {j : Nat} (h : ffn ff ok pl j = some x) : ∀ k, ffn ff ok pl (j + k) = some x
  | 0 => h
  | k + 1 => by
    show lt1 (ffn ff ok pl (j + k)) (ok (j + k)) 2 (pl (j + k)) = _
    rw [ffn_keep h k]
    rfl
theorem ffl_keep {u : Nat → Nat} {n : Nat} {ps vs : Nat → Nat} {x : Nat × Nat} {l : Nat} (h : ffl u n ps vs l = some x) : ∀ k, ffl u n ps vs (l + k) = some x
  | 0 => h
  | k + 1 => by
    show ffn (lt1 (ffl u n ps vs (l + k)) (!tmy vs (l + k)) 3 (tks u n (ps (l + k)))) _ _ _ = _
    rw [ffl_keep h k]
    exact ffn_some _
theorem nval_b {u : Nat → Nat} {n p : Nat} (hp : p ≤ n) (hk : tkk u n p = 2) : nval u n p < 100 := by
  have h := (tok_b (u := u) hp).2.2.2.2.2.2.2 hk
  have hd : ∀ j, tks u n p ≤ j → j < tke u n p → 48 ≤ u j ∧ u j ≤ 57 := fun j j1 j2 => isDg_iff.mp (h.2 j j1 j2)
  unfold nval
  have h2 := h.1
  obtain ⟨m, hm⟩ : ∃ m, m = tke u n p - tks u n p := ⟨_, rfl⟩
  rw [← hm]
  match m, hm with
  | 0, _ => exact (by decide : 0 < 100)
  | 1, hm =>
    have := hd (tks u n p) (by omega) (by omega)
    show 0 * 10 + (u (tks u n p + 0) - 48) < 100
    rw [Nat.add_zero]
    omega
  | 2, hm =>
    have a := hd (tks u n p) (by omega) (by omega)
    have b := hd (tks u n p + 1) (by omega) (by omega)
    show (0 * 10 + (u (tks u n p + 0) - 48)) * 10 + (u (tks u n p + 1) - 48) < 100
    rw [Nat.add_zero]
    omega
  | k + 3, hm => omega
theorem Ptx.v {u : Nat → Nat} {n so : Nat} {ps vs ks : Nat → Nat} {L l : Nat} (h : Ptx u n so ps vs ks L) (hso : so < 4) (hl : l < L) : vfr so ≤ vs l ∧ vs l < vfr (so + 1) ∧ vs l < 12 := by
  have h1 := (h.2 l hl).1.1
  have h2 := vfr_b so hso
  exact ⟨h1.1, h1.2.1, by have := h1.2.1; omega⟩
theorem Ptx.num {u : Nat → Nat} {n so : Nat} {ps vs ks : Nat → Nat} {L l j : Nat} (h : Ptx u n so ps vs ks L) (hso : so < 4) (hl : l < L) (hj : j < nmb (vs l)) : num u n ps vs l j < 100 ∧ plc u n ps vs l j ≤ n := by
  have hb := h.b hso l (by omega)
  have q1 := pz_b (u := u) hb.2 (1 + off (vs l))
  have q2 := pz_b (u := u) q1.2 j
  have ht := tok_b (u := u) q2.2
  exact ⟨nval_b q2.2 ((h.2 l hl).1.2.1 j hj), by show tks u n _ ≤ n; unfold qn; omega⟩
theorem LnsX.n9 {c : Rec} {u : Nat → Nat} {n : Nat} {ps vs ks : Nat → Nat} {L l j : Nat} (h : LnsX c u n ps vs ks L) (hl : l < L) (hj : j < 3) (hj2 : j < nmb (vs l)) : ga c 9 (3 * l + j) = nI (num u n ps vs l j) ∧ ga c 10 (3 * l + j) = nI (plc u n ps vs l j) := by
  have h1 := (h l hl).2.2.2 j hj
  rw [h1.1, h1.2]
  unfold nmv plv
  rw [if_pos hj2, if_pos hj2]
  exact ⟨rfl, rfl⟩
theorem vfr_10 : ∀ so, so < 4 → vfr so ≤ 10 → 10 < vfr (so + 1) → vfr so = 10 ∧ vfr (so + 1) = 11 := by decide +kernel
theorem sLn_3 : sLn 3 = 36 := rfl
theorem sLn_4 : sLn 4 = 36 := rfl
theorem sLn_2 : sLn 2 = 12 := rfl
theorem nmb_3 : nmb 3 = 3 := rfl
theorem nmb_5 : nmb 5 = 3 := rfl
theorem nmb_10 : nmb 10 = 3 := rfl
theorem mayBe_nI {c : Rec} {u : Nat → Nat} {n so : Nat} {ps vs ks : Nat → Nat} {L l j : Nat} (hP : Ptx u n so ps vs ks L) (hso : so < 4) (h : LnsX c u n ps vs ks L) (hL : L ≤ 120) (hl : l < L) (hj : j < nmb (vs l)) : fX4_mayBe c (nI l) (nI j) = some (if okP (num u n ps vs) vs l j = true then nI 1 else nI 0) := by
  obtain ⟨v1, v2, v3⟩ := hP.v hso hl
  have hm := nmb_b (vs l) v3
  have h6 := (h l hl).1
  have h9 := (h.n9 hl (show j < 3 by omega) hj).1
  have hb := (hP.num hso hl hj).1
  have t3 := lst_d (vs l) v3 j (by omega)
  have t4 := mst_d (vs l) v3 j (by omega)
  have i1 : nI l * 3 + nI j = nI (3 * l + j) := by rw [show (3 : Int32) = nI 3 from rfl, pk_mul, nI_add, Nat.mul_comm]
  have i2 : nI (vs l) * 3 + nI j = nI (3 * vs l + j) := by rw [show (3 : Int32) = nI 3 from rfl, pk_mul, nI_add, Nat.mul_comm]
  have i3 : nI l * 3 = nI (3 * l) := by rw [show (3 : Int32) = nI 3 from rfl, pk_mul, Nat.mul_comm]
  have e0 : fX4_mayBe c (nI l) (nI j) = if nI (num u n ps vs l j) < nI (lst (vs l) j) then some 0 else if nI (num u n ps vs l j) ≤ nI (mst (vs l) j) then if nI (vs l) = 3 then if nI j ≤ 0 then bX4_mayBe_99 c (nI l) (nI j) (nI (vs l)) (nI (3 * l)) (nI (num u n ps vs l j)) else if nI (num u n ps vs l j) = ga c 9 (3 * l) then some 0 else if nI j = 1 then some 1 else if nI (num u n ps vs l j) = ga c 9 (3 * l + 1) then some 0 else some 1 else bX4_mayBe_99 c (nI l) (nI j) (nI (vs l)) (nI (3 * l)) (nI (num u n ps vs l j)) else some 0 := by
    unfold fX4_mayBe bX4_mayBe_93
    rw [inR_nI (show l < 120 by omega) (by decide), gd_true, bd_some, nI_clamp (show l < 2 ^ 31 by omega), h6, i1, i2, i3, inR_nI (show 3 * l + j < 360 by omega) (by decide), gd_true, bd_some, nI_clamp (show 3 * l + j < 2 ^ 31 by omega), h9, sLn_3, sLn_4, inR_nI (show 3 * vs l + j < 36 by omega) (by decide), gd_true, gd_true, nI_clamp (show 3 * vs l + j < 2 ^ 31 by omega), t3.1, t4.1, inR_nI (show 3 * l < 360 by omega) (by decide), gd_true, nI_clamp (show 3 * l < 2 ^ 31 by omega), show nI (3 * l) + 1 = nI (3 * l + 1) from nI_1 _, inR_nI (show 3 * l + 1 < 360 by omega) (by decide), gd_true, nI_clamp (show 3 * l + 1 < 2 ^ 31 by omega)]
  rw [e0]
  have t3b := t3.2
  have t4b := t4.2
  generalize hx : num u n ps vs l j = x at *
  by_cases a1 : x < lst (vs l) j
  · rw [if_pos ((nI_ltI (by omega) (by omega)).mpr a1), if_neg (by rw [okP_iff, hx]; omega)]
    rfl
  rw [if_neg (fun z => a1 ((nI_ltI (by omega) (by omega)).mp z))]
  by_cases a2 : x ≤ mst (vs l) j
  · rw [if_pos ((nI_leI (by omega) (by omega)).mpr a2)]
    have n0 : ∀ i, i < nmb (vs l) → ga c 9 (3 * l + i) = nI (num u n ps vs l i) ∧ num u n ps vs l i < 100 := fun i hi => ⟨(h.n9 hl (by omega) hi).1, (hP.num hso hl hi).1⟩
    have v99 : vs l ≠ 3 → bX4_mayBe_99 c (nI l) (nI j) (nI (vs l)) (nI (3 * l)) (nI x) = some (if okP (num u n ps vs) vs l j = true then nI 1 else nI 0) := by
      intro b3
      unfold bX4_mayBe_99
      by_cases b5 : vs l = 5
      · rw [if_pos (show nI (vs l) = 5 by rw [b5]; rfl)]
        by_cases c2 : j = 2
        · have q1 := n0 1 (by rw [b5]; decide)
          rw [if_pos (show nI j = 2 by rw [c2]; rfl), show nI (3 * l) + 1 = nI (3 * l + 1) from nI_1 _, inR_nI (show 3 * l + 1 < 360 by omega) (by decide), gd_true, nI_clamp (show 3 * l + 1 < 2 ^ 31 by omega), q1.1]
          by_cases c1 : x = num u n ps vs l 1
          · rw [if_pos (by rw [c1]), if_neg (by rw [okP_iff, hx]; omega)]
            rfl
          · rw [if_neg (fun z => c1 ((nI_eq (by omega) (by omega)).mp z)), if_pos (by rw [okP_iff, hx]; omega)]
            rfl
        · rw [if_neg (show ¬ nI j = 2 from fun z => c2 ((nI_eq (b := 2) (by omega) (by decide)).mp z))]
          unfold bX4_mayBe_129 bX4_mayBe_157
          rw [if_neg (show ¬ nI (vs l) = 10 by rw [b5]; decide), if_pos (by rw [okP_iff, hx]; omega)]
          rfl
      · rw [if_neg (show ¬ nI (vs l) = 5 from fun z => b5 ((nI_eq (b := 5) (by omega) (by decide)).mp z))]
        unfold bX4_mayBe_129 bX4_mayBe_157
        by_cases b10 : vs l = 10
        · rw [if_pos (show nI (vs l) = 10 by rw [b10]; rfl)]
          by_cases c0 : 0 < j
          · rw [if_pos (show (0 : Int32) < nI j from (nI_ltI (a := 0) (by decide) (by omega)).mpr c0), if_pos (by rw [okP_iff, hx]; omega)]
            rfl
          · rw [if_neg (show ¬ (0 : Int32) < nI j from fun z => c0 ((nI_ltI (a := 0) (by decide) (by omega)).mp z))]
            by_cases d0 : l = 0
            · rw [if_pos (show nI l = 0 by rw [d0]; rfl), if_pos (by rw [okP_iff, hx]; omega)]
              rfl
            · have w1 := hP.v hso (show l - 1 < L by omega)
              have w2 := vfr_10 so hso (by omega) (by omega)
              have w3 : vs (l - 1) = 10 := by omega
              have q1 := (h.n9 (l := l - 1) (j := 0) (by omega) (by decide) (by rw [w3]; decide)).1
              have q2 := (hP.num hso (l := l - 1) (j := 0) (by omega) (by rw [w3]; decide)).1
              rw [if_neg (show ¬ nI l = 0 from fun z => d0 ((nI_eq (b := 0) (by omega) (by decide)).mp z)), show nI (3 * l) - 3 = nI (3 * (l - 1) + 0) by rw [show (3 : Int32) = nI 3 from rfl, pk_sub (by omega), show 3 * l - 3 = 3 * (l - 1) + 0 by omega], inR_nI (show 3 * (l - 1) + 0 < 360 by omega) (by decide), gd_true, nI_clamp (show 3 * (l - 1) + 0 < 2 ^ 31 by omega), q1]
              have j0 : j = 0 := by omega
              by_cases c1 : x < num u n ps vs (l - 1) 0
              · rw [if_pos ((nI_ltI (by omega) (by omega)).mpr c1), if_neg (by rw [okP_iff, hx]; subst j0; omega)]
                rfl
              · rw [if_neg (fun z => c1 ((nI_ltI (by omega) (by omega)).mp z)), if_pos (by rw [okP_iff, hx]; subst j0; omega)]
                rfl
        · rw [if_neg (show ¬ nI (vs l) = 10 from fun z => b10 ((nI_eq (b := 10) (by omega) (by decide)).mp z)), if_pos (by rw [okP_iff, hx]; omega)]
          rfl
    by_cases b3 : vs l = 3
    · rw [if_pos (show nI (vs l) = 3 by rw [b3]; rfl)]
      by_cases c0 : j = 0
      · rw [if_pos (show nI j ≤ 0 by rw [c0]; decide)]
        unfold bX4_mayBe_99 bX4_mayBe_129 bX4_mayBe_157
        rw [if_neg (show ¬ nI (vs l) = 5 by rw [b3]; decide), if_neg (show ¬ nI (vs l) = 10 by rw [b3]; decide), if_pos (by rw [okP_iff, hx]; omega)]
        rfl
      · have q0 := n0 0 (by rw [b3]; decide)
        have q1 := n0 1 (by rw [b3]; decide)
        rw [Nat.add_zero] at q0
        rw [if_neg (show ¬ nI j ≤ 0 from fun z => c0 (by have := (nI_leI (b := 0) (by omega) (by decide)).mp z; omega)), q0.1, q1.1]
        by_cases c1 : x = num u n ps vs l 0
        · rw [if_pos (by rw [c1]), if_neg (by rw [okP_iff, hx]; omega)]
          rfl
        rw [if_neg (fun z => c1 ((nI_eq (by omega) (by omega)).mp z))]
        by_cases c2 : j = 1
        · rw [if_pos (show nI j = 1 by rw [c2]; rfl), if_pos (by rw [okP_iff, hx]; omega)]
          rfl
        rw [if_neg (show ¬ nI j = 1 from fun z => c2 ((nI_eq (b := 1) (by omega) (by decide)).mp z))]
        by_cases c3 : x = num u n ps vs l 1
        · rw [if_pos (by rw [c3]), if_neg (by rw [okP_iff, hx]; omega)]
          rfl
        · rw [if_neg (fun z => c3 ((nI_eq (by omega) (by omega)).mp z)), if_pos (by rw [okP_iff, hx]; omega)]
          rfl
    · rw [if_neg (show ¬ nI (vs l) = 3 from fun z => b3 ((nI_eq (b := 3) (by omega) (by decide)).mp z))]
      exact v99 b3
  · rw [if_neg (fun z => a2 ((nI_leI (by omega) (by omega)).mp z)), if_neg (by rw [okP_iff, hx]; omega)]
    rfl
