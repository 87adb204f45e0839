def AtM (r : Rec) (u : Nat → Nat) (n p : Nat) : Prop := MTp r u n ∧ p ≤ n ∧ gi r 10 = nI (tke u n p) ∧ gi r 12 = nI (tks u n p) ∧ gi r 13 = nI (rk (tkk u n p)) ∧ (tkk u n p = 2 → gi r 14 = nI (nval u n p)) ∧ (tkk u n p = 1 → gl r 15 = wdq u n p)
theorem AtM.to {r r' : Rec} {u : Nat → Nat} {n p : Nat} (h : AtM r u n p) (h1 : ga r' 1 = ga r 1) (h2 : ∀ k, 10 ≤ k → k ≤ 14 → gi r' k = gi r k) (h3 : gl r' 15 = gl r 15) : AtM r' u n p := by
  obtain ⟨a, b, c, d, e, f, g⟩ := h
  exact ⟨a.to (h2 11 (by decide) (by decide)) h1, b, (h2 10 (by decide) (by decide)).trans c, (h2 12 (by decide) (by decide)).trans d, (h2 13 (by decide) (by decide)).trans e, fun z => (h2 14 (by decide) (by decide)).trans (f z), fun z => h3.trans (g z)⟩
theorem AtM.of {r r' : Rec} {u : Nat → Nat} {n p : Nat} (h : MTp r u n) (hp : p ≤ n) (ht : TkM r r' u n p) : AtM r' u n p := by
  obtain ⟨a, b, c, d, e, f, g⟩ := ht
  refine ⟨h.to (f 11 (by decide) (by decide) (by decide) (by decide)) (g 1), hp, a, b, c, d, fun z => ?_⟩
  rw [e z]
  unfold wdq
  rw [if_pos z]
theorem AtM.next {r : Rec} {u : Nat → Nat} {n p : Nat} (h : AtM r u n p) : ∃ r', fX10_token r = some r' ∧ AtM r' u n (tke u n p) ∧ (∀ k, k ≠ 10 → k ≠ 12 → k ≠ 13 → k ≠ 14 → gi r' k = gi r k) ∧ ∀ k, ga r' k = ga r k := by
  have hb := tok_b (u := u) h.2.1
  obtain ⟨r', h1, h2⟩ := tokM h.1 h.2.2.1 hb.2.2.1
  exact ⟨r', h1, AtM.of h.1 hb.2.2.1 h2, h2.2.2.2.2.2.1, h2.2.2.2.2.2.2⟩
theorem rk_2 : ∀ k, k ≤ 4 → (rk k = 3 ↔ k = 2) := by decide +kernel
theorem rk_1 : ∀ k, k ≤ 4 → (rk k = 2 ↔ k = 1) := by decide +kernel
theorem rk_3 : ∀ k, k ≤ 4 → (rk k = 4 ↔ k = 3) := by decide +kernel
theorem rk_0 : ∀ k, k ≤ 4 → (rk k = 0 ↔ k = 0) := by decide +kernel
theorem rk_b : ∀ k, k ≤ 4 → rk k ≤ 4 := by decide +kernel
def FS (r : Rec) (ff : Option (Nat × Nat)) (b : Nat) : Prop := match ff with
  | none => gi r 17 = nI 0
  | some x => gi r 17 = nI x.1 ∧ gi r 18 = nI x.2 ∧ 0 < x.1 ∧ x.1 ≤ 4 ∧ x.2 < b
theorem FS.to {r r' : Rec} {ff : Option (Nat × Nat)} {b b' : Nat} (h : FS r ff b) (h1 : gi r' 17 = gi r 17) (h2 : gi r' 18 = gi r 18) (hb : b ≤ b') : FS r' ff b' := by
  cases ff with
  | none => exact h1.trans h
  | some x => exact ⟨h1.trans h.1, h2.trans h.2.1, h.2.2.1, h.2.2.2.1, by have := h.2.2.2.2; omega⟩
theorem later_nI {r : Rec} {ff : Option (Nat × Nat)} {b f p : Nat} (h : FS r ff b) (hb : b ≤ p) (hp : p < 2 ^ 31) (hf : 0 < f) (hf2 : f ≤ 4) : ∃ r', fX10_later r (nI f) (nI p) = some r' ∧ FS r' (lt1 ff false f p) (p + 1) ∧ (∀ k, k ≠ 17 → k ≠ 18 → gi r' k = gi r k) ∧ (∀ k, ga r' k = ga r k) ∧ ∀ k, gl r' k = gl r k := by
  cases ff with
  | none =>
    refine ⟨si (si r 17 (nI f)) 18 (nI p), ?_, ⟨?_, gi_sie _ _ _, hf, hf2, Nat.lt_succ_self p⟩, fun k k1 k2 => by rw [gi_sin k2, gi_sin k1], fun k => rfl, fun k => rfl⟩
    · unfold fX10_later bX10_later_31
      rw [if_pos (show gi r 17 = 0 from h)]
      rfl
    · rw [gi_sin (by decide), gi_sie]
  | some x =>
    obtain ⟨h1, h2, h3, h4, h5⟩ := h
    refine ⟨r, ?_, ⟨h1, h2, h3, h4, by omega⟩, fun k _ _ => rfl, fun k => rfl, fun k => rfl⟩
    unfold fX10_later
    rw [h1, h2, if_neg (show ¬ nI x.1 = 0 from fun z => by have := (nI_eq (b := 0) (by omega) (by decide)).mp z; omega), if_neg (show ¬ nI p < nI x.2 from fun z => by have := (nI_ltI (by omega) (by omega)).mp z; omega), if_neg (show ¬ nI p = nI x.2 from fun z => by have := (nI_eq (by omega) (by omega)).mp z; omega)]
/-- what taking a number leaves -/
def TkR (r r' : Rec) (u : Nat → Nat) (n p j : Nat) (ff : Option (Nat × Nat)) (ok : Bool) (f21 f22 : Int32) : Prop := AtM r' u n (tke u n p) ∧ FS r' (lt1 ff ok 2 (tks u n p)) (tks u n (tke u n p)) ∧ ga r' 20 = upd (ga r 20) j (nI (nval u n p)) ∧ (∀ k, k ≠ 20 → ga r' k = ga r k) ∧ gi r' 24 = (if ok = true then gi r 24 else 0) ∧ gi r' 23 = gi r 23 ∧ gi r' 21 = f21 ∧ gi r' 22 = f22
theorem fails_nI {r : Rec} {u : Nat → Nat} {n p : Nat} (h : AtM r u n p) : fX10_fails r = some (si r 16 (nI (tks u n p)), 0) := by
  unfold fX10_fails
  rw [h.2.2.2.1]
  rfl
theorem takeBut_no {r : Rec} {u : Nat → Nat} {n p : Nat} {j a b v4 v5 : Int32} (h : AtM r u n p) (hk : ¬ tkk u n p = 2) : fX10_takeBut r j a b v4 v5 = some (si r 16 (nI (tks u n p)), 0) := by
  have hb := (tok_b (u := u) h.2.1).2.2.2.1
  have hr := rk_b _ hb
  unfold fX10_takeBut
  rw [h.2.2.2.2.1, if_neg (show ¬ nI (rk (tkk u n p)) = 3 from fun z => hk ((rk_2 _ hb).mp ((nI_eq (b := 3) (by omega) (by decide)).mp z))), fails_nI h]
  rfl
theorem takeBut_nI {r : Rec} {u : Nat → Nat} {n p j a b : Nat} {v4 v5 : Int32} {ff : Option (Nat × Nat)} {ok : Bool} (h : AtM r u n p) (hk : tkk u n p = 2) (hj : j < 4) (hF : FS r ff (tks u n p)) (ha : a < 2 ^ 31) (hb2 : b < 2 ^ 31) (hok : ok = true ↔ (a ≤ nval u n p ∧ nval u n p ≤ b ∧ nI (nval u n p) ≠ v4 ∧ nI (nval u n p) ≠ v5)) : ∃ r', fX10_takeBut r (nI j) (nI a) (nI b) v4 v5 = some (r', 1) ∧ TkR r r' u n p j ff ok (gi r 21) (gi r 22) := by
  have hb := tok_b (u := u) h.2.1
  have hb3 := hb.2.2.2.2.2.1 (by omega)
  have hbn := tok_b (u := u) hb.2.2.1
  have hn := h.1.1
  have hx := nval_b h.2.1 hk
  obtain ⟨q, hq⟩ : ∃ q, q = sa r 20 (upd (ga r 20) j (nI (nval u n p))) := ⟨_, rfl⟩
  have hqA : AtM q u n p := h.to (by rw [hq, ga_san (by decide)]) (fun k _ _ => by rw [hq]; rfl) (by rw [hq]; rfl)
  have q14 : gi q 14 = nI (nval u n p) := hqA.2.2.2.2.2.1 hk
  have q12 : gi q 12 = nI (tks u n p) := hqA.2.2.2.1
  have qg : ∀ k, gi q k = gi r k := fun k => by rw [hq]; rfl
  have e0 : fX10_takeBut r (nI j) (nI a) (nI b) v4 v5 = (fX10_in (nI (nval u n p)) (nI a) (nI b)).bind fun z6 => if z6 = 0 then bX10_takeBut_53 q else if nI (nval u n p) = v4 then bX10_takeBut_53 q else if nI (nval u n p) = v5 then bX10_takeBut_53 q else bX10_takeBut_67 q := by
    unfold fX10_takeBut
    rw [h.2.2.2.2.1, if_pos (show nI (rk (tkk u n p)) = 3 by rw [hk]; rfl), inR_nI hj (by decide), gd_true, nI_clamp (show j < 2 ^ 31 by omega), h.2.2.2.2.2.1 hk, ← hq, bd_some, q14]
  have eT : ok = true → ∃ r', bX10_takeBut_67 q = some (r', 1) ∧ TkR r r' u n p j ff ok (gi r 21) (gi r 22) := by
    intro o
    obtain ⟨r', f1, f2, f3, f4⟩ := hqA.next
    refine ⟨r', ?_, f2, ?_, by rw [f4, hq, ga_sae], fun k hk => by rw [f4, hq, ga_san hk], ?_, ?_, ?_, ?_⟩
    · unfold bX10_takeBut_67
      rw [f1]
      rfl
    · rw [show lt1 ff ok 2 (tks u n p) = ff by rw [o]; cases ff <;> rfl]
      exact hF.to (by rw [f3 17 (by decide) (by decide) (by decide) (by decide), qg]) (by rw [f3 18 (by decide) (by decide) (by decide) (by decide), qg]) (by omega)
    · rw [if_pos o, f3 24 (by decide) (by decide) (by decide) (by decide), qg]
    · rw [f3 23 (by decide) (by decide) (by decide) (by decide), qg]
    · rw [f3 21 (by decide) (by decide) (by decide) (by decide), qg]
    · rw [f3 22 (by decide) (by decide) (by decide) (by decide), qg]
  have eF : ok = false → ∃ r', bX10_takeBut_53 q = some (r', 1) ∧ TkR r r' u n p j ff ok (gi r 21) (gi r 22) := by
    intro o
    obtain ⟨r1, f1, f2, f3, f4, f5⟩ := later_nI (f := 2) (hF.to (r' := q) (qg 17) (qg 18) (Nat.le_refl _)) (Nat.le_refl _) (by omega) (by decide) (by decide)
    have hA1 : AtM (si r1 24 0) u n p := hqA.to (f4 1) (fun k k1 k2 => by rw [gi_sin (by omega)]; exact f3 k (by omega) (by omega)) (f5 15)
    obtain ⟨r', g1, g2, g3, g4⟩ := hA1.next
    refine ⟨r', ?_, g2, ?_, by rw [g4]; show ga r1 20 = _; rw [f4, hq, ga_sae], fun k hk => by rw [g4]; show ga r1 k = _; rw [f4, hq, ga_san hk], ?_, ?_, ?_, ?_⟩
    · unfold bX10_takeBut_53 bX10_takeBut_67
      rw [q12, show (2 : Int32) = nI 2 from rfl, f1, bd_some, bd_some, g1]
      rfl
    · rw [o]
      exact f2.to (by rw [g3 17 (by decide) (by decide) (by decide) (by decide), gi_sin (by decide)]) (by rw [g3 18 (by decide) (by decide) (by decide) (by decide), gi_sin (by decide)]) (by omega)
    · rw [if_neg (by rw [o]; decide), g3 24 (by decide) (by decide) (by decide) (by decide), gi_sie]
    · rw [g3 23 (by decide) (by decide) (by decide) (by decide), gi_sin (by decide), f3 23 (by decide) (by decide), qg]
    · rw [g3 21 (by decide) (by decide) (by decide) (by decide), gi_sin (by decide), f3 21 (by decide) (by decide), qg]
    · rw [g3 22 (by decide) (by decide) (by decide) (by decide), gi_sin (by decide), f3 22 (by decide) (by decide), qg]
  rw [e0]
  unfold fX10_in
  generalize nval u n p = x at *
  by_cases c1 : x < a
  · rw [if_pos ((nI_ltI (by omega) (by omega)).mpr c1), bd_some, if_pos rfl]
    exact eF (Bool.eq_false_iff.mpr (fun z => by have := (hok.mp z).1; omega))
  rw [if_neg (show ¬ nI x < nI a from fun z => c1 ((nI_ltI (by omega) (by omega)).mp z))]
  by_cases c2 : b < x
  · rw [if_pos ((nI_ltI (by omega) (by omega)).mpr c2), bd_some, if_pos rfl]
    exact eF (Bool.eq_false_iff.mpr (fun z => by have := (hok.mp z).2.1; omega))
  rw [if_neg (show ¬ nI b < nI x from fun z => c2 ((nI_ltI (by omega) (by omega)).mp z)), bd_some, if_neg (by decide)]
  by_cases c3 : nI x = v4
  · rw [if_pos c3]
    exact eF (Bool.eq_false_iff.mpr (fun z => (hok.mp z).2.2.1 c3))
  rw [if_neg c3]
  by_cases c4 : nI x = v5
  · rw [if_pos c4]
    exact eF (Bool.eq_false_iff.mpr (fun z => (hok.mp z).2.2.2 c4))
  rw [if_neg c4]
  exact eT (hok.mpr ⟨by omega, by omega, c3, c4⟩)
