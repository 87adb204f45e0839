theorem ga_sae (r : Rec) (j : Nat) (f : Nat → Int32) : ga (sa r j f) j = f := by rw [ga_sa', if_pos rfl]
theorem ga_san {r : Rec} {j k : Nat} {f : Nat → Int32} (h : k ≠ j) : ga (sa r j f) k = ga r k := by rw [ga_sa', if_neg h]
theorem gi_sie (r : Rec) (j : Nat) (x : Int32) : gi (si r j x) j = x := by rw [gi_si, if_pos rfl]
theorem gi_sin {r : Rec} {j k : Nat} {x : Int32} (h : k ≠ j) : gi (si r j x) k = gi r k := by rw [gi_si, if_neg h]
theorem gr_sre (r : Rec) (j x : Nat) : gr (sr r j x) j = x := by rw [gr_sr, if_pos rfl]
theorem xor_nI (a b : Nat) : nI a ^^^ nI b = nI (a ^^^ b) := by
  apply Int32.toBitVec_inj.mp
  apply BitVec.eq_of_getLsbD_eq
  intro i hi
  show ((BitVec.ofNat 32 a) ^^^ (BitVec.ofNat 32 b)).getLsbD i = (BitVec.ofNat 32 (a ^^^ b)).getLsbD i
  simp only [BitVec.getLsbD_xor, BitVec.getLsbD_ofNat, Nat.testBit_xor, hi, decide_true, Bool.true_and]
/-! a house in hand, and what else is as it was -/
theorem hand_in3 {r : Rec} {n c : Nat} (hc : ga r 5 0 = nI c) (hc2 : c ≤ 2) (h : n < c) {v : Hv} (ok : HvOK v) (hm : HM (ga r 6) (71 * n) v) : ∃ r', fX10_hand r (nI n) = some (r', 1) ∧ Hd r' n v ∧ (∀ k, k ≠ 28 → ga r' k = ga r k) ∧ (∀ k, k ≠ 25 → k ≠ 26 → k ≠ 27 → gi r' k = gi r k) := by
  unfold fX10_hand
  rw [show fX10_is r 0 (nI n) = some 1 by have := is_nI (s := 0) (by decide) hc (show n < 2 ^ 31 by omega) hc2; rw [if_pos h] at this; exact this, bd_some, if_neg (show ¬ (1 : Int32) = 0 by decide), bd_some]
  rw [show fX10_of (si r 25 (nI n)) 0 = some (nI (hP v)) by have := of_nI (r := si r 25 (nI n)) (n := n) (a := 0) rfl (by omega) (by decide); rw [show 71 * n + 0 = 71 * n from rfl] at this; rw [show (0 : Int32) = nI 0 from rfl, this]; exact congrArg some hm.1, bd_some, bd_some]
  rw [show fX10_of (si (si r 25 (nI n)) 26 (nI (hP v))) 1 = some (nI (hS v)) by have := of_nI (r := si (si r 25 (nI n)) 26 (nI (hP v))) (n := n) (a := 1) rfl (by omega) (by decide); rw [show (1 : Int32) = nI 1 from rfl, this]; exact congrArg some hm.2.1, bd_some, bd_some]
  obtain ⟨x, h1, h2⟩ := iter_loop (step := fun st : Int32 × Rec => bX10_hand_36 st.2 st.1) (fun i st => st.1 = nI i ∧ (∀ p, p < i → ga st.2 28 p = nI (hKn v p)) ∧ (∀ k, k ≠ 28 → ga st.2 k = ga r k) ∧ gi st.2 25 = nI n ∧ gi st.2 26 = nI (hP v) ∧ gi st.2 27 = nI (hS v) ∧ (∀ k, k ≠ 25 → k ≠ 26 → k ≠ 27 → gi st.2 k = gi r k)) (fun x => x.2 = 1 ∧ (∀ p, p < 8 → ga x.1 28 p = nI (hKn v p)) ∧ (∀ k, k ≠ 28 → ga x.1 k = ga r k) ∧ gi x.1 25 = nI n ∧ gi x.1 26 = nI (hP v) ∧ gi x.1 27 = nI (hS v) ∧ (∀ k, k ≠ 25 → k ≠ 26 → k ≠ 27 → gi x.1 k = gi r k)) 8 (by
    rintro i ⟨k, s⟩ hi ⟨e, a1, a2, a3, a4, a5, a6⟩
    dsimp only at e a1 a2 a3 a4 a5 a6
    subst e
    refine ⟨(nI (i + 1), sa s 28 (upd (ga s 28) i (nI (hKn v i)))), ?_, rfl, fun p hp => ?_, fun k hk => ?_, a3, a4, a5, a6⟩
    · show bX10_hand_36 s (nI i) = _
      unfold bX10_hand_36
      rw [if_neg (show ¬ (8 : Int32) ≤ nI i from fun h1 => by have := (nI_leI (a := 8) (by decide) (by omega)).mp h1; omega)]
      rw [show fX10_of s (19 + nI i) = some (nI (hKn v i)) by
        rw [show (19 : Int32) + nI i = nI (19 + i) by rw [show (19 : Int32) = nI 19 from rfl, nI_add], of_nI a3 (by omega) (by omega), a2 6 (by decide), ← Nat.add_assoc]
        exact congrArg some (hm.2.2.2.2.2.1 i hi), bd_some, inR_nI (by omega) (by decide), gd_true, bd_some, nI_clamp (by omega), nI_1]
    · show upd (ga s 28) i (nI (hKn v i)) p = _
      rw [upd_if]
      by_cases hp2 : p = i
      · rw [if_pos hp2, hp2]
      · rw [if_neg hp2]; exact a1 p (by omega)
    · show ga (sa s 28 _) k = _
      rw [ga_sa', if_neg hk]; exact a2 k hk) (by
    rintro ⟨k, s⟩ ⟨e, a1, a2, a3, a4, a5, a6⟩
    dsimp only at e a1 a2 a3 a4 a5 a6
    subst e
    refine ⟨(s, 1), ?_, rfl, a1, a2, a3, a4, a5, a6⟩
    show bX10_hand_36 s (nI 8) = _
    unfold bX10_hand_36
    rw [if_pos (show (8 : Int32) ≤ nI 8 by decide)]) (s0 := (0, si (si (si r 25 (nI n)) 26 (nI (hP v))) 27 (nI (hS v)))) ⟨rfl, fun p hp => by omega, fun k _ => rfl, rfl, rfl, rfl, fun k h1 h2 h3 => by rw [gi_sin h3, gi_sin h2, gi_sin h1]⟩
  obtain ⟨x1, x2⟩ := x
  obtain ⟨b0, b1, b2, b3, b4, b5, b6⟩ := h2
  dsimp only at b0 b1 b2 b3 b4 b5 b6
  subst b0
  exact ⟨x1, h1, ⟨by omega, b3, b4, b5, b1, by rw [b2 6 (by decide)]; exact hm⟩, b2, b6⟩
theorem MP.of {r r' : Rec} (h : ∀ k, k ≤ 9 ∨ k = 48 → ga r' k = ga r k) : MP r r' := ⟨h 1 (by omega), h 2 (by omega), h 3 (by omega), h 4 (by omega), h 5 (by omega), h 6 (by omega), h 7 (by omega), h 8 (by omega), h 9 (by omega), h 48 (by omega)⟩
/-- a house that is told, or not: both sides, with what is as it was -/
theorem house_cases3 {g : Gs} (hI : Inv g) (x : Int32) : (fX8_houseAt (g 800) 800 x = some none ∧ ∀ r, MP (g 1001) r → fX10_hand r x = some (r, 0)) ∨ ∃ (n : Nat) (v : Hv), n < 2 ∧ x = nI n ∧ HvOK v ∧ HX (g (200 + n)) v ∧ fX8_houseAt (g 800) 800 x = some (some (200 + n)) ∧ isHm (200 + n) = true ∧ ∀ r, MP (g 1001) r → ∃ r', fX10_hand r x = some (r', 1) ∧ Hd r' n v ∧ MP r r' ∧ (∀ k, k ≠ 28 → ga r' k = ga r k) ∧ (∀ k, k ≠ 25 → k ≠ 26 → k ≠ 27 → gi r' k = gi r k) := by
  have hb := hI.2.1
  obtain ⟨c, hc2, c1, c2⟩ := hb.2.2.2.2.1 0 (by decide)
  have c2 : ga (g 1001) 5 0 = nI c := c2
  rcases i32_cases x with h | ⟨n, hn, rfl⟩
  · exact Or.inl ⟨houseAt_neg h, fun r _ => hand_neg h⟩
  · by_cases hnc : n < c
    · obtain ⟨v, ok, hx, hm⟩ := hb.2.2.2.2.2.1 n (by omega)
      have hm : HM (ga (g 1001) 6) (71 * n) v := by have := hm; rw [show 71 * (2 * 0 + n) = 71 * n by omega] at this; exact this
      refine Or.inr ⟨n, v, by omega, rfl, ok, hx, ?_, ?_, fun r hr => ?_⟩
      · have := houseAt_nI (T := g 800) c1 hn hc2
        rw [if_pos hnc] at this
        exact this
      · rcases (show n = 0 ∨ n = 1 by omega) with rfl | rfl <;> rfl
      · obtain ⟨r', e1, e2, e3, e4⟩ := hand_in3 (c := c) (by rw [hr.2.2.2.2.1]; exact c2) hc2 hnc ok (hr.HM hm)
        exact ⟨r', e1, e2, MP.of (fun k hk => e3 k (by omega)), e3, e4⟩
    · refine Or.inl ⟨?_, fun r hr => hand_out (by rw [hr.2.2.2.2.1]; exact c2) hc2 hn hnc⟩
      have := houseAt_nI (T := g 800) c1 hn hc2
      rw [if_neg hnc] at this
      exact this
/-- rows of a sort (1 month, 2 dinners, 3 log) that are told, or not: both sides; 'is' of the reference -/
theorem rows_cases {g : Gs} (hI : Inv g) {s : Nat} (hs1 : 1 ≤ s) (hs3 : s ≤ 3) (x : Int32) : (fX8_rowsAt (g 800) 800 (nI s) x = some none ∧ ∀ r, MP (g 1001) r → fX10_is r (nI s) x = some (nI 0)) ∨ ∃ n, n < 2 ∧ x = nI n ∧ fX8_rowsAt (g 800) 800 (nI s) x = some (some (498 + 2 * s + n)) ∧ isRw (498 + 2 * s + n) = true ∧ ∀ r, MP (g 1001) r → fX10_is r (nI s) x = some (nI 1) := by
  have hb := hI.2.1
  obtain ⟨c, hc2, c1, c2⟩ := hb.2.2.2.2.1 s (by omega)
  have c1 : ga (g 800) 4 s = nI c := c1
  have c2 : ga (g 1001) 5 s = nI c := by have := c2; rw [show 4 * 0 + s = s by omega] at this; exact this
  rcases i32_cases x with h | ⟨n, hn, rfl⟩
  · exact Or.inl ⟨rowsAt_neg hs1 hs3 h, fun r _ => is_neg (by omega) h⟩
  · by_cases hnc : n < c
    · refine Or.inr ⟨n, by omega, rfl, ?_, isRw_of hs1 hs3 (by omega), fun r hr => ?_⟩
      · have := rowsAt_nI (T := g 800) hs1 hs3 c1 hn hc2
        rw [if_pos hnc] at this
        exact this
      · have := is_nI (r := r) (s := s) (by omega) (by rw [hr.2.2.2.2.1]; exact c2) hn hc2
        rw [if_pos hnc] at this
        exact this
    · refine Or.inl ⟨?_, fun r hr => ?_⟩
      · have := rowsAt_nI (T := g 800) hs1 hs3 c1 hn hc2
        rw [if_neg hnc] at this
        exact this
      · have := is_nI (r := r) (s := s) (by omega) (by rw [hr.2.2.2.2.1]; exact c2) hn hc2
        rw [if_neg hnc] at this
        exact this
/-! a month's course -/
abbrev Cv : Type := (Nat → Nat) × (Nat → Nat) × (Nat → Nat) × Nat × Nat × Int32
def cs (c : Cv) : Nat → Nat := c.1
def cg (c : Cv) : Nat → Nat := c.2.1
def ck (c : Cv) : Nat → Nat := c.2.2.1
def ct (c : Cv) : Nat := c.2.2.2.1
def ch (c : Cv) : Nat := c.2.2.2.2.1
def cv (c : Cv) : Int32 := c.2.2.2.2.2
def cOK (v : Hv) (c : Cv) : Prop := (∀ p, p < 8 → cs c p ≤ 60 ∧ cg c p ≤ 5 ∧ ck c p < 2 ^ hS v) ∧ ct c < 2 ^ 8 ∧ ch c ≤ 99 ∧ ∀ p, p < 8 → (ct c).testBit p = true → cs c p = 0 ∧ cg c p = 0
def cX (g : Gs) (n : Nat) (v : Hv) (c : Cv) : Prop := n < 2 ∧ gr (g 1) 0 = 200 + n ∧ HX (g (200 + n)) v ∧ (∀ p, p < 8 → ga (g 1) 1 p = nI (cs c p)) ∧ (∀ p, p < 8 → ga (g 1) 2 p = nI (cg c p)) ∧ (∀ p, p < 8 → ga (g 1) 3 p = nI (ck c p)) ∧ gi (g 1) 5 = nI (ct c) ∧ gi (g 1) 6 = nI (ch c) ∧ gi (g 1) 7 = cv c
def cM (r : Rec) (n : Nat) (v : Hv) (c : Cv) : Prop := n < 2 ∧ gi r 25 = nI n ∧ gi r 26 = nI (hP v) ∧ gi r 27 = nI (hS v) ∧ HM (ga r 6) (71 * n) v ∧ (∀ p, p < 8 → ga r 33 p = nI (cs c p)) ∧ (∀ p, p < 8 → ga r 34 p = nI (cg c p)) ∧ (∀ p, p < 8 → ga r 28 p = nI (ck c p)) ∧ gi r 31 = nI (ct c) ∧ gi r 30 = nI (ch c) ∧ gi r 32 = cv c
def FrX (g g' : Gs) : Prop := (∀ o, o ≠ 1 → g' o = g o) ∧ gr (g' 1) = gr (g 1) ∧ ga (g' 1) 4 = ga (g 1) 4 ∧ ∀ k, 8 ≤ k → gi (g' 1) k = gi (g 1) k
def FrM (r r' : Rec) : Prop := (∀ k, k ≠ 28 → k ≠ 33 → k ≠ 34 → ga r' k = ga r k) ∧ ∀ k, k ≠ 30 → k ≠ 31 → k ≠ 32 → gi r' k = gi r k
theorem FrX.rf (g : Gs) : FrX g g := ⟨fun _ _ => rfl, rfl, rfl, fun _ _ => rfl⟩
theorem FrM.rf (r : Rec) : FrM r r := ⟨fun _ _ _ _ => rfl, fun _ _ _ _ => rfl⟩
theorem FrM.MP {r r' : Rec} (h : FrM r r') : MP r r' := MP.of (fun k hk => h.1 k (by omega) (by omega) (by omega))
theorem FrM.tr {a b c : Rec} (h : FrM a b) (k : FrM b c) : FrM a c := ⟨fun x h1 h2 h3 => (k.1 x h1 h2 h3).trans (h.1 x h1 h2 h3), fun x h1 h2 h3 => (k.2 x h1 h2 h3).trans (h.2 x h1 h2 h3)⟩
def Co (g : Gs) (r : Rec) (n : Nat) (v : Hv) (c : Cv) : Prop := cX g n v c ∧ cM r n v c ∧ cOK v c
theorem cX.put {g : Gs} {n : Nat} {v : Hv} {c c' : Cv} {R : Rec} (h : cX g n v c) (hr : gr R = gr (g 1)) (h1 : ∀ p, p < 8 → ga R 1 p = nI (cs c' p)) (h2 : ∀ p, p < 8 → ga R 2 p = nI (cg c' p)) (h3 : ∀ p, p < 8 → ga R 3 p = nI (ck c' p)) (h5 : gi R 5 = nI (ct c')) (h6 : gi R 6 = nI (ch c')) (h7 : gi R 7 = cv c') : cX (ug g 1 R) n v c' := by
  refine ⟨h.1, ?_, ?_, ?_, ?_, ?_, ?_, ?_, ?_⟩
  · rw [ug_same, hr]; exact h.2.1
  · rw [ug_ne (by omega)]; exact h.2.2.1
  · rw [ug_same]; exact h1
  · rw [ug_same]; exact h2
  · rw [ug_same]; exact h3
  · rw [ug_same]; exact h5
  · rw [ug_same]; exact h6
  · rw [ug_same]; exact h7
theorem FrX.put {g : Gs} {R : Rec} (hr : gr R = gr (g 1)) (h4 : ga R 4 = ga (g 1) 4) (hk : ∀ k, 8 ≤ k → gi R k = gi (g 1) k) : FrX g (ug g 1 R) := ⟨fun o ho => ug_ne ho, by rw [ug_same]; exact hr, by rw [ug_same]; exact h4, fun k h => by rw [ug_same]; exact hk k h⟩
theorem hm_of {n : Nat} (hn : n < 2) : isHm (200 + n) = true := by rcases (show n = 0 ∨ n = 1 by omega) with rfl | rfl <;> rfl
theorem cX.hm {g : Gs} {n : Nat} {v : Hv} {c : Cv} (h : cX g n v c) : isHm (200 + n) = true := hm_of h.1
theorem cX.h {g : Gs} {n : Nat} {v : Hv} {c : Cv} (h : cX g n v c) : gr (g 1) 0 = 200 + n := h.2.1
theorem cX.hx {g : Gs} {n : Nat} {v : Hv} {c : Cv} (h : cX g n v c) : HX (g (200 + n)) v := h.2.2.1
theorem cX.sh {g : Gs} {n : Nat} {v : Hv} {c : Cv} (h : cX g n v c) {p : Nat} (hp : p < 8) : ga (g 1) 1 p = nI (cs c p) := h.2.2.2.1 p hp
theorem cX.gl {g : Gs} {n : Nat} {v : Hv} {c : Cv} (h : cX g n v c) {p : Nat} (hp : p < 8) : ga (g 1) 2 p = nI (cg c p) := h.2.2.2.2.1 p hp
theorem cX.kn {g : Gs} {n : Nat} {v : Hv} {c : Cv} (h : cX g n v c) {p : Nat} (hp : p < 8) : ga (g 1) 3 p = nI (ck c p) := h.2.2.2.2.2.1 p hp
theorem cX.st {g : Gs} {n : Nat} {v : Hv} {c : Cv} (h : cX g n v c) : gi (g 1) 5 = nI (ct c) := h.2.2.2.2.2.2.1
theorem cX.ho {g : Gs} {n : Nat} {v : Hv} {c : Cv} (h : cX g n v c) : gi (g 1) 6 = nI (ch c) := h.2.2.2.2.2.2.2.1
theorem cX.gv {g : Gs} {n : Nat} {v : Hv} {c : Cv} (h : cX g n v c) : gi (g 1) 7 = cv c := h.2.2.2.2.2.2.2.2
theorem cM.P {r : Rec} {n : Nat} {v : Hv} {c : Cv} (h : cM r n v c) : gi r 26 = nI (hP v) := h.2.2.1
theorem cM.S {r : Rec} {n : Nat} {v : Hv} {c : Cv} (h : cM r n v c) : gi r 27 = nI (hS v) := h.2.2.2.1
theorem cM.hm {r : Rec} {n : Nat} {v : Hv} {c : Cv} (h : cM r n v c) : HM (ga r 6) (71 * n) v := h.2.2.2.2.1
theorem cM.sh {r : Rec} {n : Nat} {v : Hv} {c : Cv} (h : cM r n v c) {p : Nat} (hp : p < 8) : ga r 33 p = nI (cs c p) := h.2.2.2.2.2.1 p hp
theorem cM.gl {r : Rec} {n : Nat} {v : Hv} {c : Cv} (h : cM r n v c) {p : Nat} (hp : p < 8) : ga r 34 p = nI (cg c p) := h.2.2.2.2.2.2.1 p hp
theorem cM.kn {r : Rec} {n : Nat} {v : Hv} {c : Cv} (h : cM r n v c) {p : Nat} (hp : p < 8) : ga r 28 p = nI (ck c p) := h.2.2.2.2.2.2.2.1 p hp
theorem cM.st {r : Rec} {n : Nat} {v : Hv} {c : Cv} (h : cM r n v c) : gi r 31 = nI (ct c) := h.2.2.2.2.2.2.2.2.1
theorem cM.ho {r : Rec} {n : Nat} {v : Hv} {c : Cv} (h : cM r n v c) : gi r 30 = nI (ch c) := h.2.2.2.2.2.2.2.2.2.1
theorem cM.gv {r : Rec} {n : Nat} {v : Hv} {c : Cv} (h : cM r n v c) : gi r 32 = cv c := h.2.2.2.2.2.2.2.2.2.2
/-- who is there: both sides -/
theorem there_cases {g : Gs} {r : Rec} {n : Nat} {v : Hv} {c : Cv} (ok : HvOK v) (h : Co g r n v c) (x : Int32) : (fX0_isThere g x = some (nI 0) ∧ fX10_isThere r x = some (nI 0)) ∨ ∃ p, p < hP v ∧ x = nI p ∧ (ct c).testBit p = false ∧ fX0_isThere g x = some (nI 1) ∧ fX10_isThere r x = some (nI 1) := by
  obtain ⟨hX, hM, hC⟩ := h
  have hP8 := ok.1
  have hct := hC.2.1
  unfold fX0_isThere fX10_isThere
  rcases piece_cases hX.hx.P hM.P hP8 x with ⟨p1, p2⟩ | ⟨p, hp, rfl, p1, p2⟩
  · refine Or.inl ⟨?_, ?_⟩
    · simp (disch := omega) only [hX.h, hX.hm, p1, bd_some, gd_true, inR_nI, nI_clamp, nI_add, pk_mul, pk_sub, leT, leF, ltT, ltF, eqT, eqF, ite_true, ite_false, reduceIte, nz_nI, oc_s, oc_n, pk_div, pk_rem, m1F, L0, L1, L2, L3, L4, L5, L6, L7, L8, L9, L10, L11, L12, L19, L20, L24, L25, L27, L28, L30, L32, L37, L39, L40, L47, L48, L50, L55, L57, L60, L61, L63, L71, L80, L97, L99, L100, L120, L122, L128, L161, L17, L600, L1000000, L1024, L1408, isB0, isB1, subdm, inT, inFl, inFh]
    · simp (disch := omega) only [p2, bd_some, gd_true, inR_nI, nI_clamp, nI_add, pk_mul, pk_sub, leT, leF, ltT, ltF, eqT, eqF, ite_true, ite_false, reduceIte, nz_nI, oc_s, oc_n, pk_div, pk_rem, m1F, L0, L1, L2, L3, L4, L5, L6, L7, L8, L9, L10, L11, L12, L19, L20, L24, L25, L27, L28, L30, L32, L37, L39, L40, L47, L48, L50, L55, L57, L60, L61, L63, L71, L80, L97, L99, L100, L120, L122, L128, L161, L17, L600, L1000000, L1024, L1408, isB0, isB1, subdm, inT, inFl, inFh]
  · cases b : (ct c).testBit p
    · refine Or.inr ⟨p, hp, rfl, b, ?_, ?_⟩
      · simp (disch := omega) only [hX.h, hX.hm, p1, hX.st, hasBit_nI, b, Bool.false_eq_true, bd_some, gd_true, inR_nI, nI_clamp, nI_add, pk_mul, pk_sub, leT, leF, ltT, ltF, eqT, eqF, ite_true, ite_false, reduceIte, nz_nI, oc_s, oc_n, pk_div, pk_rem, m1F, L0, L1, L2, L3, L4, L5, L6, L7, L8, L9, L10, L11, L12, L19, L20, L24, L25, L27, L28, L30, L32, L37, L39, L40, L47, L48, L50, L55, L57, L60, L61, L63, L71, L80, L97, L99, L100, L120, L122, L128, L161, L17, L600, L1000000, L1024, L1408, isB0, isB1, subdm, inT, inFl, inFh]
      · simp (disch := omega) only [p2, hM.st, has_nI, b, Bool.false_eq_true, bd_some, gd_true, inR_nI, nI_clamp, nI_add, pk_mul, pk_sub, leT, leF, ltT, ltF, eqT, eqF, ite_true, ite_false, reduceIte, nz_nI, oc_s, oc_n, pk_div, pk_rem, m1F, L0, L1, L2, L3, L4, L5, L6, L7, L8, L9, L10, L11, L12, L19, L20, L24, L25, L27, L28, L30, L32, L37, L39, L40, L47, L48, L50, L55, L57, L60, L61, L63, L71, L80, L97, L99, L100, L120, L122, L128, L161, L17, L600, L1000000, L1024, L1408, isB0, isB1, subdm, inT, inFl, inFh]
    · refine Or.inl ⟨?_, ?_⟩
      · simp (disch := omega) only [hX.h, hX.hm, p1, hX.st, hasBit_nI, b, bd_some, gd_true, inR_nI, nI_clamp, nI_add, pk_mul, pk_sub, leT, leF, ltT, ltF, eqT, eqF, ite_true, ite_false, reduceIte, nz_nI, oc_s, oc_n, pk_div, pk_rem, m1F, L0, L1, L2, L3, L4, L5, L6, L7, L8, L9, L10, L11, L12, L19, L20, L24, L25, L27, L28, L30, L32, L37, L39, L40, L47, L48, L50, L55, L57, L60, L61, L63, L71, L80, L97, L99, L100, L120, L122, L128, L161, L17, L600, L1000000, L1024, L1408, isB0, isB1, subdm, inT, inFl, inFh]
      · simp (disch := omega) only [p2, hM.st, has_nI, b, bd_some, gd_true, inR_nI, nI_clamp, nI_add, pk_mul, pk_sub, leT, leF, ltT, ltF, eqT, eqF, ite_true, ite_false, reduceIte, nz_nI, oc_s, oc_n, pk_div, pk_rem, m1F, L0, L1, L2, L3, L4, L5, L6, L7, L8, L9, L10, L11, L12, L19, L20, L24, L25, L27, L28, L30, L32, L37, L39, L40, L47, L48, L50, L55, L57, L60, L61, L63, L71, L80, L97, L99, L100, L120, L122, L128, L161, L17, L600, L1000000, L1024, L1408, isB0, isB1, subdm, inT, inFl, inFh]
/-- what a secret is worth to a piece now -/
def wk (v : Hv) (k : Nat) (s p : Nat) : Nat := wHalf (wFull (hWt v s) (hKi v s) (hTa v p)) (k.testBit s)
theorem wk_le {v : Hv} (ok : HvOK v) {k s p : Nat} (hs : s < hS v) : wk v k s p ≤ 60 := by
  obtain ⟨-, -, -, -, -, -, h, -⟩ := ok
  have h1 := (h s hs).2.2
  unfold wk wHalf wFull
  split <;> split <;> omega
theorem worthX_nI {g : Gs} {n : Nat} {v : Hv} (ok : HvOK v) (hn : n < 2) (h1 : gr (g 1) 0 = 200 + n) (hx : HX (g (200 + n)) v) {s p k : Nat} (hs : s < hS v) (hp : p < hP v) (hk : ga (g 1) 3 p = nI k) (hk2 : k < 2 ^ 31) : fX0_worthNow g (nI s) (nI p) = some (nI (wk v k s p)) := by
  have hP8 := ok.1
  have hS10 := ok.2.1
  have hw := (ok.2.2.2.2.2.2.1 s hs)
  have ht := (ok.2.2.2.1 p hp).1
  unfold fX0_worthNow bX0_worthNow_35
  have wo : ∀ b : Bool, fX9_worthOf (nI (hWt v s)) (if b then 1 else 0) (if k.testBit s then 1 else 0) = some (nI (wHalf (if b then 2 * hWt v s else hWt v s) (k.testBit s))) := fun b => worthOf_nI (by omega) b (k.testBit s)
  by_cases c : hKi v s = hTa v p
  · have w1 := wo true
    rw [if_pos rfl, if_pos rfl] at w1
    have e : wk v k s p = wHalf (2 * hWt v s) (k.testBit s) := by unfold wk wFull; rw [if_pos c]
    rw [e]
    simp (disch := omega) only [h1, hm_of hn, hx.ki, hx.ta, hx.wt, hk, hasBit_nI, bd_some, gd_true, inR_nI, nI_clamp, nI_add, pk_mul, pk_sub, leT, leF, ltT, ltF, eqT, eqF, ite_true, ite_false, reduceIte, nz_nI, oc_s, oc_n, pk_div, pk_rem, m1F, L0, L1, L2, L3, L4, L5, L6, L7, L8, L9, L10, L11, L12, L19, L20, L24, L25, L27, L28, L30, L32, L37, L39, L40, L47, L48, L50, L55, L57, L60, L61, L63, L71, L80, L97, L99, L100, L120, L122, L128, L161, L17, L600, L1000000, L1024, L1408, isB0, isB1, subdm, inT, inFl, inFh]
    exact (congrArg (fun z => Option.bind z _) w1).trans rfl
  · have w1 := wo false
    simp only [Bool.false_eq_true, if_false] at w1
    have e : wk v k s p = wHalf (hWt v s) (k.testBit s) := by unfold wk wFull; rw [if_neg c]
    rw [e]
    simp (disch := omega) only [h1, hm_of hn, hx.ki, hx.ta, hx.wt, hk, hasBit_nI, bd_some, gd_true, inR_nI, nI_clamp, nI_add, pk_mul, pk_sub, leT, leF, ltT, ltF, eqT, eqF, ite_true, ite_false, reduceIte, nz_nI, oc_s, oc_n, pk_div, pk_rem, m1F, L0, L1, L2, L3, L4, L5, L6, L7, L8, L9, L10, L11, L12, L19, L20, L24, L25, L27, L28, L30, L32, L37, L39, L40, L47, L48, L50, L55, L57, L60, L61, L63, L71, L80, L97, L99, L100, L120, L122, L128, L161, L17, L600, L1000000, L1024, L1408, isB0, isB1, subdm, inT, inFl, inFh]
    exact (congrArg (fun z => Option.bind z _) w1).trans rfl
theorem worthM_nI {r : Rec} {n : Nat} {v : Hv} (ok : HvOK v) (hn : n < 2) (h1 : gi r 25 = nI n) (hm : HM (ga r 6) (71 * n) v) {s p k : Nat} (hs : s < hS v) (hp : p < hP v) (hk : ga r 28 p = nI k) (hk2 : k < 2 ^ 31) : fX10_worthNow r (nI s) (nI p) = some (nI (wk v k s p)) := by
  have hP8 := ok.1
  have hS10 := ok.2.1
  have hw := (ok.2.2.2.2.2.2.1 s hs)
  have ht := (ok.2.2.2.1 p hp).1
  have pl : fX10_plain r (nI s) (nI p) = some (nI (wFull (hWt v s) (hKi v s) (hTa v p))) := by
    unfold fX10_plain bX10_plain_31
    rw [show (37 : Int32) + nI s = nI (37 + s) from nI_add 37 s, show (27 : Int32) + nI s = nI (27 + s) from nI_add 27 s, show (3 : Int32) + nI p = nI (3 + p) from nI_add 3 p, of_nI h1 hn (by omega), of_nI h1 hn (by omega), of_nI h1 hn (by omega), bd_some, bd_some, bd_some, ← Nat.add_assoc, ← Nat.add_assoc, ← Nat.add_assoc, (hm.2.2.2.2.2.2.1 s hs).1, (hm.2.2.2.2.2.2.1 s hs).2, hm.2.2.2.1 p hp]
    unfold wFull
    by_cases e : hKi v s = hTa v p
    · rw [if_pos (by rw [e]), if_pos e, show nI (hWt v s) * 2 = nI (hWt v s * 2) from pk_mul _ 2, Nat.mul_comm]
    · rw [if_neg (fun h1 => e ((nI_eq (by omega) (by omega)).mp h1)), if_neg e, show nI (hWt v s) * 1 = nI (hWt v s * 1) from pk_mul _ 1, Nat.mul_one]
  unfold fX10_worthNow
  have hle : wFull (hWt v s) (hKi v s) (hTa v p) ≤ 60 := by unfold wFull; split <;> omega
  unfold wk wHalf
  cases b : k.testBit s
  · simp (disch := omega) only [hk, has_nI, b, pl, Bool.false_eq_true, bd_some, gd_true, inR_nI, nI_clamp, nI_add, pk_mul, pk_sub, leT, leF, ltT, ltF, eqT, eqF, ite_true, ite_false, reduceIte, nz_nI, oc_s, oc_n, pk_div, pk_rem, m1F, L0, L1, L2, L3, L4, L5, L6, L7, L8, L9, L10, L11, L12, L19, L20, L24, L25, L27, L28, L30, L32, L37, L39, L40, L47, L48, L50, L55, L57, L60, L61, L63, L71, L80, L97, L99, L100, L120, L122, L128, L161, L17, L600, L1000000, L1024, L1408, isB0, isB1, subdm, inT, inFl, inFh]
  · simp (disch := omega) only [hk, has_nI, b, pl, bd_some, gd_true, inR_nI, nI_clamp, nI_add, pk_mul, pk_sub, leT, leF, ltT, ltF, eqT, eqF, ite_true, ite_false, reduceIte, nz_nI, oc_s, oc_n, pk_div, pk_rem, m1F, L0, L1, L2, L3, L4, L5, L6, L7, L8, L9, L10, L11, L12, L19, L20, L24, L25, L27, L28, L30, L32, L37, L39, L40, L47, L48, L50, L55, L57, L60, L61, L63, L71, L80, L97, L99, L100, L120, L122, L128, L161, L17, L600, L1000000, L1024, L1408, isB0, isB1, subdm, inT, inFl, inFh]
/-! the deeds -/
def rZero (R : Rec) (k : Nat) : Rec := sa R k (fl 8 (nI 0) (ga R k))
def rGive (R : Rec) (s p : Nat) (z : Int32) : Rec := sa (si (sa R 1 (upd (ga R 1) p z)) 7 (gi R 7 + z)) 3 (upd (ga R 3) p (ga R 3 p ||| nI (2 ^ s)))
theorem give_nI {g : Gs} {s p : Nat} {z : Int32} (hs : s < 10) (hp : p < 8) : fX0_give g (nI s) (nI p) z = some (ug g 1 (rGive (g 1) s p z)) := by
  unfold fX0_give
  simp (disch := omega) only [L31, shl_T, rGive, bd_some, gd_true, inR_nI, nI_clamp, nI_add, pk_mul, pk_sub, leT, leF, ltT, ltF, eqT, eqF, ite_true, ite_false, reduceIte, nz_nI, oc_s, oc_n, pk_div, pk_rem, m1F, L0, L1, L2, L3, L4, L5, L6, L7, L8, L9, L10, L11, L12, L19, L20, L24, L25, L27, L28, L30, L32, L37, L39, L40, L47, L48, L50, L55, L57, L60, L61, L63, L71, L80, L97, L99, L100, L120, L122, L128, L161, L17, L600, L1000000, L1024, L1408, isB0, isB1, subdm, inT, inFl, inFh, ug_same, ug_ug, ug_ne, ga_sae, ga_san, gi_sie, gi_sin, ga_si, gi_sa, gr_si, gr_sa, ga_sr, gi_sr, gr_sre]
/-- one step of both: how it ends -/
def StepOK (g : Gs) (r : Rec) (n : Nat) (v : Hv) (X : Option (Gs × Int32)) (M : Option (Rec × Int32)) : Prop := ∃ g' r' b c', X = some (g', b) ∧ M = some (r', b) ∧ (b = nI 0 ∨ b = nI 1) ∧ Co g' r' n v c' ∧ FrX g g' ∧ FrM r r'
theorem StepOK.no {g : Gs} {r : Rec} {n : Nat} {v : Hv} {c : Cv} {X : Option (Gs × Int32)} {M : Option (Rec × Int32)} (h : Co g r n v c) (h1 : X = some (g, nI 0)) (h2 : M = some (r, nI 0)) : StepOK g r n v X M := ⟨g, r, nI 0, c, h1, h2, Or.inl rfl, h, FrX.rf g, FrM.rf r⟩
def tellC (v : Hv) (s p : Nat) (c : Cv) : Cv := (fun q => if q = p then wk v (ck c p) s p else 0, cg c, fun q => if q = p then ck c p ||| 2 ^ s else ck c q, ct c, ch c, cv c + nI (wk v (ck c p) s p))
theorem ck_lt {v : Hv} (ok : HvOK v) {c : Cv} (hC : cOK v c) {p : Nat} (hp : p < 8) : ck c p < 1024 := Nat.lt_of_lt_of_le (hC.1 p hp).2.2 (pS ok)
theorem two_lt2 {v : Hv} {s : Nat} (hs : s < hS v) : 2 ^ s < 2 ^ hS v := Nat.pow_lt_pow_right (by decide) hs
theorem tellX {g : Gs} {n : Nat} {v : Hv} {c : Cv} (ok : HvOK v) (hX : cX g n v c) (hC : cOK v c) {s p : Nat} (hs : s < hS v) (hp : p < hP v) (ht : fX0_isThere g (nI p) = some (nI 1)) (h1 : fX2_hasSecret (g (200 + n)) (nI s) = some (nI 1)) : fX0_tellOne g (nI s) (nI p) = some (ug g 1 (rGive (rZero (g 1) 1) s p (nI (wk v (ck c p) s p))), nI 1) := by
  have hn := hX.1
  have hP8 := ok.1
  have hS10 := ok.2.1
  have hk := ck_lt ok hC (p := p) (by omega)
  have hw := worthX_nI (g := ug g 1 (rZero (g 1) 1)) ok hn (by rw [ug_same]; exact hX.h) (by rw [ug_ne (by omega)]; exact hX.hx) hs hp (k := ck c p) (by rw [ug_same]; exact hX.kn (by omega)) (by omega)
  have hg := give_nI (g := ug g 1 (rZero (g 1) 1)) (s := s) (p := p) (z := nI (wk v (ck c p) s p)) (by omega) (by omega)
  unfold fX0_tellOne
  have e0 : (fl 8 (nI 0) (ga (g 1) 1)) = fl 8 0 (ga (g 1) 1) := rfl
  simp (disch := omega) only [hX.h, hX.hm, h1, ht, bd_some, gd_true, inR_nI, nI_clamp, nI_add, pk_mul, pk_sub, leT, leF, ltT, ltF, eqT, eqF, ite_true, ite_false, reduceIte, nz_nI, oc_s, oc_n, pk_div, pk_rem, m1F, L0, L1, L2, L3, L4, L5, L6, L7, L8, L9, L10, L11, L12, L19, L20, L24, L25, L27, L28, L30, L32, L37, L39, L40, L47, L48, L50, L55, L57, L60, L61, L63, L71, L80, L97, L99, L100, L120, L122, L128, L161, L17, L600, L1000000, L1024, L1408, isB0, isB1, subdm, inT, inFl, inFh]
  show (fX0_worthNow (ug g 1 (rZero (g 1) 1)) (nI s) (nI p)).bind _ = _
  rw [hw, bd_some]
  show (fX0_give (ug g 1 (rZero (g 1) 1)) (nI s) (nI p) _).bind _ = _
  rw [hg, bd_some, ug_same, ug_ug]
theorem tellX_c {g : Gs} {n : Nat} {v : Hv} {c : Cv} (hX : cX g n v c) {s p : Nat} (hp : p < 8) : cX (ug g 1 (rGive (rZero (g 1) 1) s p (nI (wk v (ck c p) s p)))) n v (tellC v s p c) ∧ FrX g (ug g 1 (rGive (rZero (g 1) 1) s p (nI (wk v (ck c p) s p)))) := by
  refine ⟨hX.put rfl (fun q hq => ?_) (fun q hq => hX.gl hq) (fun q hq => ?_) hX.st hX.ho ?_, FrX.put rfl rfl (fun k hk => ?_)⟩
  · show upd (fl 8 (nI 0) (ga (g 1) 1)) p _ q = nI (if q = p then wk v (ck c p) s p else 0)
    rw [upd_if]
    by_cases e : q = p
    · rw [if_pos e, if_pos e]
    · rw [if_neg e, if_neg e]
      show (if q < 8 then nI 0 else _) = _
      rw [if_pos hq]
  · show upd (ga (g 1) 3) p (ga (g 1) 3 p ||| nI (2 ^ s)) q = nI (if q = p then ck c p ||| 2 ^ s else ck c q)
    rw [upd_if]
    by_cases e : q = p
    · rw [if_pos e, if_pos e, hX.kn hp, or_nI]
    · rw [if_neg e, if_neg e, hX.kn hq]
  · show gi (g 1) 7 + _ = _
    rw [hX.gv]; rfl
  · show gi (si _ 7 _) k = _
    rw [gi_sin (by omega)]; rfl
theorem tellM {r : Rec} {n : Nat} {v : Hv} {c : Cv} (ok : HvOK v) (hM : cM r n v c) (hC : cOK v c) {s p : Nat} (hs : s < hS v) (hp : p < hP v) (ht : fX10_isThere r (nI p) = some (nI 1)) (h1 : fX10_isSecret r (nI s) = some (nI 1)) : ∃ r', fX10_tells r (nI s) (nI p) = some (r', nI 1) ∧ cM r' n v (tellC v s p c) ∧ FrM r r' := by
  have hn := hM.1
  have hP8 := ok.1
  have hS10 := ok.2.1
  have hk := ck_lt ok hC (p := p) (by omega)
  have hw60 := wk_le ok hs (p := p) (k := ck c p)
  unfold fX10_tells
  simp (disch := omega) only [h1, ht, bd_some, gd_true, inR_nI, nI_clamp, nI_add, pk_mul, pk_sub, leT, leF, ltT, ltF, eqT, eqF, ite_true, ite_false, reduceIte, nz_nI, oc_s, oc_n, pk_div, pk_rem, m1F, L0, L1, L2, L3, L4, L5, L6, L7, L8, L9, L10, L11, L12, L19, L20, L24, L25, L27, L28, L30, L32, L37, L39, L40, L47, L48, L50, L55, L57, L60, L61, L63, L71, L80, L97, L99, L100, L120, L122, L128, L161, L17, L600, L1000000, L1024, L1408, isB0, isB1, subdm, inT, inFl, inFh]
  obtain ⟨x, h1, h2⟩ := iter_loop (step := fun st : Int32 × Rec => bX10_tells_20 st.2 (nI s) (nI p) st.1) (fun i st => st.1 = nI i ∧ (∀ q, q < i → ga st.2 33 q = nI (if q = p then wk v (ck c p) s p else 0)) ∧ (∀ k, k ≠ 33 → ga st.2 k = ga r k) ∧ (∀ k, gi st.2 k = gi r k)) (fun x => x.2 = nI 1 ∧ cM x.1 n v (tellC v s p c) ∧ FrM r x.1) 8 (by
    rintro i ⟨k, q⟩ hi ⟨e, a1, a2, a3⟩
    dsimp only at e a1 a2 a3
    subst e
    refine ⟨(nI (i + 1), sa q 33 (upd (ga q 33) i (nI (if i = p then wk v (ck c p) s p else 0)))), ?_, rfl, fun t ht => ?_, fun k hk => ?_, a3⟩
    · show bX10_tells_20 q (nI s) (nI p) (nI i) = _
      unfold bX10_tells_20 bX10_tells_46
      have hw := worthM_nI (r := q) ok hn (by rw [a3]; exact hM.2.1) (by rw [a2 6 (by decide)]; exact hM.hm) hs hp (k := ck c p) (by rw [a2 28 (by decide)]; exact hM.kn (by omega)) (by omega)
      by_cases e : i = p
      · subst e
        simp (disch := omega) only [hw, bd_some, gd_true, inR_nI, nI_clamp, nI_add, pk_mul, pk_sub, leT, leF, ltT, ltF, eqT, eqF, ite_true, ite_false, reduceIte, nz_nI, oc_s, oc_n, pk_div, pk_rem, m1F, L0, L1, L2, L3, L4, L5, L6, L7, L8, L9, L10, L11, L12, L19, L20, L24, L25, L27, L28, L30, L32, L37, L39, L40, L47, L48, L50, L55, L57, L60, L61, L63, L71, L80, L97, L99, L100, L120, L122, L128, L161, L17, L600, L1000000, L1024, L1408, isB0, isB1, subdm, inT, inFl, inFh]
      · simp (disch := omega) only [if_neg e, bd_some, gd_true, inR_nI, nI_clamp, nI_add, pk_mul, pk_sub, leT, leF, ltT, ltF, eqT, eqF, ite_true, ite_false, reduceIte, nz_nI, oc_s, oc_n, pk_div, pk_rem, m1F, L0, L1, L2, L3, L4, L5, L6, L7, L8, L9, L10, L11, L12, L19, L20, L24, L25, L27, L28, L30, L32, L37, L39, L40, L47, L48, L50, L55, L57, L60, L61, L63, L71, L80, L97, L99, L100, L120, L122, L128, L161, L17, L600, L1000000, L1024, L1408, isB0, isB1, subdm, inT, inFl, inFh]
    · show upd (ga q 33) i _ t = _
      rw [upd_if]
      by_cases e : t = i
      · rw [if_pos e, e]
      · rw [if_neg e]; exact a1 t (by omega)
    · show ga (sa q 33 _) k = _
      rw [ga_san hk]; exact a2 k hk) (by
    rintro ⟨k, q⟩ ⟨e, a1, a2, a3⟩
    dsimp only at e a1 a2 a3
    subst e
    have e33 : ga q 33 p = nI (wk v (ck c p) s p) := by rw [a1 p (by omega), if_pos rfl]
    have e28 : ga q 28 p = nI (ck c p) := by rw [a2 28 (by decide)]; exact hM.kn (by omega)
    refine ⟨(sa (si q 32 (gi q 32 + nI (wk v (ck c p) s p))) 28 (upd (ga q 28) p (nI (ck c p ||| 2 ^ s))), nI 1), ?_, rfl, ⟨hn, ?_, ?_, ?_, ?_, ?_, ?_, ?_, ?_, ?_, ?_⟩, ⟨fun k k1 k2 k3 => ?_, fun k k1 k2 k3 => ?_⟩⟩
    · show bX10_tells_20 q (nI s) (nI p) (nI 8) = _
      unfold bX10_tells_20 bX10_tells_53
      simp (disch := omega) only [e33, e28, L31, shl_T, or_nI, bd_some, gd_true, inR_nI, nI_clamp, nI_add, pk_mul, pk_sub, leT, leF, ltT, ltF, eqT, eqF, ite_true, ite_false, reduceIte, nz_nI, oc_s, oc_n, pk_div, pk_rem, m1F, L0, L1, L2, L3, L4, L5, L6, L7, L8, L9, L10, L11, L12, L19, L20, L24, L25, L27, L28, L30, L32, L37, L39, L40, L47, L48, L50, L55, L57, L60, L61, L63, L71, L80, L97, L99, L100, L120, L122, L128, L161, L17, L600, L1000000, L1024, L1408, isB0, isB1, subdm, inT, inFl, inFh, ug_same, ug_ug, ug_ne, ga_sae, ga_san, gi_sie, gi_sin, ga_si, gi_sa, gr_si, gr_sa, ga_sr, gi_sr, gr_sre]
      rfl
    · show gi q 25 = _; rw [a3]; exact hM.2.1
    · show gi q 26 = _; rw [a3]; exact hM.P
    · show gi q 27 = _; rw [a3]; exact hM.S
    · show HM (ga q 6) _ _; rw [a2 6 (by decide)]; exact hM.hm
    · exact a1
    · intro t ht; show ga q 34 t = _; rw [a2 34 (by decide)]; exact hM.gl ht
    · intro t ht
      show upd (ga q 28) p (nI (ck c p ||| 2 ^ s)) t = nI (if t = p then ck c p ||| 2 ^ s else ck c t)
      rw [upd_if]
      by_cases e : t = p
      · rw [if_pos e, if_pos e]
      · rw [if_neg e, if_neg e, a2 28 (by decide)]; exact hM.kn ht
    · show gi q 31 = _; rw [a3]; exact hM.st
    · show gi q 30 = _; rw [a3]; exact hM.ho
    · show gi q 32 + _ = _; rw [a3, hM.gv]; rfl
    · show ga (sa (si q 32 _) 28 _) k = _
      rw [ga_san k1, ga_si]; exact a2 k k2
    · show gi (si q 32 _) k = _
      rw [gi_sin k3]; exact a3 k) (s0 := (nI 0, r)) ⟨rfl, fun q hq => by omega, fun _ _ => rfl, fun _ => rfl⟩
  obtain ⟨x1, x2⟩ := x
  obtain ⟨b0, b1, b2⟩ := h2
  dsimp only at b0 b1 b2
  subst b0
  exact ⟨x1, h1, b1, b2⟩
theorem or_two_lt {v : Hv} {a s : Nat} (ha : a < 2 ^ hS v) (hs : s < hS v) : a ||| 2 ^ s < 2 ^ hS v := Nat.or_lt_two_pow ha (two_lt2 hs)
theorem tellC_OK {v : Hv} {c : Cv} (ok : HvOK v) (hC : cOK v c) {s p : Nat} (hs : s < hS v) (hp : p < hP v) (hb : (ct c).testBit p = false) : cOK v (tellC v s p c) := by
  have hP8 := ok.1
  refine ⟨fun q hq => ⟨?_, (hC.1 q hq).2.1, ?_⟩, hC.2.1, hC.2.2.1, fun q hq ht => ⟨?_, (hC.2.2.2 q hq ht).2⟩⟩
  · show (if q = p then wk v (ck c p) s p else 0) ≤ 60
    have := wk_le ok hs (p := p) (k := ck c p)
    split <;> omega
  · show (if q = p then ck c p ||| 2 ^ s else ck c q) < 2 ^ hS v
    split
    · exact or_two_lt (hC.1 p (by omega)).2.2 hs
    · exact (hC.1 q hq).2.2
  · show (if q = p then wk v (ck c p) s p else 0) = 0
    rw [if_neg (fun e => by have h2 : (ct c).testBit q = true := ht; rw [e, hb] at h2; cases h2)]
theorem tell_step {g : Gs} {r : Rec} {n : Nat} {v : Hv} {c : Cv} (ok : HvOK v) (h : Co g r n v c) (x y : Int32) : StepOK g r n v (fX0_tellOne g x y) (fX10_tells r x y) := by
  obtain ⟨hX, hM, hC⟩ := id h
  have hS10 := ok.2.1
  have hP8 := ok.1
  rcases secret_cases hX.hx.S hM.S hS10 x with ⟨s1, s2⟩ | ⟨s, hs, rfl, s1, s2⟩
  · refine StepOK.no h ?_ ?_
    · unfold fX0_tellOne; simp (disch := omega) only [hX.h, hX.hm, s1, bd_some, gd_true, inR_nI, nI_clamp, nI_add, pk_mul, pk_sub, leT, leF, ltT, ltF, eqT, eqF, ite_true, ite_false, reduceIte, nz_nI, oc_s, oc_n, pk_div, pk_rem, m1F, L0, L1, L2, L3, L4, L5, L6, L7, L8, L9, L10, L11, L12, L19, L20, L24, L25, L27, L28, L30, L32, L37, L39, L40, L47, L48, L50, L55, L57, L60, L61, L63, L71, L80, L97, L99, L100, L120, L122, L128, L161, L17, L600, L1000000, L1024, L1408, isB0, isB1, subdm, inT, inFl, inFh]
    · unfold fX10_tells; simp (disch := omega) only [s2, bd_some, gd_true, inR_nI, nI_clamp, nI_add, pk_mul, pk_sub, leT, leF, ltT, ltF, eqT, eqF, ite_true, ite_false, reduceIte, nz_nI, oc_s, oc_n, pk_div, pk_rem, m1F, L0, L1, L2, L3, L4, L5, L6, L7, L8, L9, L10, L11, L12, L19, L20, L24, L25, L27, L28, L30, L32, L37, L39, L40, L47, L48, L50, L55, L57, L60, L61, L63, L71, L80, L97, L99, L100, L120, L122, L128, L161, L17, L600, L1000000, L1024, L1408, isB0, isB1, subdm, inT, inFl, inFh]
  · rcases there_cases ok h y with ⟨t1, t2⟩ | ⟨p, hp, rfl, hb, t1, t2⟩
    · refine StepOK.no h ?_ ?_
      · unfold fX0_tellOne; simp (disch := omega) only [hX.h, hX.hm, s1, t1, bd_some, gd_true, inR_nI, nI_clamp, nI_add, pk_mul, pk_sub, leT, leF, ltT, ltF, eqT, eqF, ite_true, ite_false, reduceIte, nz_nI, oc_s, oc_n, pk_div, pk_rem, m1F, L0, L1, L2, L3, L4, L5, L6, L7, L8, L9, L10, L11, L12, L19, L20, L24, L25, L27, L28, L30, L32, L37, L39, L40, L47, L48, L50, L55, L57, L60, L61, L63, L71, L80, L97, L99, L100, L120, L122, L128, L161, L17, L600, L1000000, L1024, L1408, isB0, isB1, subdm, inT, inFl, inFh]
      · unfold fX10_tells; simp (disch := omega) only [s2, t2, bd_some, gd_true, inR_nI, nI_clamp, nI_add, pk_mul, pk_sub, leT, leF, ltT, ltF, eqT, eqF, ite_true, ite_false, reduceIte, nz_nI, oc_s, oc_n, pk_div, pk_rem, m1F, L0, L1, L2, L3, L4, L5, L6, L7, L8, L9, L10, L11, L12, L19, L20, L24, L25, L27, L28, L30, L32, L37, L39, L40, L47, L48, L50, L55, L57, L60, L61, L63, L71, L80, L97, L99, L100, L120, L122, L128, L161, L17, L600, L1000000, L1024, L1408, isB0, isB1, subdm, inT, inFl, inFh]
    · obtain ⟨r', m1, m2, m3⟩ := tellM ok hM hC hs hp t2 s2
      have hc := tellX_c hX (s := s) (p := p) (by omega)
      exact ⟨_, r', nI 1, tellC v s p c, tellX ok hX hC hs hp t1 s1, m1, Or.inr rfl, ⟨hc.1, m2, tellC_OK ok hC hs hp hb⟩, hc.2, m3⟩
