theorem wln_4 : ∀ v, v < 12 → 4 ≤ wln v := by decide +kernel
theorem LnS.len {u : Nat → Nat} {n so i v k : Nat} (h : LnS u n so i v k) (hi : i ≤ n) (hso : so < 4) : i + 5 ≤ pz u n (qn u n i v) (nmb v + 1) ∧ pz u n (qn u n i v) (nmb v + 1) ≤ n := by
  obtain ⟨⟨a1, a2, ⟨a3, a4⟩, -⟩, b, d⟩ := h
  have hv := vfr_b so hso
  have hw := wln_4 v (by omega)
  obtain ⟨t1, t2, t3, -⟩ := tok_b (u := u) hi
  have hq : tke u n i ≤ qn u n i v ∧ qn u n i v ≤ n := by
    unfold qn
    rw [Nat.add_comm 1, pz_shift]
    exact pz_b t3 _
  have hp := pz_b (u := u) hq.2 (nmb v)
  obtain ⟨s1, s2, s3, s4, s5, s6, -⟩ := tok_b (u := u) hp.2
  have s6 := s6 (by rw [d]; decide)
  have e : pz u n (qn u n i v) (nmb v + 1) = tke u n (pz u n (qn u n i v) (nmb v)) := rfl
  have := a4.1
  omega
/-- a row of lines -/
def Ptx (u : Nat → Nat) (n so : Nat) (ps vs ks : Nat → Nat) (L : Nat) : Prop := ps 0 = 0 ∧ ∀ l, l < L → LnS u n so (ps l) (vs l) (ks l) ∧ ps (l + 1) = pz u n (qn u n (ps l) (vs l)) (nmb (vs l) + 1)
theorem Ptx.b {u : Nat → Nat} {n so : Nat} {ps vs ks : Nat → Nat} {L : Nat} (h : Ptx u n so ps vs ks L) (hso : so < 4) : ∀ l, l ≤ L → 5 * l ≤ ps l ∧ ps l ≤ n
  | 0, _ => ⟨Nat.zero_le _, by rw [h.1]; exact Nat.zero_le _⟩
  | l + 1, hl => by
    have i := h.b hso l (by omega)
    obtain ⟨h1, h2⟩ := h.2 l (by omega)
    have := h1.len i.2 hso
    rw [h2]
    omega
/-- the class's rows hold the lines -/
def LnsX (c : Rec) (u : Nat → Nat) (n : Nat) (ps vs ks : Nat → Nat) (L : Nat) : Prop := ∀ l, l < L → ga c 6 l = nI (vs l) ∧ ga c 7 l = (if vs l ≤ 1 then nI (ks l) else -nI 1) ∧ ga c 8 l = nI (tks u n (ps l)) ∧ ∀ j, j < 3 → ga c 9 (3 * l + j) = nmv u n (qn u n (ps l) (vs l)) (vs l) j ∧ ga c 10 (3 * l + j) = plv u n (qn u n (ps l) (vs l)) (vs l) j
theorem LnsX.step {c c' : Rec} {u : Nat → Nat} {n so : Nat} {ps vs ks : Nat → Nat} {L : Nat} (h : LnsX c u n ps vs ks L) (hr : LnR c c' u n (ps L) L (vs L) (ks L)) : LnsX c' u n ps vs ks (L + 1) := by
  obtain ⟨-, -, r6, r7, r8, r9, r10, -, -⟩ := hr
  intro l hl
  rw [r6, r7, r8, upd_if, upd_if, upd_if]
  by_cases e : l = L
  · subst e
    rw [if_pos rfl, if_pos rfl, if_pos rfl]
    exact ⟨rfl, rfl, rfl, r9⟩
  · rw [if_neg e, if_neg e, if_neg e]
    obtain ⟨a1, a2, a3, a4⟩ := h l (by omega)
    refine ⟨a1, a2, a3, fun j hj => ?_⟩
    have := r10 (3 * l + j) (by omega)
    rw [this.1, this.2]
    exact a4 j hj
theorem readLines_nI {c : Rec} {u : Nat → Nat} {n so : Nat} (h : Tp c u n) (hso : so < 4) : ∃ ps vs ks L c', Ptx u n so ps vs ks L ∧ L ≤ 120 ∧ fX4_readLines c (nI so) = some c' ∧ ((tkk u n (ps L) = 0 ∧ (∀ x, x < 6 ∨ 10 < x → ga c' x = ga c x) ∧ gi c' 1 = gi c 1 ∧ gi c' 5 = nI L ∧ LnsX c' u n ps vs ks L ∧ gi c' 12 = gi c 12 ∧ gi c' 13 = gi c 13) ∨ (¬ tkk u n (ps L) = 0 ∧ ∃ F, LnF u n so (ps L) F ∧ gi c' 12 = nI 1 ∧ gi c' 13 = nI F)) := by
  have hn := h.1
  obtain ⟨c0, hc0⟩ : ∃ c0, c0 = si (si c 5 0) 4 0 := ⟨_, rfl⟩
  have h0 : Tp c0 u n := by rw [hc0]; exact h
  have h04 : gi c0 4 = nI 0 := by rw [hc0, gi_sie]; rfl
  have hnx := nextTok h0 h04 (Nat.zero_le n)
  have hA0 : At (nxR c0 u n 0) u n 0 := by
    refine ⟨h0, Nat.zero_le _, ?_, ?_, ?_⟩
    · unfold nxR; rw [gi_sin (by decide), gi_sie]
    · unfold nxR; rw [gi_sin (by decide), gi_sin (by decide), gi_sie]
    · unfold nxR; rw [gi_sie]
  have g5 : gi (nxR c0 u n 0) 5 = nI 0 := by rw [nxR_gi (by decide) (by decide) (by decide), hc0, gi_sin (by decide), gi_sie]; rfl
  have gik : ∀ x, x ≠ 2 → x ≠ 3 → x ≠ 4 → x ≠ 5 → gi (nxR c0 u n 0) x = gi c x := fun x x1 x2 x3 x4 => by rw [nxR_gi x1 x2 x3, hc0, gi_sin x3, gi_sin x4]
  have gak : ∀ x, ga (nxR c0 u n 0) x = ga c x := fun x => by rw [nxR_ga, hc0]; rfl
  have e0 : fX4_readLines c (nI so) = iter (fun st : Int32 × Rec => bX4_readLines_16 st.2 (nI so) st.1) (nI 0, nxR c0 u n 0) := by
    unfold fX4_readLines
    rw [bd_some, bd_some, ← hc0, hnx, bd_some]
    rfl
  rw [e0]
  have key : ∀ d L (q : Rec) (ps vs ks : Nat → Nat), L + d = 121 → Ptx u n so ps vs ks L → At q u n (ps L) → gi q 5 = nI L → LnsX q u n ps vs ks L → (∀ x, x < 6 ∨ 10 < x → ga q x = ga c x) → (∀ x, x ≠ 2 → x ≠ 3 → x ≠ 4 → x ≠ 5 → gi q x = gi c x) → ∃ ps vs ks L' c', Ptx u n so ps vs ks L' ∧ L' ≤ 120 ∧ iter (fun st : Int32 × Rec => bX4_readLines_16 st.2 (nI so) st.1) (nI L, q) = some c' ∧ ((tkk u n (ps L') = 0 ∧ (∀ x, x < 6 ∨ 10 < x → ga c' x = ga c x) ∧ gi c' 1 = gi c 1 ∧ gi c' 5 = nI L' ∧ LnsX c' u n ps vs ks L' ∧ gi c' 12 = gi c 12 ∧ gi c' 13 = gi c 13) ∨ (¬ tkk u n (ps L') = 0 ∧ ∃ F, LnF u n so (ps L') F ∧ gi c' 12 = nI 1 ∧ gi c' 13 = nI F)) := by
    intro d
    induction d with
    | zero =>
      intro L q ps vs ks hL hP hA
      have := (hP.b hso L (Nat.le_refl L))
      omega
    | succ d ih =>
      intro L q ps vs ks hL hP hA h5 hl ha hg
      have hb := hP.b hso L (Nat.le_refl L)
      have ht := tok_b (u := u) hA.2.1
      by_cases c1 : tkk u n (ps L) = 0
      · refine ⟨ps, vs, ks, L, q, hP, by omega, ?_, Or.inl ⟨c1, ha, hg 1 (by decide) (by decide) (by decide) (by decide), h5, hl, hg 12 (by decide) (by decide) (by decide) (by decide), hg 13 (by decide) (by decide) (by decide) (by decide)⟩⟩
        refine iter_end (step := fun st : Int32 × Rec => bX4_readLines_16 st.2 (nI so) st.1) (s := (nI L, q)) ?_
        show bX4_readLines_16 q (nI so) (nI L) = _
        unfold bX4_readLines_16
        rw [if_neg (show ¬ (120 : Int32) < nI L from fun z => by have := (nI_ltI (a := 120) (by decide) (by omega)).mp z; omega), if_pos (show gi q 2 = 0 by rw [hA.2.2.1, c1]; rfl)]
      · have hlt := ht.2.2.2.2.2.1 c1
        have hL2 : L < 120 := by omega
        have e16 : bX4_readLines_16 q (nI so) (nI L) = (fX4_readLine q (nI so)).bind fun z2 => if z2.2 = 0 then out1 (bX4_readLines_37 z2.1) else some (.inl (nI L + 1, z2.1)) := by
          unfold bX4_readLines_16
          rw [if_neg (show ¬ (120 : Int32) < nI L from fun z => by have := (nI_ltI (a := 120) (by decide) (by omega)).mp z; omega), if_neg (show ¬ gi q 2 = 0 from fun z => c1 (by rw [hA.2.2.1] at z; exact (nI_eq (b := 0) (by omega) (by decide)).mp z))]
        rcases readLine_nI hA hso h5 hL2 with ⟨v, k, hS, c', f1, f2⟩ | ⟨F, hF, c', f1, f2⟩
        · obtain ⟨ps', hps⟩ : ∃ f : Nat → Nat, f = fun l => if l = L + 1 then pz u n (qn u n (ps L) v) (nmb v + 1) else ps l := ⟨_, rfl⟩
          obtain ⟨vs', hvs⟩ : ∃ f : Nat → Nat, f = fun l => if l = L then v else vs l := ⟨_, rfl⟩
          obtain ⟨ks', hks⟩ : ∃ f : Nat → Nat, f = fun l => if l = L then k else ks l := ⟨_, rfl⟩
          have p1 : ∀ l, l ≤ L → ps' l = ps l := fun l hl => by rw [hps]; exact if_neg (by omega)
          have p2 : ps' (L + 1) = pz u n (qn u n (ps L) v) (nmb v + 1) := by rw [hps]; exact if_pos rfl
          have p3 : ∀ l, l < L → vs' l = vs l := fun l hl => by rw [hvs]; exact if_neg (by omega)
          have p4 : vs' L = v := by rw [hvs]; exact if_pos rfl
          have p5 : ∀ l, l < L → ks' l = ks l := fun l hl => by rw [hks]; exact if_neg (by omega)
          have p6 : ks' L = k := by rw [hks]; exact if_pos rfl
          have hP' : Ptx u n so ps' vs' ks' (L + 1) := by
            refine ⟨(p1 0 (Nat.zero_le _)).trans hP.1, fun l hl2 => ?_⟩
            by_cases e : l = L
            · subst e
              rw [p1 l (Nat.le_refl _), p4, p6, p2]
              exact ⟨hS, rfl⟩
            · rw [p1 l (by omega), p3 l (by omega), p5 l (by omega), p1 (l + 1) (by omega)]
              exact hP.2 l (by omega)
          have hl' : LnsX q u n ps' vs' ks' L := by
            intro l hl2
            rw [p1 l (by omega), p3 l hl2, p5 l hl2]
            exact hl l hl2
          have hR' : LnR q c' u n (ps' L) L (vs' L) (ks' L) := by rw [p1 L (Nat.le_refl _), p4, p6]; exact f2
          have hl2 := LnsX.step (so := so) hl' hR'
          obtain ⟨r1, r2, r3, r4, r5, r6, r7, r8, r9⟩ := f2
          have r := ih (L + 1) c' ps' vs' ks' (by omega) hP' (by rw [p2]; exact r1) r2 hl2 (fun x hx => by rw [r8 x hx]; exact ha x hx) (fun x x1 x2 x3 x4 => by rw [r9 x x1 x2 x3 x4]; exact hg x x1 x2 x3 x4)
          rw [iter_step (step := fun st : Int32 × Rec => bX4_readLines_16 st.2 (nI so) st.1) (s := (nI L, q)) (s' := (nI (L + 1), c')) (by
            show bX4_readLines_16 q (nI so) (nI L) = _
            rw [e16, f1, bd_some]
            dsimp only
            rw [if_neg (show ¬ nI 1 = 0 by decide), nI_1])]
          exact r
        · refine ⟨ps, vs, ks, L, si (si c' 12 1) 13 (nI F), hP, by omega, ?_, Or.inr ⟨c1, F, hF, ?_, gi_sie _ _ _⟩⟩
          · refine iter_end (step := fun st : Int32 × Rec => bX4_readLines_16 st.2 (nI so) st.1) (s := (nI L, q)) ?_
            show bX4_readLines_16 q (nI so) (nI L) = _
            rw [e16, f1, bd_some]
            dsimp only
            rw [if_pos (show nI 0 = 0 from rfl)]
            unfold bX4_readLines_37 fX4_blame
            rw [f2]
            rfl
          · rw [gi_sin (by decide), gi_sie]; rfl
  exact key 121 0 (nxR c0 u n 0) (fun _ => 0) (fun _ => 0) (fun _ => 0) (by omega) ⟨rfl, fun l hl => by omega⟩ hA0 g5 (fun l hl => by omega) (fun x _ => gak x) gik
