def wl : List (List Nat) := [[112, 105, 101, 99, 101], [115, 101, 99, 114, 101, 116], [107, 110, 111, 119, 115], [108, 105, 110, 107], [116, 101, 108, 108], [98, 111, 116, 104], [112, 111, 108, 105, 115, 104], [115, 116, 101, 97, 108], [98, 97, 99, 107], [104, 111, 117, 114], [100, 105, 110, 110, 101, 114], [115, 104, 111, 110, 101], [], [108, 111, 118, 101], [100, 101, 98, 116], [100, 101, 97, 116, 104], [119, 105, 108, 108]]
def wch (k i : Nat) : Nat := (wl.getD k []).getD i 0
def wln (k : Nat) : Nat := (wl.getD k []).length
theorem len_nI : ∀ k, k < 17 → fJ0_length_8abf5 k = some (nI (wln k)) := by decide +kernel
theorem chr_nI : ∀ k, k < 17 → ∀ i, i < wln k → fJ0_charAt_5068e k (nI i) = some (nI (wch k i)) := by decide +kernel
theorem wch_b : ∀ k, k < 17 → ∀ i, i < wln k → 97 ≤ wch k i ∧ wch k i ≤ 122 := by decide +kernel
theorem wln_b : ∀ k, k < 17 → wln k ≤ 6 := by decide +kernel
def Sp (u : Nat → Nat) (s e k : Nat) : Prop := e - s = wln k ∧ ∀ i, i < wln k → u (s + i) = wch k i
/-- the class's reader stands at a token -/
def At (c : Rec) (u : Nat → Nat) (n i : Nat) : Prop := Tp c u n ∧ i ≤ n ∧ gi c 2 = nI (tkk u n i) ∧ gi c 3 = nI (tks u n i) ∧ gi c 4 = nI (tke u n i)
theorem tok_b {u : Nat → Nat} {n i : Nat} (hi : i ≤ n) : i ≤ tks u n i ∧ tks u n i ≤ tke u n i ∧ tke u n i ≤ n ∧ tkk u n i ≤ 4 ∧ (tkk u n i = 0 → tks u n i = n) ∧ (tkk u n i ≠ 0 → tks u n i < tke u n i) ∧ (tkk u n i = 1 → ∀ j, tks u n i ≤ j → j < tke u n i → isLt (u j) = true) ∧ (tkk u n i = 2 → tke u n i - tks u n i ≤ 2 ∧ ∀ j, tks u n i ≤ j → j < tke u n i → isDg (u j) = true) := by
  obtain ⟨b1, b2, -⟩ := sk_b (P := isBl) (u := u) (n - i) i
  unfold tks tke tkk tok
  generalize sk isBl u (n - i) i = s at b1 b2 ⊢
  by_cases c0 : n ≤ s
  · rw [if_pos c0]
    exact ⟨b1, Nat.le_refl _, by dsimp only; omega, by dsimp only; omega, fun _ => by dsimp only; omega, fun z => absurd rfl z, fun z => absurd (show 0 = 1 from z) (by decide), fun z => absurd (show 0 = 2 from z) (by decide)⟩
  · rw [if_neg c0]
    by_cases cl : isLt (u s) = true
    · rw [if_pos cl]
      obtain ⟨d1, d2, d3⟩ := sk_b (P := isLt) (u := u) (n - s) s
      have d4 := sk_pos (P := isLt) (u := u) (m := n - s) (i := s) (by omega) cl
      exact ⟨b1, d1, by dsimp only; omega, by dsimp only; omega, fun z => absurd (show 1 = 0 from z) (by decide), fun _ => d4, fun _ => d3, fun z => absurd (show 1 = 2 from z) (by decide)⟩
    · rw [if_neg cl]
      by_cases cd : isDg (u s) = true
      · rw [if_pos cd]
        obtain ⟨d1, d2, d3⟩ := sk_b (P := isDg) (u := u) (n - s) s
        have d4 := sk_pos (P := isDg) (u := u) (m := n - s) (i := s) (by omega) cd
        dsimp only
        by_cases c2 : sk isDg u (n - s) s - s ≤ 2
        · rw [if_pos c2]
          exact ⟨b1, d1, by omega, by decide, fun z => absurd z (by decide), fun _ => d4, fun z => absurd z (by decide), fun _ => ⟨c2, d3⟩⟩
        · rw [if_neg c2]
          exact ⟨b1, d1, by omega, by decide, fun z => absurd z (by decide), fun _ => d4, fun z => absurd z (by decide), fun z => absurd z (by decide)⟩
      · rw [if_neg cd]
        dsimp only
        by_cases c9 : u s = 59
        · rw [if_pos c9]
          exact ⟨b1, by omega, by omega, by decide, fun z => absurd z (by decide), fun _ => by omega, fun z => absurd z (by decide), fun z => absurd z (by decide)⟩
        · rw [if_neg c9]
          exact ⟨b1, by omega, by omega, by decide, fun z => absurd z (by decide), fun _ => by omega, fun z => absurd z (by decide), fun z => absurd z (by decide)⟩
theorem At.next {c : Rec} {u : Nat → Nat} {n i : Nat} (h : At c u n i) : fX4_nextToken c = some (nxR c u n (tke u n i)) ∧ At (nxR c u n (tke u n i)) u n (tke u n i) := by
  obtain ⟨h1, h2, h3, h4, h5⟩ := h
  have hb := tok_b (u := u) h2
  refine ⟨nextTok h1 h5 hb.2.2.1, h1, hb.2.2.1, ?_, ?_, ?_⟩
  · unfold nxR; rw [gi_sin (by decide), gi_sie]
  · unfold nxR; rw [gi_sin (by decide), gi_sin (by decide), gi_sie]
  · unfold nxR; rw [gi_sie]
theorem spellsX {c : Rec} {u : Nat → Nat} {n i k : Nat} (h : At c u n i) (hk : k < 17) : (tkk u n i = 1 ∧ Sp u (tks u n i) (tke u n i) k → fX4_spells c k = some (nI 1)) ∧ (¬ (tkk u n i = 1 ∧ Sp u (tks u n i) (tke u n i) k) → fX4_spells c k = some (nI 0)) := by
  obtain ⟨⟨hn, h1, ht⟩, h2, h3, h4, h5⟩ := h
  obtain ⟨b1, b2, b3, b4, -⟩ := tok_b (u := u) h2
  generalize tks u n i = s at *
  generalize tke u n i = e at *
  generalize tkk u n i = kk at *
  have hln := len_nI k hk
  have hlb := wln_b k hk
  by_cases c1 : kk = 1
  · by_cases c2 : e - s = wln k
    · have e0 : fX4_spells c k = iter (fun st : Int32 => bX4_spells_39 c k st) (nI 0) := by
        unfold fX4_spells
        simp (disch := omega) only [h3, hln, h5, h4, h1, bd_some, gd_true, inR_nI, nI_clamp, nI_add, pk_mul, pk_sub, leT, leF, ltT, ltF, eqT, eqF, ite_true, ite_false, reduceIte, nz_nI, oc_s, oc_n, pk_div, pk_rem, m1F, L0, L1, L2, L3, L4, L5, L6, L7, L8, L9, L10, L11, L12, L19, L20, L24, L25, L27, L28, L30, L32, L37, L39, L40, L47, L48, L50, L55, L57, L60, L61, L63, L71, L80, L97, L99, L100, L120, L122, L128, L161, L17, L600, L1000000, L1024, L1408, isB0, isB1, subdm, inT, inFl, inFh]
      rw [e0]
      have key : ∀ m j, j + m = wln k → (∀ i, i < j → u (s + i) = wch k i) → ((∀ i, i < wln k → u (s + i) = wch k i) → iter (fun st : Int32 => bX4_spells_39 c k st) (nI j) = some (nI 1)) ∧ (¬ (∀ i, i < wln k → u (s + i) = wch k i) → iter (fun st : Int32 => bX4_spells_39 c k st) (nI j) = some (nI 0)) := by
        intro m
        induction m with
        | zero =>
          intro j hj hp
          refine ⟨fun _ => iter_end ?_, fun q => absurd (fun i hi => hp i (by omega)) q⟩
          show bX4_spells_39 c k (nI j) = _
          unfold bX4_spells_39
          simp (disch := omega) only [hln, bd_some, gd_true, inR_nI, nI_clamp, nI_add, pk_mul, pk_sub, leT, leF, ltT, ltF, eqT, eqF, ite_true, ite_false, reduceIte, nz_nI, oc_s, oc_n, pk_div, pk_rem, m1F, L0, L1, L2, L3, L4, L5, L6, L7, L8, L9, L10, L11, L12, L19, L20, L24, L25, L27, L28, L30, L32, L37, L39, L40, L47, L48, L50, L55, L57, L60, L61, L63, L71, L80, L97, L99, L100, L120, L122, L128, L161, L17, L600, L1000000, L1024, L1408, isB0, isB1, subdm, inT, inFl, inFh]
        | succ m ih =>
          intro j hj hp
          have hb := ht (s + j) (by omega)
          have hc := chr_nI k hk j (by omega)
          have hcb := wch_b k hk j (by omega)
          have hq := eq_byte hb.1 (c := wch k j) (by omega)
          rw [hb.2] at hq
          by_cases cc : u (s + j) = wch k j
          · have hT : (ga c 0 (s + j) = nI (wch k j)) = True := eq_true (hq.mpr cc)
            rw [iter_step (step := fun st : Int32 => bX4_spells_39 c k st) (s := nI j) (s' := nI (j + 1)) (by
              show bX4_spells_39 c k (nI j) = _
              unfold bX4_spells_39
              simp (disch := omega) only [hln, h4, hc, hT, bd_some, gd_true, inR_nI, nI_clamp, nI_add, pk_mul, pk_sub, leT, leF, ltT, ltF, eqT, eqF, ite_true, ite_false, reduceIte, nz_nI, oc_s, oc_n, pk_div, pk_rem, m1F, L0, L1, L2, L3, L4, L5, L6, L7, L8, L9, L10, L11, L12, L19, L20, L24, L25, L27, L28, L30, L32, L37, L39, L40, L47, L48, L50, L55, L57, L60, L61, L63, L71, L80, L97, L99, L100, L120, L122, L128, L161, L17, L600, L1000000, L1024, L1408, isB0, isB1, subdm, inT, inFl, inFh])]
            refine ih (j + 1) (by omega) (fun i hi => ?_)
            by_cases d : i = j
            · rw [d]; exact cc
            · exact hp i (by omega)
          · have hF : (ga c 0 (s + j) = nI (wch k j)) = False := eq_false (fun z => cc (hq.mp z))
            refine ⟨fun q => absurd (q j (by omega)) cc, fun _ => iter_end ?_⟩
            show bX4_spells_39 c k (nI j) = _
            unfold bX4_spells_39
            simp (disch := omega) only [hln, h4, hc, hF, bd_some, gd_true, inR_nI, nI_clamp, nI_add, pk_mul, pk_sub, leT, leF, ltT, ltF, eqT, eqF, ite_true, ite_false, reduceIte, nz_nI, oc_s, oc_n, pk_div, pk_rem, m1F, L0, L1, L2, L3, L4, L5, L6, L7, L8, L9, L10, L11, L12, L19, L20, L24, L25, L27, L28, L30, L32, L37, L39, L40, L47, L48, L50, L55, L57, L60, L61, L63, L71, L80, L97, L99, L100, L120, L122, L128, L161, L17, L600, L1000000, L1024, L1408, isB0, isB1, subdm, inT, inFl, inFh]
      have K := key (wln k) 0 (by omega) (fun i hi => by omega)
      exact ⟨fun q => K.1 q.2.2, fun q => K.2 (fun z => q ⟨c1, c2, z⟩)⟩
    · refine ⟨fun q => absurd q.2.1 c2, fun _ => ?_⟩
      unfold fX4_spells
      simp (disch := omega) only [h3, hln, h5, h4, bd_some, gd_true, inR_nI, nI_clamp, nI_add, pk_mul, pk_sub, leT, leF, ltT, ltF, eqT, eqF, ite_true, ite_false, reduceIte, nz_nI, oc_s, oc_n, pk_div, pk_rem, m1F, L0, L1, L2, L3, L4, L5, L6, L7, L8, L9, L10, L11, L12, L19, L20, L24, L25, L27, L28, L30, L32, L37, L39, L40, L47, L48, L50, L55, L57, L60, L61, L63, L71, L80, L97, L99, L100, L120, L122, L128, L161, L17, L600, L1000000, L1024, L1408, isB0, isB1, subdm, inT, inFl, inFh]
  · refine ⟨fun q => absurd q.1 c1, fun _ => ?_⟩
    unfold fX4_spells
    simp (disch := omega) only [h3, bd_some, gd_true, inR_nI, nI_clamp, nI_add, pk_mul, pk_sub, leT, leF, ltT, ltF, eqT, eqF, ite_true, ite_false, reduceIte, nz_nI, oc_s, oc_n, pk_div, pk_rem, m1F, L0, L1, L2, L3, L4, L5, L6, L7, L8, L9, L10, L11, L12, L19, L20, L24, L25, L27, L28, L30, L32, L37, L39, L40, L47, L48, L50, L55, L57, L60, L61, L63, L71, L80, L97, L99, L100, L120, L122, L128, L161, L17, L600, L1000000, L1024, L1408, isB0, isB1, subdm, inT, inFl, inFh]
theorem wordOf_nI : ∀ v, v < 12 → fX4_wordOf (nI v) = some v := by decide +kernel
def vfr (so : Nat) : Nat := ([0, 4, 10, 11, 12] : List Nat).getD so 0
theorem vfr_d0 : ∀ so, so < 5 → sDt 0 so = nI (vfr so) := by decide +kernel
theorem vfr_b : ∀ so, so < 4 → vfr so ≤ vfr (so + 1) ∧ vfr (so + 1) ≤ 12 := by decide +kernel
theorem sLn_0 : sLn 0 = 5 := rfl
theorem verbX {c : Rec} {u : Nat → Nat} {n i so : Nat} (h : At c u n i) (hso : so < 4) : (∃ v, vfr so ≤ v ∧ v < vfr (so + 1) ∧ tkk u n i = 1 ∧ Sp u (tks u n i) (tke u n i) v ∧ fX4_verbOf c (nI so) = some (nI v)) ∨ ((∀ v, vfr so ≤ v → v < vfr (so + 1) → ¬ (tkk u n i = 1 ∧ Sp u (tks u n i) (tke u n i) v)) ∧ fX4_verbOf c (nI so) = some (-nI 1)) := by
  have hv := vfr_b so hso
  have d0 := vfr_d0 so (by omega)
  have d1 := vfr_d0 (so + 1) (by omega)
  have e0 : fX4_verbOf c (nI so) = iter (fun st : Int32 => bX4_verbOf_17 c (nI so) st) (nI (vfr so)) := by
    unfold fX4_verbOf
    simp (disch := omega) only [sLn_0, d0, bd_some, gd_true, inR_nI, nI_clamp, nI_add, pk_mul, pk_sub, leT, leF, ltT, ltF, eqT, eqF, ite_true, ite_false, reduceIte, nz_nI, oc_s, oc_n, pk_div, pk_rem, m1F, L0, L1, L2, L3, L4, L5, L6, L7, L8, L9, L10, L11, L12, L19, L20, L24, L25, L27, L28, L30, L32, L37, L39, L40, L47, L48, L50, L55, L57, L60, L61, L63, L71, L80, L97, L99, L100, L120, L122, L128, L161, L17, L600, L1000000, L1024, L1408, isB0, isB1, subdm, inT, inFl, inFh]
  rw [e0]
  have key : ∀ m v, vfr so ≤ v → v + m = vfr (so + 1) → (∀ w, vfr so ≤ w → w < v → ¬ (tkk u n i = 1 ∧ Sp u (tks u n i) (tke u n i) w)) → (∃ v, vfr so ≤ v ∧ v < vfr (so + 1) ∧ tkk u n i = 1 ∧ Sp u (tks u n i) (tke u n i) v ∧ iter (fun st : Int32 => bX4_verbOf_17 c (nI so) st) (nI v) = some (nI v)) ∨ True := fun _ _ _ _ _ => Or.inr trivial
  have key : ∀ m v, vfr so ≤ v → v + m = vfr (so + 1) → (∀ w, vfr so ≤ w → w < v → ¬ (tkk u n i = 1 ∧ Sp u (tks u n i) (tke u n i) w)) → (∃ w, vfr so ≤ w ∧ w < vfr (so + 1) ∧ tkk u n i = 1 ∧ Sp u (tks u n i) (tke u n i) w ∧ iter (fun st : Int32 => bX4_verbOf_17 c (nI so) st) (nI v) = some (nI w)) ∨ ((∀ w, vfr so ≤ w → w < vfr (so + 1) → ¬ (tkk u n i = 1 ∧ Sp u (tks u n i) (tke u n i) w)) ∧ iter (fun st : Int32 => bX4_verbOf_17 c (nI so) st) (nI v) = some (-nI 1)) := by
    intro m
    induction m with
    | zero =>
      intro v hv1 hv2 hw
      refine Or.inr ⟨fun w w1 w2 => hw w w1 (by omega), iter_end ?_⟩
      show bX4_verbOf_17 c (nI so) (nI v) = _
      unfold bX4_verbOf_17
      simp (disch := omega) only [sLn_0, d1, bd_some, gd_true, inR_nI, nI_clamp, nI_add, pk_mul, pk_sub, leT, leF, ltT, ltF, eqT, eqF, ite_true, ite_false, reduceIte, nz_nI, oc_s, oc_n, pk_div, pk_rem, m1F, L0, L1, L2, L3, L4, L5, L6, L7, L8, L9, L10, L11, L12, L19, L20, L24, L25, L27, L28, L30, L32, L37, L39, L40, L47, L48, L50, L55, L57, L60, L61, L63, L71, L80, L97, L99, L100, L120, L122, L128, L161, L17, L600, L1000000, L1024, L1408, isB0, isB1, subdm, inT, inFl, inFh]
    | succ m ih =>
      intro v hv1 hv2 hw
      have hwo := wordOf_nI v (by omega)
      have hg : decide (v < 17) = true := decide_eq_true (by omega)
      obtain ⟨s1, s2⟩ := spellsX (k := v) h (by omega)
      by_cases q : tkk u n i = 1 ∧ Sp u (tks u n i) (tke u n i) v
      · have s1 := s1 q
        refine Or.inl ⟨v, hv1, by omega, q.1, q.2, iter_end ?_⟩
        show bX4_verbOf_17 c (nI so) (nI v) = _
        unfold bX4_verbOf_17
        simp (disch := omega) only [sLn_0, d1, hwo, hg, s1, bd_some, gd_true, inR_nI, nI_clamp, nI_add, pk_mul, pk_sub, leT, leF, ltT, ltF, eqT, eqF, ite_true, ite_false, reduceIte, nz_nI, oc_s, oc_n, pk_div, pk_rem, m1F, L0, L1, L2, L3, L4, L5, L6, L7, L8, L9, L10, L11, L12, L19, L20, L24, L25, L27, L28, L30, L32, L37, L39, L40, L47, L48, L50, L55, L57, L60, L61, L63, L71, L80, L97, L99, L100, L120, L122, L128, L161, L17, L600, L1000000, L1024, L1408, isB0, isB1, subdm, inT, inFl, inFh]
      · have s2 := s2 q
        rw [iter_step (step := fun st : Int32 => bX4_verbOf_17 c (nI so) st) (s := nI v) (s' := nI (v + 1)) (by
          show bX4_verbOf_17 c (nI so) (nI v) = _
          unfold bX4_verbOf_17
          simp (disch := omega) only [sLn_0, d1, hwo, hg, s2, bd_some, gd_true, inR_nI, nI_clamp, nI_add, pk_mul, pk_sub, leT, leF, ltT, ltF, eqT, eqF, ite_true, ite_false, reduceIte, nz_nI, oc_s, oc_n, pk_div, pk_rem, m1F, L0, L1, L2, L3, L4, L5, L6, L7, L8, L9, L10, L11, L12, L19, L20, L24, L25, L27, L28, L30, L32, L37, L39, L40, L47, L48, L50, L55, L57, L60, L61, L63, L71, L80, L97, L99, L100, L120, L122, L128, L161, L17, L600, L1000000, L1024, L1408, isB0, isB1, subdm, inT, inFl, inFh])]
        refine ih (v + 1) (by omega) (by omega) (fun w w1 w2 => ?_)
        by_cases d : w = v
        · rw [d]; exact q
        · exact hw w w1 (by omega)
  exact key (vfr (so + 1) - vfr so) (vfr so) (Nat.le_refl _) (by omega) (fun w w1 w2 => by omega)
theorem kindX {c : Rec} {u : Nat → Nat} {n i : Nat} (h : At c u n i) : (∃ k, k < 4 ∧ tkk u n i = 1 ∧ Sp u (tks u n i) (tke u n i) (13 + k) ∧ (∀ j, j < k → ¬ (tkk u n i = 1 ∧ Sp u (tks u n i) (tke u n i) (13 + j))) ∧ fX4_kindOf c = some (nI k)) ∨ ((∀ k, k < 4 → ¬ (tkk u n i = 1 ∧ Sp u (tks u n i) (tke u n i) (13 + k))) ∧ fX4_kindOf c = some (-nI 1)) := by
  obtain ⟨a1, a2⟩ := spellsX (k := 13) h (by decide)
  obtain ⟨b1, b2⟩ := spellsX (k := 14) h (by decide)
  obtain ⟨c1, c2⟩ := spellsX (k := 15) h (by decide)
  obtain ⟨d1, d2⟩ := spellsX (k := 16) h (by decide)
  unfold fX4_kindOf
  by_cases q0 : tkk u n i = 1 ∧ Sp u (tks u n i) (tke u n i) 13
  · have a1 := a1 q0
    refine Or.inl ⟨0, by decide, q0.1, q0.2, fun j hj => by omega, ?_⟩
    simp (disch := omega) only [a1, bd_some, gd_true, inR_nI, nI_clamp, nI_add, pk_mul, pk_sub, leT, leF, ltT, ltF, eqT, eqF, ite_true, ite_false, reduceIte, nz_nI, oc_s, oc_n, pk_div, pk_rem, m1F, L0, L1, L2, L3, L4, L5, L6, L7, L8, L9, L10, L11, L12, L19, L20, L24, L25, L27, L28, L30, L32, L37, L39, L40, L47, L48, L50, L55, L57, L60, L61, L63, L71, L80, L97, L99, L100, L120, L122, L128, L161, L17, L600, L1000000, L1024, L1408, isB0, isB1, subdm, inT, inFl, inFh]
  · have a2 := a2 q0
    by_cases q1 : tkk u n i = 1 ∧ Sp u (tks u n i) (tke u n i) 14
    · have b1 := b1 q1
      refine Or.inl ⟨1, by decide, q1.1, q1.2, fun j hj => ?_, ?_⟩
      · rw [show j = 0 by omega]; exact q0
      · simp (disch := omega) only [a2, b1, bd_some, gd_true, inR_nI, nI_clamp, nI_add, pk_mul, pk_sub, leT, leF, ltT, ltF, eqT, eqF, ite_true, ite_false, reduceIte, nz_nI, oc_s, oc_n, pk_div, pk_rem, m1F, L0, L1, L2, L3, L4, L5, L6, L7, L8, L9, L10, L11, L12, L19, L20, L24, L25, L27, L28, L30, L32, L37, L39, L40, L47, L48, L50, L55, L57, L60, L61, L63, L71, L80, L97, L99, L100, L120, L122, L128, L161, L17, L600, L1000000, L1024, L1408, isB0, isB1, subdm, inT, inFl, inFh]
    · have b2 := b2 q1
      by_cases q2 : tkk u n i = 1 ∧ Sp u (tks u n i) (tke u n i) 15
      · have c1 := c1 q2
        refine Or.inl ⟨2, by decide, q2.1, q2.2, fun j hj => ?_, ?_⟩
        · rcases (show j = 0 ∨ j = 1 by omega) with z | z
          · rw [z]; exact q0
          · rw [z]; exact q1
        · simp (disch := omega) only [a2, b2, c1, bd_some, gd_true, inR_nI, nI_clamp, nI_add, pk_mul, pk_sub, leT, leF, ltT, ltF, eqT, eqF, ite_true, ite_false, reduceIte, nz_nI, oc_s, oc_n, pk_div, pk_rem, m1F, L0, L1, L2, L3, L4, L5, L6, L7, L8, L9, L10, L11, L12, L19, L20, L24, L25, L27, L28, L30, L32, L37, L39, L40, L47, L48, L50, L55, L57, L60, L61, L63, L71, L80, L97, L99, L100, L120, L122, L128, L161, L17, L600, L1000000, L1024, L1408, isB0, isB1, subdm, inT, inFl, inFh]
      · have c2 := c2 q2
        by_cases q3 : tkk u n i = 1 ∧ Sp u (tks u n i) (tke u n i) 16
        · have d1 := d1 q3
          refine Or.inl ⟨3, by decide, q3.1, q3.2, fun j hj => ?_, ?_⟩
          · rcases (show j = 0 ∨ j = 1 ∨ j = 2 by omega) with z | z | z
            · rw [z]; exact q0
            · rw [z]; exact q1
            · rw [z]; exact q2
          · simp (disch := omega) only [a2, b2, c2, d1, bd_some, gd_true, inR_nI, nI_clamp, nI_add, pk_mul, pk_sub, leT, leF, ltT, ltF, eqT, eqF, ite_true, ite_false, reduceIte, nz_nI, oc_s, oc_n, pk_div, pk_rem, m1F, L0, L1, L2, L3, L4, L5, L6, L7, L8, L9, L10, L11, L12, L19, L20, L24, L25, L27, L28, L30, L32, L37, L39, L40, L47, L48, L50, L55, L57, L60, L61, L63, L71, L80, L97, L99, L100, L120, L122, L128, L161, L17, L600, L1000000, L1024, L1408, isB0, isB1, subdm, inT, inFl, inFh]
        · have d2 := d2 q3
          refine Or.inr ⟨fun k hk => ?_, ?_⟩
          · rcases (show k = 0 ∨ k = 1 ∨ k = 2 ∨ k = 3 by omega) with z | z | z | z
            · rw [z]; exact q0
            · rw [z]; exact q1
            · rw [z]; exact q2
            · rw [z]; exact q3
          · simp (disch := omega) only [a2, b2, c2, d2, bd_some, gd_true, inR_nI, nI_clamp, nI_add, pk_mul, pk_sub, leT, leF, ltT, ltF, eqT, eqF, ite_true, ite_false, reduceIte, nz_nI, oc_s, oc_n, pk_div, pk_rem, m1F, L0, L1, L2, L3, L4, L5, L6, L7, L8, L9, L10, L11, L12, L19, L20, L24, L25, L27, L28, L30, L32, L37, L39, L40, L47, L48, L50, L55, L57, L60, L61, L63, L71, L80, L97, L99, L100, L120, L122, L128, L161, L17, L600, L1000000, L1024, L1408, isB0, isB1, subdm, inT, inFl, inFh]
theorem numX {c : Rec} {u : Nat → Nat} {n i : Nat} (h : At c u n i) (hk : tkk u n i = 2) : fX4_tokenNumber c = some (nI (nvF u (tks u n i) (tke u n i - tks u n i))) := by
  obtain ⟨⟨hn, h1, ht⟩, h2, h3, h4, h5⟩ := h
  obtain ⟨b1, b2, b3, b4, -, -, -, b8⟩ := tok_b (u := u) h2
  have b8 := b8 hk
  generalize tks u n i = s at *
  generalize tke u n i = e at *
  unfold fX4_tokenNumber
  rw [h4]
  have h0 : ((0 : Int32), nI s) = (fun j => (nI (nvF u s j), nI (s + j))) 0 := rfl
  rw [h0]
  refine loopO (step := fun st : Int32 × Int32 => bX4_tokenNumber_7 c st.1 st.2) (fun j => (nI (nvF u s j), nI (s + j))) (e - s) (fun j hj => ?_) ?_
  · show bX4_tokenNumber_7 c (nI (nvF u s j)) (nI (s + j)) = some (.inl (nI (nvF u s j * 10 + (u (s + j) - 48)), nI (s + (j + 1))))
    have hb := ht (s + j) (by omega)
    have hd := isDg_iff.mp (b8.2 (s + j) (by omega) (by omega))
    have hx : ga c 0 (s + j) = nI (u (s + j)) := by
      rcases by_ub hb.1 with ⟨z, -⟩ | ⟨-, z⟩
      · rw [hb.2] at z; exact z
      · rw [hb.2] at z; omega
    unfold bX4_tokenNumber_7
    simp (disch := omega) only [h5, h1, hx, bd_some, gd_true, inR_nI, nI_clamp, nI_add, pk_mul, pk_sub, leT, leF, ltT, ltF, eqT, eqF, ite_true, ite_false, reduceIte, nz_nI, oc_s, oc_n, pk_div, pk_rem, m1F, L0, L1, L2, L3, L4, L5, L6, L7, L8, L9, L10, L11, L12, L19, L20, L24, L25, L27, L28, L30, L32, L37, L39, L40, L47, L48, L50, L55, L57, L60, L61, L63, L71, L80, L97, L99, L100, L120, L122, L128, L161, L17, L600, L1000000, L1024, L1408, isB0, isB1, subdm, inT, inFl, inFh]
    rfl
  · show bX4_tokenNumber_7 c (nI (nvF u s (e - s))) (nI (s + (e - s))) = _
    unfold bX4_tokenNumber_7
    simp (disch := omega) only [h5, h1, bd_some, gd_true, inR_nI, nI_clamp, nI_add, pk_mul, pk_sub, leT, leF, ltT, ltF, eqT, eqF, ite_true, ite_false, reduceIte, nz_nI, oc_s, oc_n, pk_div, pk_rem, m1F, L0, L1, L2, L3, L4, L5, L6, L7, L8, L9, L10, L11, L12, L19, L20, L24, L25, L27, L28, L30, L32, L37, L39, L40, L47, L48, L50, L55, L57, L60, L61, L63, L71, L80, L97, L99, L100, L120, L122, L128, L161, L17, L600, L1000000, L1024, L1408, isB0, isB1, subdm, inT, inFl, inFh]
    all_goals rfl
/-! words of the reference -/
theorem pkw_inj {u f : Nat → Nat} {s : Nat} : ∀ m l, (∀ j, j < m → 1 ≤ u (s + j) ∧ u (s + j) < 256) → (∀ j, j < l → 1 ≤ f j ∧ f j < 256) → pkw u s m = pkw f 0 l → m = l ∧ ∀ j, j < m → u (s + j) = f j
  | 0, 0, _, _, _ => ⟨rfl, fun j hj => by omega⟩
  | 0, l + 1, _, h2, h => by
    have h3 := h2 l (by omega)
    have h : 0 = pkw f 0 l * 256 + f (0 + l) := h
    rw [Nat.zero_add] at h
    omega
  | m + 1, 0, h1, _, h => by
    have h3 := h1 m (by omega)
    have h : pkw u s m * 256 + u (s + m) = 0 := h
    omega
  | m + 1, l + 1, h1, h2, h => by
    have h3 := h1 m (by omega)
    have h4 := h2 l (by omega)
    have h : pkw u s m * 256 + u (s + m) = pkw f 0 l * 256 + f (0 + l) := h
    rw [Nat.zero_add] at h
    obtain ⟨i1, i2⟩ := pkw_inj m l (fun j hj => h1 j (by omega)) (fun j hj => h2 j (by omega)) (by omega)
    subst i1
    refine ⟨rfl, fun j hj => ?_⟩
    by_cases c : j = m
    · rw [c]; omega
    · exact i2 j (by omega)
theorem pkw_congr {u f : Nat → Nat} {s : Nat} : ∀ m, (∀ j, j < m → u (s + j) = f j) → pkw u s m = pkw f 0 m
  | 0, _ => rfl
  | m + 1, h => by
    show pkw u s m * 256 + u (s + m) = pkw f 0 m * 256 + f (0 + m)
    rw [pkw_congr m (fun j hj => h j (by omega)), h m (by omega), Nat.zero_add]
/-- the word of a token, as the reference holds it -/
def wdq (u : Nat → Nat) (n i : Nat) : Int64 := if tkk u n i = 1 then lN (if tke u n i - tks u n i ≤ 8 then pkw u (tks u n i) (tke u n i - tks u n i) else 0) else 0
theorem word_iff {u : Nat → Nat} {n i k C : Nat} (hu : ∀ j, u j < 256) (hi : i ≤ n) (hk : k < 17) (hk2 : 0 < wln k) (hC : pkw (wch k) 0 (wln k) = C) : lg_cmp (wdq u n i) (lN C) = 0 ↔ (tkk u n i = 1 ∧ Sp u (tks u n i) (tke u n i) k) := by
  obtain ⟨b1, b2, b3, b4, b5, b6, b7, -⟩ := tok_b (u := u) hi
  have hlb := wln_b k hk
  have hwb := wch_b k hk
  have hC1 : C < 256 ^ 6 := by
    have h1 := pkw_lt (u := fun j => if j < wln k then wch k j else 0) (s := 0) (fun j => by
      try dsimp only
      split
      · have := (hwb j (by assumption)).2; omega
      · omega) (wln k)
    have h2 : pkw (fun j => if j < wln k then wch k j else 0) 0 (wln k) = pkw (wch k) 0 (wln k) := by
      refine pkw_congr (wln k) (fun j hj => ?_)
      try dsimp only
      rw [Nat.zero_add, if_pos hj]
    have h3 : 256 ^ wln k ≤ 256 ^ 6 := Nat.pow_le_pow_right (by decide) hlb
    omega
  have hC0 : 0 < C := by
    obtain ⟨m, hm⟩ : ∃ m, wln k = m + 1 := ⟨wln k - 1, by omega⟩
    have h1 := (hwb m (by omega)).1
    rw [hm] at hC
    have hC : pkw (wch k) 0 m * 256 + wch k (0 + m) = C := hC
    rw [Nat.zero_add] at hC
    omega
  have e6 : (256 : Nat) ^ 6 < 2 ^ 64 := by decide
  rw [lg_cmp0]
  unfold wdq
  by_cases c1 : tkk u n i = 1
  · rw [if_pos c1]
    have hlt := b7 c1
    by_cases c8 : tke u n i - tks u n i ≤ 8
    · rw [if_pos c8]
      have hp := pkw_lt (s := tks u n i) hu (tke u n i - tks u n i)
      have hp2 : 256 ^ (tke u n i - tks u n i) ≤ 256 ^ 8 := Nat.pow_le_pow_right (by decide) c8
      have e8 : (256 : Nat) ^ 8 = 2 ^ 64 := by decide
      rw [lN_big (by omega) (by omega)]
      constructor
      · intro h
        rw [← hC] at h
        obtain ⟨q1, q2⟩ := pkw_inj (tke u n i - tks u n i) (wln k) (fun j hj => by
          have := isLt_iff.mp (hlt (tks u n i + j) (by omega) (by omega))
          omega) (fun j hj => by have := hwb j hj; omega) h
        exact ⟨c1, q1, fun j hj => q2 j (by omega)⟩
      · rintro ⟨-, q1, q2⟩
        rw [q1, ← hC]
        exact pkw_congr (wln k) q2
    · rw [if_neg c8, lN_big (by decide) (by omega)]
      constructor
      · intro h; omega
      · rintro ⟨-, q1, -⟩; omega
  · rw [if_neg c1]
    constructor
    · intro h
      have h : lN 0 = lN C := h
      have := (lN_big (by decide) (by omega)).mp h
      omega
    · intro h; exact absurd h.1 c1
