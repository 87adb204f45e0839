theorem iter_loopK {σ ρ γ : Type} {step : σ → Option (σ ⊕ ρ)} (I : Nat → σ → Prop) (K : γ → Option ρ) (P : γ → Prop) : ∀ (n k : Nat) (s0 : σ), I k s0 → (∀ i s, k ≤ i → i < k + n → I i s → ∃ s', step s = some (.inl s') ∧ I (i + 1) s') → (∀ s, I (k + n) s → ∃ y, step s = out1 (K y) ∧ P y) → ∃ y, iter step s0 = K y ∧ P y := by
  intro n
  induction n with
  | zero =>
    intro k s0 h0 _ he
    obtain ⟨y, e, hp⟩ := he s0 h0
    exact ⟨y, iter_out e, hp⟩
  | succ n ih =>
    intro k s0 h0 hs he
    obtain ⟨s1, e, h1⟩ := hs k s0 (Nat.le_refl k) (by omega) h0
    rw [iter_step e]
    exact ih (k + 1) s1 h1 (fun i s hi hi2 => hs i s (by omega) (by omega)) (fun s hs => he s (by rw [show k + (n + 1) = k + 1 + n by omega]; exact hs))
theorem kind_nI {c : Nat} (hc : c < 120) : fX9_kindOfCode (nI c) = some (nI (c / 30)) := by
  unfold fX9_kindOfCode
  simp (disch := omega) only [bd_some, gd_true, inR_nI, nI_clamp, nI_add, pk_mul, pk_sub, leT, leF, ltT, ltF, eqT, eqF, ite_true, ite_false, reduceIte, nz_nI, oc_s, oc_n, pk_div, pk_rem, m1F, L0, L1, L2, L3, L4, L5, L6, L7, L8, L9, L10, L11, L12, L19, L20, L24, L25, L27, L28, L30, L32, L37, L39, L40, L47, L48, L50, L55, L57, L60, L61, L63, L71, L80, L97, L99, L100, L120, L122, L128, L161, L17, L600, L1000000, L1024, L1408, isB0, isB1, subdm, inT, inFl, inFh]
theorem wei_nI {c : Nat} (hc : c < 120) : fX9_weightOfCode (nI c) = some (nI (c % 30 + 1)) := by
  unfold fX9_weightOfCode
  simp (disch := omega) only [bd_some, gd_true, inR_nI, nI_clamp, nI_add, pk_mul, pk_sub, leT, leF, ltT, ltF, eqT, eqF, ite_true, ite_false, reduceIte, nz_nI, oc_s, oc_n, pk_div, pk_rem, m1F, L0, L1, L2, L3, L4, L5, L6, L7, L8, L9, L10, L11, L12, L19, L20, L24, L25, L27, L28, L30, L32, L37, L39, L40, L47, L48, L50, L55, L57, L60, L61, L63, L71, L80, L97, L99, L100, L120, L122, L128, L161, L17, L600, L1000000, L1024, L1408, isB0, isB1, subdm, inT, inFl, inFh]
theorem negEq {x : Int32} {k : Nat} (h : x < 0) (hk : k < 2 ^ 31) : (x = nI k) = False := eq_false (fun e => by rw [e] at h; exact nI_nlt0 hk h)

def sukA (N : Nat) (f : Nat → Nat) : Prop := ∀ j, j < N → (f j) / 30 = (f 0) / 30
theorem sukX {g : Gs} {N : Nat} {f : Nat → Nat} (hf : fiX g N f) (hN : N ≤ 120) (hf2 : ∀ j, j < N → f j < 120) : (N = 0 → fX1_sureKind g = some (-nI 1)) ∧ (0 < N → sukA N f → fX1_sureKind g = some (nI ((f 0) / 30))) ∧ (0 < N → ¬ sukA N f → fX1_sureKind g = some (-nI 1)) := by
  obtain ⟨a1, a2⟩ := hf
  have key : 0 < N → ∀ d k, 1 ≤ k → k + d = N → (∀ j, j < k → (f j) / 30 = (f 0) / 30) → (sukA N f → iter (fun st : Int32 => bX1_sureKind_2 g st) (nI k) = some (nI ((f 0) / 30))) ∧ (¬ sukA N f → iter (fun st : Int32 => bX1_sureKind_2 g st) (nI k) = some (-nI 1)) := by
    intro hN0 d
    have b0 := a2 0 hN0
    have c0 := hf2 0 hN0
    have b0' : ga (g 101) 0 (Int32.toNatClampNeg 0) = nI (f 0) := b0
    induction d with
    | zero =>
      intro k hk1 hk hj
      refine ⟨fun _ => iter_out ?_, fun q => absurd (fun j hj2 => hj j (by omega)) q⟩
      show bX1_sureKind_2 g (nI k) = out1 (some (nI ((f 0) / 30)))
      unfold bX1_sureKind_2 bX1_sureKind_39
      simp (disch := omega) only [a1, b0, b0', kind_nI, bd_some, gd_true, inR_nI, nI_clamp, nI_add, pk_mul, pk_sub, leT, leF, ltT, ltF, eqT, eqF, ite_true, ite_false, reduceIte, nz_nI, oc_s, oc_n, pk_div, pk_rem, m1F, L0, L1, L2, L3, L4, L5, L6, L7, L8, L9, L10, L11, L12, L19, L20, L24, L25, L27, L28, L30, L32, L37, L39, L40, L47, L48, L50, L55, L57, L60, L61, L63, L71, L80, L97, L99, L100, L120, L122, L128, L161, L17, L600, L1000000, L1024, L1408, isB0, isB1, subdm, inT, inFl, inFh]
    | succ d ih =>
      intro k hk1 hk hj
      have bk := a2 k (by omega)
      have ck := hf2 k (by omega)
      by_cases c : (f k) / 30 = (f 0) / 30
      · rw [iter_step (step := fun st : Int32 => bX1_sureKind_2 g st) (s := nI k) (s' := nI (k + 1)) (by
          show bX1_sureKind_2 g (nI k) = _
          unfold bX1_sureKind_2
          simp (disch := omega) only [a1, b0, b0', bk, kind_nI, bd_some, gd_true, inR_nI, nI_clamp, nI_add, pk_mul, pk_sub, leT, leF, ltT, ltF, eqT, eqF, ite_true, ite_false, reduceIte, nz_nI, oc_s, oc_n, pk_div, pk_rem, m1F, L0, L1, L2, L3, L4, L5, L6, L7, L8, L9, L10, L11, L12, L19, L20, L24, L25, L27, L28, L30, L32, L37, L39, L40, L47, L48, L50, L55, L57, L60, L61, L63, L71, L80, L97, L99, L100, L120, L122, L128, L161, L17, L600, L1000000, L1024, L1408, isB0, isB1, subdm, inT, inFl, inFh])]
        refine ih (k + 1) (by omega) (by omega) (fun j hj2 => ?_)
        by_cases e : j = k
        · rw [e]; exact c
        · exact hj j (by omega)
      · refine ⟨fun q => absurd (q k (by omega)) c, fun _ => iter_end ?_⟩
        show bX1_sureKind_2 g (nI k) = _
        unfold bX1_sureKind_2
        simp (disch := omega) only [a1, b0, b0', bk, kind_nI, bd_some, gd_true, inR_nI, nI_clamp, nI_add, pk_mul, pk_sub, leT, leF, ltT, ltF, eqT, eqF, ite_true, ite_false, reduceIte, nz_nI, oc_s, oc_n, pk_div, pk_rem, m1F, L0, L1, L2, L3, L4, L5, L6, L7, L8, L9, L10, L11, L12, L19, L20, L24, L25, L27, L28, L30, L32, L37, L39, L40, L47, L48, L50, L55, L57, L60, L61, L63, L71, L80, L97, L99, L100, L120, L122, L128, L161, L17, L600, L1000000, L1024, L1408, isB0, isB1, subdm, inT, inFl, inFh]
  unfold fX1_sureKind
  refine ⟨fun h0 => ?_, fun h0 hA => (key h0 (N - 1) 1 (by omega) (by omega) (fun j hj => by rw [show j = 0 by omega])).1 hA, fun h0 hA => (key h0 (N - 1) 1 (by omega) (by omega) (fun j hj => by rw [show j = 0 by omega])).2 hA⟩
  refine iter_out (step := fun st : Int32 => bX1_sureKind_2 g st) (s := 1) ?_
  show bX1_sureKind_2 g 1 = out1 (some (-nI 1))
  unfold bX1_sureKind_2 bX1_sureKind_39
  simp (disch := omega) only [a1, bd_some, gd_true, inR_nI, nI_clamp, nI_add, pk_mul, pk_sub, leT, leF, ltT, ltF, eqT, eqF, ite_true, ite_false, reduceIte, nz_nI, oc_s, oc_n, pk_div, pk_rem, m1F, L0, L1, L2, L3, L4, L5, L6, L7, L8, L9, L10, L11, L12, L19, L20, L24, L25, L27, L28, L30, L32, L37, L39, L40, L47, L48, L50, L55, L57, L60, L61, L63, L71, L80, L97, L99, L100, L120, L122, L128, L161, L17, L600, L1000000, L1024, L1408, isB0, isB1, subdm, inT, inFl, inFh]
theorem sukM {r : Rec} {N : Nat} {f : Nat → Nat} (hf : fiM r N f) (hN : N ≤ 120) (hf2 : ∀ j, j < N → f j < 120) : (N = 0 → fX10_sureOf r (nI 1) = some (-nI 1)) ∧ (0 < N → sukA N f → fX10_sureOf r (nI 1) = some (nI ((f 0) / 30))) ∧ (0 < N → ¬ sukA N f → fX10_sureOf r (nI 1) = some (-nI 1)) := by
  obtain ⟨a1, a2⟩ := hf
  have bad : ∀ d k, 1 ≤ k → k + d = N → iter (fun st : Int32 × Int32 => bX10_sureOf_41 r (nI 1) st.1 st.2) (-nI 1, nI k) = some (-nI 1) := by
    intro d
    induction d with
    | zero =>
      intro k hk1 hk
      refine iter_end (step := fun st : Int32 × Int32 => bX10_sureOf_41 r (nI 1) st.1 st.2) (s := (-nI 1, nI k)) ?_
      show bX10_sureOf_41 r (nI 1) (-nI 1) (nI k) = _
      unfold bX10_sureOf_41
      simp (disch := omega) only [a1, bd_some, gd_true, inR_nI, nI_clamp, nI_add, pk_mul, pk_sub, leT, leF, ltT, ltF, eqT, eqF, ite_true, ite_false, reduceIte, nz_nI, oc_s, oc_n, pk_div, pk_rem, m1F, L0, L1, L2, L3, L4, L5, L6, L7, L8, L9, L10, L11, L12, L19, L20, L24, L25, L27, L28, L30, L32, L37, L39, L40, L47, L48, L50, L55, L57, L60, L61, L63, L71, L80, L97, L99, L100, L120, L122, L128, L161, L17, L600, L1000000, L1024, L1408, isB0, isB1, subdm, inT, inFl, inFh]
    | succ d ih =>
      intro k hk1 hk
      have bk := a2 k (by omega)
      have ck := hf2 k (by omega)
      rw [iter_step (step := fun st : Int32 × Int32 => bX10_sureOf_41 r (nI 1) st.1 st.2) (s := (-nI 1, nI k)) (s' := (-nI 1, nI (k + 1))) (by
        show bX10_sureOf_41 r (nI 1) (-nI 1) (nI k) = _
        unfold bX10_sureOf_41 bX10_sureOf_76 bX10_sureOf_85
        simp (disch := omega) only [a1, bk, bd_some, gd_true, inR_nI, nI_clamp, nI_add, pk_mul, pk_sub, leT, leF, ltT, ltF, eqT, eqF, ite_true, ite_false, reduceIte, nz_nI, oc_s, oc_n, pk_div, pk_rem, m1F, L0, L1, L2, L3, L4, L5, L6, L7, L8, L9, L10, L11, L12, L19, L20, L24, L25, L27, L28, L30, L32, L37, L39, L40, L47, L48, L50, L55, L57, L60, L61, L63, L71, L80, L97, L99, L100, L120, L122, L128, L161, L17, L600, L1000000, L1024, L1408, isB0, isB1, subdm, inT, inFl, inFh])]
      exact ih (k + 1) (by omega) (by omega)
  have key : 0 < N → ∀ d k, 1 ≤ k → k + d = N → (∀ j, j < k → (f j) / 30 = (f 0) / 30) → (sukA N f → iter (fun st : Int32 × Int32 => bX10_sureOf_41 r (nI 1) st.1 st.2) (nI ((f 0) / 30), nI k) = some (nI ((f 0) / 30))) ∧ (¬ sukA N f → iter (fun st : Int32 × Int32 => bX10_sureOf_41 r (nI 1) st.1 st.2) (nI ((f 0) / 30), nI k) = some (-nI 1)) := by
    intro hN0 d
    have c0 := hf2 0 hN0
    induction d with
    | zero =>
      intro k hk1 hk hj
      refine ⟨fun _ => iter_end ?_, fun q => absurd (fun j hj2 => hj j (by omega)) q⟩
      show bX10_sureOf_41 r (nI 1) (nI ((f 0) / 30)) (nI k) = _
      unfold bX10_sureOf_41
      simp (disch := omega) only [a1, bd_some, gd_true, inR_nI, nI_clamp, nI_add, pk_mul, pk_sub, leT, leF, ltT, ltF, eqT, eqF, ite_true, ite_false, reduceIte, nz_nI, oc_s, oc_n, pk_div, pk_rem, m1F, L0, L1, L2, L3, L4, L5, L6, L7, L8, L9, L10, L11, L12, L19, L20, L24, L25, L27, L28, L30, L32, L37, L39, L40, L47, L48, L50, L55, L57, L60, L61, L63, L71, L80, L97, L99, L100, L120, L122, L128, L161, L17, L600, L1000000, L1024, L1408, isB0, isB1, subdm, inT, inFl, inFh]
    | succ d ih =>
      intro k hk1 hk hj
      have bk := a2 k (by omega)
      have ck := hf2 k (by omega)
      by_cases c : (f k) / 30 = (f 0) / 30
      · rw [iter_step (step := fun st : Int32 × Int32 => bX10_sureOf_41 r (nI 1) st.1 st.2) (s := (nI ((f 0) / 30), nI k)) (s' := (nI ((f 0) / 30), nI (k + 1))) (by
          show bX10_sureOf_41 r (nI 1) (nI ((f 0) / 30)) (nI k) = _
          unfold bX10_sureOf_41 bX10_sureOf_76 bX10_sureOf_85
          simp (disch := omega) only [a1, bk, bd_some, gd_true, inR_nI, nI_clamp, nI_add, pk_mul, pk_sub, leT, leF, ltT, ltF, eqT, eqF, ite_true, ite_false, reduceIte, nz_nI, oc_s, oc_n, pk_div, pk_rem, m1F, L0, L1, L2, L3, L4, L5, L6, L7, L8, L9, L10, L11, L12, L19, L20, L24, L25, L27, L28, L30, L32, L37, L39, L40, L47, L48, L50, L55, L57, L60, L61, L63, L71, L80, L97, L99, L100, L120, L122, L128, L161, L17, L600, L1000000, L1024, L1408, isB0, isB1, subdm, inT, inFl, inFh])]
        refine ih (k + 1) (by omega) (by omega) (fun j hj2 => ?_)
        by_cases e : j = k
        · rw [e]; exact c
        · exact hj j (by omega)
      · refine ⟨fun q => absurd (q k (by omega)) c, fun _ => ?_⟩
        rw [iter_step (step := fun st : Int32 × Int32 => bX10_sureOf_41 r (nI 1) st.1 st.2) (s := (nI ((f 0) / 30), nI k)) (s' := (-nI 1, nI (k + 1))) (by
          show bX10_sureOf_41 r (nI 1) (nI ((f 0) / 30)) (nI k) = _
          unfold bX10_sureOf_41 bX10_sureOf_76 bX10_sureOf_85
          simp (disch := omega) only [a1, bk, bd_some, gd_true, inR_nI, nI_clamp, nI_add, pk_mul, pk_sub, leT, leF, ltT, ltF, eqT, eqF, ite_true, ite_false, reduceIte, nz_nI, oc_s, oc_n, pk_div, pk_rem, m1F, L0, L1, L2, L3, L4, L5, L6, L7, L8, L9, L10, L11, L12, L19, L20, L24, L25, L27, L28, L30, L32, L37, L39, L40, L47, L48, L50, L55, L57, L60, L61, L63, L71, L80, L97, L99, L100, L120, L122, L128, L161, L17, L600, L1000000, L1024, L1408, isB0, isB1, subdm, inT, inFl, inFh])]
        exact bad d (k + 1) (by omega) (by omega)
  refine ⟨fun h0 => ?_, fun h0 hA => ?_, fun h0 hA => ?_⟩
  · have e : fX10_sureOf r (nI 1) = iter (fun st : Int32 × Int32 => bX10_sureOf_41 r (nI 1) st.1 st.2) (-nI 1, nI 1) := by
      unfold fX10_sureOf bX10_sureOf_38
      simp (disch := omega) only [a1, bd_some, gd_true, inR_nI, nI_clamp, nI_add, pk_mul, pk_sub, leT, leF, ltT, ltF, eqT, eqF, ite_true, ite_false, reduceIte, nz_nI, oc_s, oc_n, pk_div, pk_rem, m1F, L0, L1, L2, L3, L4, L5, L6, L7, L8, L9, L10, L11, L12, L19, L20, L24, L25, L27, L28, L30, L32, L37, L39, L40, L47, L48, L50, L55, L57, L60, L61, L63, L71, L80, L97, L99, L100, L120, L122, L128, L161, L17, L600, L1000000, L1024, L1408, isB0, isB1, subdm, inT, inFl, inFh]
    rw [e]
    refine iter_end (step := fun st : Int32 × Int32 => bX10_sureOf_41 r (nI 1) st.1 st.2) (s := (-nI 1, nI 1)) ?_
    show bX10_sureOf_41 r (nI 1) (-nI 1) (nI 1) = _
    unfold bX10_sureOf_41
    simp (disch := omega) only [a1, bd_some, gd_true, inR_nI, nI_clamp, nI_add, pk_mul, pk_sub, leT, leF, ltT, ltF, eqT, eqF, ite_true, ite_false, reduceIte, nz_nI, oc_s, oc_n, pk_div, pk_rem, m1F, L0, L1, L2, L3, L4, L5, L6, L7, L8, L9, L10, L11, L12, L19, L20, L24, L25, L27, L28, L30, L32, L37, L39, L40, L47, L48, L50, L55, L57, L60, L61, L63, L71, L80, L97, L99, L100, L120, L122, L128, L161, L17, L600, L1000000, L1024, L1408, isB0, isB1, subdm, inT, inFl, inFh]
  · have b0 := a2 0 h0
    have c0 := hf2 0 h0
    have b0' : ga r 42 (Int32.toNatClampNeg 0) = nI (f 0) := b0
    have e : fX10_sureOf r (nI 1) = iter (fun st : Int32 × Int32 => bX10_sureOf_41 r (nI 1) st.1 st.2) (nI ((f 0) / 30), nI 1) := by
      unfold fX10_sureOf bX10_sureOf_38
      simp (disch := omega) only [a1, b0, b0', bd_some, gd_true, inR_nI, nI_clamp, nI_add, pk_mul, pk_sub, leT, leF, ltT, ltF, eqT, eqF, ite_true, ite_false, reduceIte, nz_nI, oc_s, oc_n, pk_div, pk_rem, m1F, L0, L1, L2, L3, L4, L5, L6, L7, L8, L9, L10, L11, L12, L19, L20, L24, L25, L27, L28, L30, L32, L37, L39, L40, L47, L48, L50, L55, L57, L60, L61, L63, L71, L80, L97, L99, L100, L120, L122, L128, L161, L17, L600, L1000000, L1024, L1408, isB0, isB1, subdm, inT, inFl, inFh]
    rw [e]
    exact (key h0 (N - 1) 1 (by omega) (by omega) (fun j hj => by rw [show j = 0 by omega])).1 hA
  · have b0 := a2 0 h0
    have c0 := hf2 0 h0
    have b0' : ga r 42 (Int32.toNatClampNeg 0) = nI (f 0) := b0
    have e : fX10_sureOf r (nI 1) = iter (fun st : Int32 × Int32 => bX10_sureOf_41 r (nI 1) st.1 st.2) (nI ((f 0) / 30), nI 1) := by
      unfold fX10_sureOf bX10_sureOf_38
      simp (disch := omega) only [a1, b0, b0', bd_some, gd_true, inR_nI, nI_clamp, nI_add, pk_mul, pk_sub, leT, leF, ltT, ltF, eqT, eqF, ite_true, ite_false, reduceIte, nz_nI, oc_s, oc_n, pk_div, pk_rem, m1F, L0, L1, L2, L3, L4, L5, L6, L7, L8, L9, L10, L11, L12, L19, L20, L24, L25, L27, L28, L30, L32, L37, L39, L40, L47, L48, L50, L55, L57, L60, L61, L63, L71, L80, L97, L99, L100, L120, L122, L128, L161, L17, L600, L1000000, L1024, L1408, isB0, isB1, subdm, inT, inFl, inFh]
    rw [e]
    exact (key h0 (N - 1) 1 (by omega) (by omega) (fun j hj => by rw [show j = 0 by omega])).2 hA
theorem suk_both {g : Gs} {r : Rec} {N : Nat} {f : Nat → Nat} (hx : fiX g N f) (hm : fiM r N f) (hN : N ≤ 120) (hf2 : ∀ j, j < N → f j < 120) : ∃ y, fX1_sureKind g = some y ∧ fX10_sureOf r (nI 1) = some y := by
  obtain ⟨x1, x2, x3⟩ := sukX hx hN hf2
  obtain ⟨m1, m2, m3⟩ := sukM hm hN hf2
  by_cases h0 : N = 0
  · exact ⟨_, x1 h0, m1 h0⟩
  · by_cases hA : sukA N f
    · exact ⟨_, x2 (by omega) hA, m2 (by omega) hA⟩
    · exact ⟨_, x3 (by omega) hA, m3 (by omega) hA⟩

def suwA (N : Nat) (f : Nat → Nat) : Prop := ∀ j, j < N → (f j) % 30 + 1 = (f 0) % 30 + 1
theorem suwX {g : Gs} {N : Nat} {f : Nat → Nat} (hf : fiX g N f) (hN : N ≤ 120) (hf2 : ∀ j, j < N → f j < 120) : (N = 0 → fX1_sureWeight g = some (-nI 1)) ∧ (0 < N → suwA N f → fX1_sureWeight g = some (nI ((f 0) % 30 + 1))) ∧ (0 < N → ¬ suwA N f → fX1_sureWeight g = some (-nI 1)) := by
  obtain ⟨a1, a2⟩ := hf
  have key : 0 < N → ∀ d k, 1 ≤ k → k + d = N → (∀ j, j < k → (f j) % 30 + 1 = (f 0) % 30 + 1) → (suwA N f → iter (fun st : Int32 => bX1_sureWeight_2 g st) (nI k) = some (nI ((f 0) % 30 + 1))) ∧ (¬ suwA N f → iter (fun st : Int32 => bX1_sureWeight_2 g st) (nI k) = some (-nI 1)) := by
    intro hN0 d
    have b0 := a2 0 hN0
    have c0 := hf2 0 hN0
    have b0' : ga (g 101) 0 (Int32.toNatClampNeg 0) = nI (f 0) := b0
    induction d with
    | zero =>
      intro k hk1 hk hj
      refine ⟨fun _ => iter_out ?_, fun q => absurd (fun j hj2 => hj j (by omega)) q⟩
      show bX1_sureWeight_2 g (nI k) = out1 (some (nI ((f 0) % 30 + 1)))
      unfold bX1_sureWeight_2 bX1_sureWeight_39
      simp (disch := omega) only [a1, b0, b0', wei_nI, bd_some, gd_true, inR_nI, nI_clamp, nI_add, pk_mul, pk_sub, leT, leF, ltT, ltF, eqT, eqF, ite_true, ite_false, reduceIte, nz_nI, oc_s, oc_n, pk_div, pk_rem, m1F, L0, L1, L2, L3, L4, L5, L6, L7, L8, L9, L10, L11, L12, L19, L20, L24, L25, L27, L28, L30, L32, L37, L39, L40, L47, L48, L50, L55, L57, L60, L61, L63, L71, L80, L97, L99, L100, L120, L122, L128, L161, L17, L600, L1000000, L1024, L1408, isB0, isB1, subdm, inT, inFl, inFh]
    | succ d ih =>
      intro k hk1 hk hj
      have bk := a2 k (by omega)
      have ck := hf2 k (by omega)
      by_cases c : (f k) % 30 + 1 = (f 0) % 30 + 1
      · rw [iter_step (step := fun st : Int32 => bX1_sureWeight_2 g st) (s := nI k) (s' := nI (k + 1)) (by
          show bX1_sureWeight_2 g (nI k) = _
          unfold bX1_sureWeight_2
          simp (disch := omega) only [a1, b0, b0', bk, wei_nI, bd_some, gd_true, inR_nI, nI_clamp, nI_add, pk_mul, pk_sub, leT, leF, ltT, ltF, eqT, eqF, ite_true, ite_false, reduceIte, nz_nI, oc_s, oc_n, pk_div, pk_rem, m1F, L0, L1, L2, L3, L4, L5, L6, L7, L8, L9, L10, L11, L12, L19, L20, L24, L25, L27, L28, L30, L32, L37, L39, L40, L47, L48, L50, L55, L57, L60, L61, L63, L71, L80, L97, L99, L100, L120, L122, L128, L161, L17, L600, L1000000, L1024, L1408, isB0, isB1, subdm, inT, inFl, inFh])]
        refine ih (k + 1) (by omega) (by omega) (fun j hj2 => ?_)
        by_cases e : j = k
        · rw [e]; exact c
        · exact hj j (by omega)
      · refine ⟨fun q => absurd (q k (by omega)) c, fun _ => iter_end ?_⟩
        show bX1_sureWeight_2 g (nI k) = _
        unfold bX1_sureWeight_2
        simp (disch := omega) only [a1, b0, b0', bk, wei_nI, bd_some, gd_true, inR_nI, nI_clamp, nI_add, pk_mul, pk_sub, leT, leF, ltT, ltF, eqT, eqF, ite_true, ite_false, reduceIte, nz_nI, oc_s, oc_n, pk_div, pk_rem, m1F, L0, L1, L2, L3, L4, L5, L6, L7, L8, L9, L10, L11, L12, L19, L20, L24, L25, L27, L28, L30, L32, L37, L39, L40, L47, L48, L50, L55, L57, L60, L61, L63, L71, L80, L97, L99, L100, L120, L122, L128, L161, L17, L600, L1000000, L1024, L1408, isB0, isB1, subdm, inT, inFl, inFh]
  unfold fX1_sureWeight
  refine ⟨fun h0 => ?_, fun h0 hA => (key h0 (N - 1) 1 (by omega) (by omega) (fun j hj => by rw [show j = 0 by omega])).1 hA, fun h0 hA => (key h0 (N - 1) 1 (by omega) (by omega) (fun j hj => by rw [show j = 0 by omega])).2 hA⟩
  refine iter_out (step := fun st : Int32 => bX1_sureWeight_2 g st) (s := 1) ?_
  show bX1_sureWeight_2 g 1 = out1 (some (-nI 1))
  unfold bX1_sureWeight_2 bX1_sureWeight_39
  simp (disch := omega) only [a1, bd_some, gd_true, inR_nI, nI_clamp, nI_add, pk_mul, pk_sub, leT, leF, ltT, ltF, eqT, eqF, ite_true, ite_false, reduceIte, nz_nI, oc_s, oc_n, pk_div, pk_rem, m1F, L0, L1, L2, L3, L4, L5, L6, L7, L8, L9, L10, L11, L12, L19, L20, L24, L25, L27, L28, L30, L32, L37, L39, L40, L47, L48, L50, L55, L57, L60, L61, L63, L71, L80, L97, L99, L100, L120, L122, L128, L161, L17, L600, L1000000, L1024, L1408, isB0, isB1, subdm, inT, inFl, inFh]
theorem suwM {r : Rec} {N : Nat} {f : Nat → Nat} (hf : fiM r N f) (hN : N ≤ 120) (hf2 : ∀ j, j < N → f j < 120) : (N = 0 → fX10_sureOf r (nI 0) = some (-nI 1)) ∧ (0 < N → suwA N f → fX10_sureOf r (nI 0) = some (nI ((f 0) % 30 + 1))) ∧ (0 < N → ¬ suwA N f → fX10_sureOf r (nI 0) = some (-nI 1)) := by
  obtain ⟨a1, a2⟩ := hf
  have bad : ∀ d k, 1 ≤ k → k + d = N → iter (fun st : Int32 × Int32 => bX10_sureOf_41 r (nI 0) st.1 st.2) (-nI 1, nI k) = some (-nI 1) := by
    intro d
    induction d with
    | zero =>
      intro k hk1 hk
      refine iter_end (step := fun st : Int32 × Int32 => bX10_sureOf_41 r (nI 0) st.1 st.2) (s := (-nI 1, nI k)) ?_
      show bX10_sureOf_41 r (nI 0) (-nI 1) (nI k) = _
      unfold bX10_sureOf_41
      simp (disch := omega) only [a1, bd_some, gd_true, inR_nI, nI_clamp, nI_add, pk_mul, pk_sub, leT, leF, ltT, ltF, eqT, eqF, ite_true, ite_false, reduceIte, nz_nI, oc_s, oc_n, pk_div, pk_rem, m1F, L0, L1, L2, L3, L4, L5, L6, L7, L8, L9, L10, L11, L12, L19, L20, L24, L25, L27, L28, L30, L32, L37, L39, L40, L47, L48, L50, L55, L57, L60, L61, L63, L71, L80, L97, L99, L100, L120, L122, L128, L161, L17, L600, L1000000, L1024, L1408, isB0, isB1, subdm, inT, inFl, inFh]
    | succ d ih =>
      intro k hk1 hk
      have bk := a2 k (by omega)
      have ck := hf2 k (by omega)
      rw [iter_step (step := fun st : Int32 × Int32 => bX10_sureOf_41 r (nI 0) st.1 st.2) (s := (-nI 1, nI k)) (s' := (-nI 1, nI (k + 1))) (by
        show bX10_sureOf_41 r (nI 0) (-nI 1) (nI k) = _
        unfold bX10_sureOf_41 bX10_sureOf_76 bX10_sureOf_85
        simp (disch := omega) only [a1, bk, bd_some, gd_true, inR_nI, nI_clamp, nI_add, pk_mul, pk_sub, leT, leF, ltT, ltF, eqT, eqF, ite_true, ite_false, reduceIte, nz_nI, oc_s, oc_n, pk_div, pk_rem, m1F, L0, L1, L2, L3, L4, L5, L6, L7, L8, L9, L10, L11, L12, L19, L20, L24, L25, L27, L28, L30, L32, L37, L39, L40, L47, L48, L50, L55, L57, L60, L61, L63, L71, L80, L97, L99, L100, L120, L122, L128, L161, L17, L600, L1000000, L1024, L1408, isB0, isB1, subdm, inT, inFl, inFh])]
      exact ih (k + 1) (by omega) (by omega)
  have key : 0 < N → ∀ d k, 1 ≤ k → k + d = N → (∀ j, j < k → (f j) % 30 + 1 = (f 0) % 30 + 1) → (suwA N f → iter (fun st : Int32 × Int32 => bX10_sureOf_41 r (nI 0) st.1 st.2) (nI ((f 0) % 30 + 1), nI k) = some (nI ((f 0) % 30 + 1))) ∧ (¬ suwA N f → iter (fun st : Int32 × Int32 => bX10_sureOf_41 r (nI 0) st.1 st.2) (nI ((f 0) % 30 + 1), nI k) = some (-nI 1)) := by
    intro hN0 d
    have c0 := hf2 0 hN0
    induction d with
    | zero =>
      intro k hk1 hk hj
      refine ⟨fun _ => iter_end ?_, fun q => absurd (fun j hj2 => hj j (by omega)) q⟩
      show bX10_sureOf_41 r (nI 0) (nI ((f 0) % 30 + 1)) (nI k) = _
      unfold bX10_sureOf_41
      simp (disch := omega) only [a1, bd_some, gd_true, inR_nI, nI_clamp, nI_add, pk_mul, pk_sub, leT, leF, ltT, ltF, eqT, eqF, ite_true, ite_false, reduceIte, nz_nI, oc_s, oc_n, pk_div, pk_rem, m1F, L0, L1, L2, L3, L4, L5, L6, L7, L8, L9, L10, L11, L12, L19, L20, L24, L25, L27, L28, L30, L32, L37, L39, L40, L47, L48, L50, L55, L57, L60, L61, L63, L71, L80, L97, L99, L100, L120, L122, L128, L161, L17, L600, L1000000, L1024, L1408, isB0, isB1, subdm, inT, inFl, inFh]
    | succ d ih =>
      intro k hk1 hk hj
      have bk := a2 k (by omega)
      have ck := hf2 k (by omega)
      by_cases c : (f k) % 30 + 1 = (f 0) % 30 + 1
      · rw [iter_step (step := fun st : Int32 × Int32 => bX10_sureOf_41 r (nI 0) st.1 st.2) (s := (nI ((f 0) % 30 + 1), nI k)) (s' := (nI ((f 0) % 30 + 1), nI (k + 1))) (by
          show bX10_sureOf_41 r (nI 0) (nI ((f 0) % 30 + 1)) (nI k) = _
          unfold bX10_sureOf_41 bX10_sureOf_76 bX10_sureOf_85
          simp (disch := omega) only [a1, bk, bd_some, gd_true, inR_nI, nI_clamp, nI_add, pk_mul, pk_sub, leT, leF, ltT, ltF, eqT, eqF, ite_true, ite_false, reduceIte, nz_nI, oc_s, oc_n, pk_div, pk_rem, m1F, L0, L1, L2, L3, L4, L5, L6, L7, L8, L9, L10, L11, L12, L19, L20, L24, L25, L27, L28, L30, L32, L37, L39, L40, L47, L48, L50, L55, L57, L60, L61, L63, L71, L80, L97, L99, L100, L120, L122, L128, L161, L17, L600, L1000000, L1024, L1408, isB0, isB1, subdm, inT, inFl, inFh])]
        refine ih (k + 1) (by omega) (by omega) (fun j hj2 => ?_)
        by_cases e : j = k
        · rw [e]; exact c
        · exact hj j (by omega)
      · refine ⟨fun q => absurd (q k (by omega)) c, fun _ => ?_⟩
        rw [iter_step (step := fun st : Int32 × Int32 => bX10_sureOf_41 r (nI 0) st.1 st.2) (s := (nI ((f 0) % 30 + 1), nI k)) (s' := (-nI 1, nI (k + 1))) (by
          show bX10_sureOf_41 r (nI 0) (nI ((f 0) % 30 + 1)) (nI k) = _
          unfold bX10_sureOf_41 bX10_sureOf_76 bX10_sureOf_85
          simp (disch := omega) only [a1, bk, bd_some, gd_true, inR_nI, nI_clamp, nI_add, pk_mul, pk_sub, leT, leF, ltT, ltF, eqT, eqF, ite_true, ite_false, reduceIte, nz_nI, oc_s, oc_n, pk_div, pk_rem, m1F, L0, L1, L2, L3, L4, L5, L6, L7, L8, L9, L10, L11, L12, L19, L20, L24, L25, L27, L28, L30, L32, L37, L39, L40, L47, L48, L50, L55, L57, L60, L61, L63, L71, L80, L97, L99, L100, L120, L122, L128, L161, L17, L600, L1000000, L1024, L1408, isB0, isB1, subdm, inT, inFl, inFh])]
        exact bad d (k + 1) (by omega) (by omega)
  refine ⟨fun h0 => ?_, fun h0 hA => ?_, fun h0 hA => ?_⟩
  · have e : fX10_sureOf r (nI 0) = iter (fun st : Int32 × Int32 => bX10_sureOf_41 r (nI 0) st.1 st.2) (-nI 1, nI 1) := by
      unfold fX10_sureOf bX10_sureOf_38
      simp (disch := omega) only [a1, bd_some, gd_true, inR_nI, nI_clamp, nI_add, pk_mul, pk_sub, leT, leF, ltT, ltF, eqT, eqF, ite_true, ite_false, reduceIte, nz_nI, oc_s, oc_n, pk_div, pk_rem, m1F, L0, L1, L2, L3, L4, L5, L6, L7, L8, L9, L10, L11, L12, L19, L20, L24, L25, L27, L28, L30, L32, L37, L39, L40, L47, L48, L50, L55, L57, L60, L61, L63, L71, L80, L97, L99, L100, L120, L122, L128, L161, L17, L600, L1000000, L1024, L1408, isB0, isB1, subdm, inT, inFl, inFh]
    rw [e]
    refine iter_end (step := fun st : Int32 × Int32 => bX10_sureOf_41 r (nI 0) st.1 st.2) (s := (-nI 1, nI 1)) ?_
    show bX10_sureOf_41 r (nI 0) (-nI 1) (nI 1) = _
    unfold bX10_sureOf_41
    simp (disch := omega) only [a1, bd_some, gd_true, inR_nI, nI_clamp, nI_add, pk_mul, pk_sub, leT, leF, ltT, ltF, eqT, eqF, ite_true, ite_false, reduceIte, nz_nI, oc_s, oc_n, pk_div, pk_rem, m1F, L0, L1, L2, L3, L4, L5, L6, L7, L8, L9, L10, L11, L12, L19, L20, L24, L25, L27, L28, L30, L32, L37, L39, L40, L47, L48, L50, L55, L57, L60, L61, L63, L71, L80, L97, L99, L100, L120, L122, L128, L161, L17, L600, L1000000, L1024, L1408, isB0, isB1, subdm, inT, inFl, inFh]
  · have b0 := a2 0 h0
    have c0 := hf2 0 h0
    have b0' : ga r 42 (Int32.toNatClampNeg 0) = nI (f 0) := b0
    have e : fX10_sureOf r (nI 0) = iter (fun st : Int32 × Int32 => bX10_sureOf_41 r (nI 0) st.1 st.2) (nI ((f 0) % 30 + 1), nI 1) := by
      unfold fX10_sureOf bX10_sureOf_38
      simp (disch := omega) only [a1, b0, b0', bd_some, gd_true, inR_nI, nI_clamp, nI_add, pk_mul, pk_sub, leT, leF, ltT, ltF, eqT, eqF, ite_true, ite_false, reduceIte, nz_nI, oc_s, oc_n, pk_div, pk_rem, m1F, L0, L1, L2, L3, L4, L5, L6, L7, L8, L9, L10, L11, L12, L19, L20, L24, L25, L27, L28, L30, L32, L37, L39, L40, L47, L48, L50, L55, L57, L60, L61, L63, L71, L80, L97, L99, L100, L120, L122, L128, L161, L17, L600, L1000000, L1024, L1408, isB0, isB1, subdm, inT, inFl, inFh]
    rw [e]
    exact (key h0 (N - 1) 1 (by omega) (by omega) (fun j hj => by rw [show j = 0 by omega])).1 hA
  · have b0 := a2 0 h0
    have c0 := hf2 0 h0
    have b0' : ga r 42 (Int32.toNatClampNeg 0) = nI (f 0) := b0
    have e : fX10_sureOf r (nI 0) = iter (fun st : Int32 × Int32 => bX10_sureOf_41 r (nI 0) st.1 st.2) (nI ((f 0) % 30 + 1), nI 1) := by
      unfold fX10_sureOf bX10_sureOf_38
      simp (disch := omega) only [a1, b0, b0', bd_some, gd_true, inR_nI, nI_clamp, nI_add, pk_mul, pk_sub, leT, leF, ltT, ltF, eqT, eqF, ite_true, ite_false, reduceIte, nz_nI, oc_s, oc_n, pk_div, pk_rem, m1F, L0, L1, L2, L3, L4, L5, L6, L7, L8, L9, L10, L11, L12, L19, L20, L24, L25, L27, L28, L30, L32, L37, L39, L40, L47, L48, L50, L55, L57, L60, L61, L63, L71, L80, L97, L99, L100, L120, L122, L128, L161, L17, L600, L1000000, L1024, L1408, isB0, isB1, subdm, inT, inFl, inFh]
    rw [e]
    exact (key h0 (N - 1) 1 (by omega) (by omega) (fun j hj => by rw [show j = 0 by omega])).2 hA
theorem suw_both {g : Gs} {r : Rec} {N : Nat} {f : Nat → Nat} (hx : fiX g N f) (hm : fiM r N f) (hN : N ≤ 120) (hf2 : ∀ j, j < N → f j < 120) : ∃ y, fX1_sureWeight g = some y ∧ fX10_sureOf r (nI 0) = some y := by
  obtain ⟨x1, x2, x3⟩ := suwX hx hN hf2
  obtain ⟨m1, m2, m3⟩ := suwM hm hN hf2
  by_cases h0 : N = 0
  · exact ⟨_, x1 h0, m1 h0⟩
  · by_cases hA : suwA N f
    · exact ⟨_, x2 (by omega) hA, m2 (by omega) hA⟩
    · exact ⟨_, x3 (by omega) hA, m3 (by omega) hA⟩

/-! which secrets fit -/
def wcd (v : Hv) (s : Nat) : Nat := 30 * hKi v s + hWt v s - 1
def wiS (v : Hv) (f : Nat → Nat) (s k b : Nat) : Nat := b ||| if f k = wcd v s then 2 ^ s else 0
def whS (v : Hv) (f : Nat → Nat) (N s b : Nat) : Nat := fo (wiS v f s) b N
theorem wcd_lt {v : Hv} (ok : HvOK v) {s : Nat} (hs : s < hS v) : wcd v s < 120 := by
  have h := ok.2.2.2.2.2.2.1 s hs
  unfold wcd
  omega
theorem whichX_in {g : Gs} {u : Nat} {v : Hv} (ok : HvOK v) {N : Nat} {f : Nat → Nat} (hf : fiX g N f) (hN : N ≤ 120) (hf2 : ∀ j, j < N → f j < 120) {s b : Nat} (hs : s < hS v) : iter (fun st : Int32 × Int32 => bX1_fittingSecrets_35 g u st.1 (nI s) (nI (wcd v s)) st.2) (nI b, nI 0) = some (.inl (nI (whS v f N s b), nI (s + 1))) := by
  obtain ⟨a1, a2⟩ := hf
  have hw := wcd_lt ok hs
  have hS10 := ok.2.1
  refine loopO (step := fun st : Int32 × Int32 => bX1_fittingSecrets_35 g u st.1 (nI s) (nI (wcd v s)) st.2) (fun i => (nI (fo (wiS v f s) b i), nI i)) N (fun i hi => ?_) ?_
  · show bX1_fittingSecrets_35 g u (nI (fo (wiS v f s) b i)) (nI s) (nI (wcd v s)) (nI i) = some (.inl (nI (wiS v f s i (fo (wiS v f s) b i)), nI (i + 1)))
    generalize fo (wiS v f s) b i = a
    have bi := a2 i hi
    have ci := hf2 i hi
    unfold bX1_fittingSecrets_35 bX1_fittingSecrets_64 wiS
    by_cases c : f i = wcd v s
    · simp (disch := omega) only [a1, bi, if_pos c, L31, shl_T, or_nI, bd_some, gd_true, inR_nI, nI_clamp, nI_add, pk_mul, pk_sub, leT, leF, ltT, ltF, eqT, eqF, ite_true, ite_false, reduceIte, nz_nI, oc_s, oc_n, pk_div, pk_rem, m1F, L0, L1, L2, L3, L4, L5, L6, L7, L8, L9, L10, L11, L12, L19, L20, L24, L25, L27, L28, L30, L32, L37, L39, L40, L47, L48, L50, L55, L57, L60, L61, L63, L71, L80, L97, L99, L100, L120, L122, L128, L161, L17, L600, L1000000, L1024, L1408, isB0, isB1, subdm, inT, inFl, inFh]
    · simp (disch := omega) only [a1, bi, if_neg c, or_nI, bd_some, gd_true, inR_nI, nI_clamp, nI_add, pk_mul, pk_sub, leT, leF, ltT, ltF, eqT, eqF, ite_true, ite_false, reduceIte, nz_nI, oc_s, oc_n, pk_div, pk_rem, m1F, L0, L1, L2, L3, L4, L5, L6, L7, L8, L9, L10, L11, L12, L19, L20, L24, L25, L27, L28, L30, L32, L37, L39, L40, L47, L48, L50, L55, L57, L60, L61, L63, L71, L80, L97, L99, L100, L120, L122, L128, L161, L17, L600, L1000000, L1024, L1408, isB0, isB1, subdm, inT, inFl, inFh]
  · show bX1_fittingSecrets_35 g u (nI (fo (wiS v f s) b N)) (nI s) (nI (wcd v s)) (nI N) = _
    unfold bX1_fittingSecrets_35 bX1_fittingSecrets_72
    simp (disch := omega) only [a1, bd_some, gd_true, inR_nI, nI_clamp, nI_add, pk_mul, pk_sub, leT, leF, ltT, ltF, eqT, eqF, ite_true, ite_false, reduceIte, nz_nI, oc_s, oc_n, pk_div, pk_rem, m1F, L0, L1, L2, L3, L4, L5, L6, L7, L8, L9, L10, L11, L12, L19, L20, L24, L25, L27, L28, L30, L32, L37, L39, L40, L47, L48, L50, L55, L57, L60, L61, L63, L71, L80, L97, L99, L100, L120, L122, L128, L161, L17, L600, L1000000, L1024, L1408, isB0, isB1, subdm, inT, inFl, inFh]
    all_goals rfl
theorem whichX {g : Gs} {u : Nat} {v : Hv} (ok : HvOK v) (hx : HX (g u) v) {N : Nat} {f : Nat → Nat} (hf : fiX g N f) (hN : N ≤ 120) (hf2 : ∀ j, j < N → f j < 120) : fX1_fittingSecrets g u = some (nI (fo (whS v f N) 0 (hS v))) := by
  have hS10 := ok.2.1
  unfold fX1_fittingSecrets
  refine loopO (step := fun st : Int32 × Int32 => bX1_fittingSecrets_4 g u st.1 st.2) (fun i => (nI (fo (whS v f N) 0 i), nI i)) (hS v) (fun i hi => ?_) ?_
  · show bX1_fittingSecrets_4 g u (nI (fo (whS v f N) 0 i)) (nI i) = some (.inl (nI (whS v f N i (fo (whS v f N) 0 i)), nI (i + 1)))
    have h := ok.2.2.2.2.2.2.1 i hi
    have hin := whichX_in (u := u) ok hf hN hf2 (b := fo (whS v f N) 0 i) hi
    unfold wcd at hin
    unfold bX1_fittingSecrets_4
    simp (disch := omega) only [hx.S, hx.ki, hx.wt, bd_some, gd_true, inR_nI, nI_clamp, nI_add, pk_mul, pk_sub, leT, leF, ltT, ltF, eqT, eqF, ite_true, ite_false, reduceIte, nz_nI, oc_s, oc_n, pk_div, pk_rem, m1F, L0, L1, L2, L3, L4, L5, L6, L7, L8, L9, L10, L11, L12, L19, L20, L24, L25, L27, L28, L30, L32, L37, L39, L40, L47, L48, L50, L55, L57, L60, L61, L63, L71, L80, L97, L99, L100, L120, L122, L128, L161, L17, L600, L1000000, L1024, L1408, isB0, isB1, subdm, inT, inFl, inFh]
    exact hin
  · show bX1_fittingSecrets_4 g u (nI (fo (whS v f N) 0 (hS v))) (nI (hS v)) = _
    unfold bX1_fittingSecrets_4
    simp (disch := omega) only [hx.S, bd_some, gd_true, inR_nI, nI_clamp, nI_add, pk_mul, pk_sub, leT, leF, ltT, ltF, eqT, eqF, ite_true, ite_false, reduceIte, nz_nI, oc_s, oc_n, pk_div, pk_rem, m1F, L0, L1, L2, L3, L4, L5, L6, L7, L8, L9, L10, L11, L12, L19, L20, L24, L25, L27, L28, L30, L32, L37, L39, L40, L47, L48, L50, L55, L57, L60, L61, L63, L71, L80, L97, L99, L100, L120, L122, L128, L161, L17, L600, L1000000, L1024, L1408, isB0, isB1, subdm, inT, inFl, inFh]
    all_goals rfl
theorem whichM_in {r : Rec} {n : Nat} {v : Hv} (ok : HvOK v) (hd : Hd r n v) {N : Nat} {f : Nat → Nat} (hf : fiM r N f) (hN : N ≤ 120) (hf2 : ∀ j, j < N → f j < 120) {s b : Nat} (hs : s < hS v) : iter (fun st : Int32 × Int32 => bX10_which_14 r st.1 (nI s) st.2) (nI b, nI 0) = some (.inl (nI (whS v f N s b), nI (s + 1))) := by
  obtain ⟨a1, a2⟩ := hf
  have hw := wcd_lt ok hs
  have hS10 := ok.2.1
  have h := ok.2.2.2.2.2.2.1 s hs
  have hki := hd.ki ok hs
  have hwt := hd.wt ok hs
  have ew : 30 * hKi v s + hWt v s - 1 = wcd v s := rfl
  refine loopO (step := fun st : Int32 × Int32 => bX10_which_14 r st.1 (nI s) st.2) (fun i => (nI (fo (wiS v f s) b i), nI i)) N (fun i hi => ?_) ?_
  · show bX10_which_14 r (nI (fo (wiS v f s) b i)) (nI s) (nI i) = some (.inl (nI (wiS v f s i (fo (wiS v f s) b i)), nI (i + 1)))
    generalize fo (wiS v f s) b i = a
    have bi := a2 i hi
    have ci := hf2 i hi
    unfold bX10_which_14 bX10_which_61 wiS
    by_cases c : f i = wcd v s
    · simp (disch := omega) only [a1, bi, if_pos c, hki, hwt, ew, L31, shl_T, or_nI, bd_some, gd_true, inR_nI, nI_clamp, nI_add, pk_mul, pk_sub, leT, leF, ltT, ltF, eqT, eqF, ite_true, ite_false, reduceIte, nz_nI, oc_s, oc_n, pk_div, pk_rem, m1F, L0, L1, L2, L3, L4, L5, L6, L7, L8, L9, L10, L11, L12, L19, L20, L24, L25, L27, L28, L30, L32, L37, L39, L40, L47, L48, L50, L55, L57, L60, L61, L63, L71, L80, L97, L99, L100, L120, L122, L128, L161, L17, L600, L1000000, L1024, L1408, isB0, isB1, subdm, inT, inFl, inFh]
    · simp (disch := omega) only [a1, bi, if_neg c, hki, hwt, ew, or_nI, bd_some, gd_true, inR_nI, nI_clamp, nI_add, pk_mul, pk_sub, leT, leF, ltT, ltF, eqT, eqF, ite_true, ite_false, reduceIte, nz_nI, oc_s, oc_n, pk_div, pk_rem, m1F, L0, L1, L2, L3, L4, L5, L6, L7, L8, L9, L10, L11, L12, L19, L20, L24, L25, L27, L28, L30, L32, L37, L39, L40, L47, L48, L50, L55, L57, L60, L61, L63, L71, L80, L97, L99, L100, L120, L122, L128, L161, L17, L600, L1000000, L1024, L1408, isB0, isB1, subdm, inT, inFl, inFh]
  · show bX10_which_14 r (nI (fo (wiS v f s) b N)) (nI s) (nI N) = _
    unfold bX10_which_14 bX10_which_69
    simp (disch := omega) only [a1, bd_some, gd_true, inR_nI, nI_clamp, nI_add, pk_mul, pk_sub, leT, leF, ltT, ltF, eqT, eqF, ite_true, ite_false, reduceIte, nz_nI, oc_s, oc_n, pk_div, pk_rem, m1F, L0, L1, L2, L3, L4, L5, L6, L7, L8, L9, L10, L11, L12, L19, L20, L24, L25, L27, L28, L30, L32, L37, L39, L40, L47, L48, L50, L55, L57, L60, L61, L63, L71, L80, L97, L99, L100, L120, L122, L128, L161, L17, L600, L1000000, L1024, L1408, isB0, isB1, subdm, inT, inFl, inFh]
    all_goals rfl
theorem whichM {r : Rec} {n : Nat} {v : Hv} (ok : HvOK v) (hd : Hd r n v) {N : Nat} {f : Nat → Nat} (hf : fiM r N f) (hN : N ≤ 120) (hf2 : ∀ j, j < N → f j < 120) : fX10_which r = some (nI (fo (whS v f N) 0 (hS v))) := by
  have hS10 := ok.2.1
  unfold fX10_which
  refine loopO (step := fun st : Int32 × Int32 => bX10_which_4 r st.1 st.2) (fun i => (nI (fo (whS v f N) 0 i), nI i)) (hS v) (fun i hi => ?_) ?_
  · show bX10_which_4 r (nI (fo (whS v f N) 0 i)) (nI i) = some (.inl (nI (whS v f N i (fo (whS v f N) 0 i)), nI (i + 1)))
    have hin := whichM_in ok hd hf hN hf2 (b := fo (whS v f N) 0 i) hi
    unfold bX10_which_4
    simp (disch := omega) only [hd.S, bd_some, gd_true, inR_nI, nI_clamp, nI_add, pk_mul, pk_sub, leT, leF, ltT, ltF, eqT, eqF, ite_true, ite_false, reduceIte, nz_nI, oc_s, oc_n, pk_div, pk_rem, m1F, L0, L1, L2, L3, L4, L5, L6, L7, L8, L9, L10, L11, L12, L19, L20, L24, L25, L27, L28, L30, L32, L37, L39, L40, L47, L48, L50, L55, L57, L60, L61, L63, L71, L80, L97, L99, L100, L120, L122, L128, L161, L17, L600, L1000000, L1024, L1408, isB0, isB1, subdm, inT, inFl, inFh]
    exact hin
  · show bX10_which_4 r (nI (fo (whS v f N) 0 (hS v))) (nI (hS v)) = _
    unfold bX10_which_4
    simp (disch := omega) only [hd.S, bd_some, gd_true, inR_nI, nI_clamp, nI_add, pk_mul, pk_sub, leT, leF, ltT, ltF, eqT, eqF, ite_true, ite_false, reduceIte, nz_nI, oc_s, oc_n, pk_div, pk_rem, m1F, L0, L1, L2, L3, L4, L5, L6, L7, L8, L9, L10, L11, L12, L19, L20, L24, L25, L27, L28, L30, L32, L37, L39, L40, L47, L48, L50, L55, L57, L60, L61, L63, L71, L80, L97, L99, L100, L120, L122, L128, L161, L17, L600, L1000000, L1024, L1408, isB0, isB1, subdm, inT, inFl, inFh]
    all_goals rfl
