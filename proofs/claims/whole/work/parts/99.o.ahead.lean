theorem least_ex {P : Nat → Prop} (h : ∃ s, P s) : ∃ s, P s ∧ ∀ t, t < s → ¬ P t := by
  apply Classical.byContradiction
  intro q
  have key : ∀ s, ¬ P s := by
    intro s
    induction s using Nat.strongRecOn with
    | ind s ih => exact fun hp => q ⟨s, hp, ih⟩
  obtain ⟨s, hs⟩ := h
  exact key s hs
def rst (v : Hv) (w : Rv) (A s due : Nat) : Nat := rsN (rcn v w) w.1 (hS v) (andn A (2 ^ s)) (due - 1) (2 ^ hS v)
def Gd (v : Hv) (w : Rv) (A k due s : Nat) : Prop := A.testBit s = true ∧ k < rcn v w s k ∧ rst v w A s due ≤ rcn v w s k
theorem due_pos {R : Nat → Nat → Nat} {n k A due : Nat} (hk : k < n) (h : TV R n k A due) : 1 ≤ due := by
  rcases h with ⟨e, -⟩ | ⟨⟨l, -, a2, a3⟩, -⟩
  · omega
  · cases l with
    | nil =>
      have a2 : k = n := a2
      omega
    | cons s l =>
      have a3 : l.length + 1 = due := a3
      omega
theorem step_x {v : Hv} {w : Rv} (ok : HvOK v) (dw : DvOK w) {A k due s t x : Nat} (hA : A < 2 ^ hS v) (hk : k < w.1) (hT : TV (rcn v w) w.1 k A due) (hd : due < 1000000) (hs : A.testBit s = true) (h1 : k ≤ t) (h2 : t < rcn v w s k) (hx : TV (rcn v w) w.1 (t + 1) (andn A (2 ^ s)) x) : 1 + x = due ↔ rst v w A s due ≤ t + 1 := by
  have hR := rc_ok (v := v) dw
  have hb := hR.1 s k (by omega)
  have hdp := due_pos hk hT
  have hri := rsN_iff (S := hS v) (left := andn A (2 ^ s)) (many := due - 1) (j := t + 1) hR ok.2.1 (andn_lt hA) (by omega)
  have low : ∀ l, Avl (andn A (2 ^ s)) l → run (rcn v w) l (t + 1) = w.1 → due ≤ 1 + l.length := by
    intro l q1 q2
    rcases hT with ⟨e, -⟩ | ⟨-, z⟩
    · omega
    · have b2 := run_mono hR l (t + 1) (rcn v w s k) (by omega) hb.2
      have b3 := run_b hR l (rcn v w s k) hb.2
      have := z (s :: l) (Avl_cons.mpr ⟨hs, q1⟩) (by show run (rcn v w) l (rcn v w s k) = w.1; omega)
      have e : (s :: l).length = l.length + 1 := rfl
      omega
  unfold rst
  rw [hri]
  constructor
  · intro e
    rcases hx with ⟨z, -⟩ | ⟨⟨l, q1, q2, q3⟩, -⟩
    · omega
    · exact ⟨l, q1, by omega, q2⟩
  · rintro ⟨l, q1, q2, q3⟩
    have h3 := low l q1 q3
    rcases hx with ⟨-, z⟩ | ⟨⟨l', p1, p2, p3⟩, z⟩
    · exact absurd q3 (z l q1)
    · have h4 := z l q1 q3
      have h5 := low l' p1 p2
      omega
theorem gd_ex {v : Hv} {w : Rv} (ok : HvOK v) (dw : DvOK w) {A k due : Nat} (hA : A < 2 ^ hS v) (hk : k < w.1) (hT : TV (rcn v w) w.1 k A due) (hd : due < 1000000) : ∃ s, Gd v w A k due s := by
  have hR := rc_ok (v := v) dw
  rcases hT with ⟨e, -⟩ | ⟨⟨l, a1, a2, a3⟩, -⟩
  · omega
  · obtain ⟨s, l', q1, q2, q3, q4, q5⟩ := useful hR hk a1 (by omega)
    have hb := hR.1 s k (by omega)
    refine ⟨s, q1, q2, ?_⟩
    exact (rsN_iff (S := hS v) hR ok.2.1 (andn_lt hA) hb.2).mpr ⟨l', q3, by omega, by rw [← q4]; exact a2⟩
/-! the class -/
theorem aheadX_in {g : Gs} {u d : Nat} {v : Hv} {w : Rv} (ok : HvOK v) (hx : HX (g u) v) (dw : DvOK w) (dx : DX (g d) w) (hr : RX g v w) (hsx : SX g (gEr (rcn v w) w.1 (hS v)) (2 ^ hS v)) {A k due s : Nat} (hA : A < 2 ^ hS v) (hk : k < w.1) (hd1 : 1 ≤ due) (hd2 : due ≤ 10) (hs : Gd v w A k due s) (hl : ∀ t, t < s → ¬ Gd v w A k due t) (x4 : Int32) : iter (fun st : Int32 => bX6_toldAhead_29 g u d x4 (nI A) (nI k) (nI (due - 1)) st) (nI 0) = bX6_toldAhead_117 g u d x4 (nI A) (nI k) (nI (due - 1)) (nI s) (nI (rst v w A s due)) := by
  have hS10 := ok.2.1
  have hpS := pS ok
  have h8 := dw.1
  have hsz := dx.2.1
  have hR := rc_ok (v := v) dw
  have hsS := bit_lt hA hs.1
  have hset := secretSets_nI ok hx
  refine loopO (step := fun st : Int32 => bX6_toldAhead_29 g u d x4 (nI A) (nI k) (nI (due - 1)) st) (fun i => nI i) s (fun i hi => ?_) ?_
  · show bX6_toldAhead_29 g u d x4 (nI A) (nI k) (nI (due - 1)) (nI i) = some (.inl (nI (i + 1)))
    have hb := hR.1 i k (by omega)
    have hre := hr i k (by omega) hk
    unfold bX6_toldAhead_29 bX6_toldAhead_152
    cases c : A.testBit i
    · simp (disch := omega) only [hx.S, hsz, hasBit_nI, c, Bool.false_eq_true, bd_some, gd_true, inR_nI, nI_clamp, nI_add, pk_mul, pk_sub, leT, leF, ltT, ltF, eqT, eqF, ite_true, ite_false, reduceIte, nz_nI, oc_s, oc_n, pk_div, pk_rem, m1F, L0, L1, L2, L3, L4, L5, L6, L7, L8, L9, L10, L11, L12, L19, L20, L24, L25, L27, L28, L30, L32, L37, L39, L40, L47, L48, L50, L55, L57, L60, L61, L63, L71, L80, L97, L99, L100, L120, L122, L128, L161, L17, L600, L1000000, L1024, L1408, isB0, isB1, subdm, inT, inFl, inFh]
    · by_cases c2 : rcn v w i k = k
      · rw [c2] at hre
        simp (disch := omega) only [hx.S, hsz, hasBit_nI, c, hre, bd_some, gd_true, inR_nI, nI_clamp, nI_add, pk_mul, pk_sub, leT, leF, ltT, ltF, eqT, eqF, ite_true, ite_false, reduceIte, nz_nI, oc_s, oc_n, pk_div, pk_rem, m1F, L0, L1, L2, L3, L4, L5, L6, L7, L8, L9, L10, L11, L12, L19, L20, L24, L25, L27, L28, L30, L32, L37, L39, L40, L47, L48, L50, L55, L57, L60, L61, L63, L71, L80, L97, L99, L100, L120, L122, L128, L161, L17, L600, L1000000, L1024, L1408, isB0, isB1, subdm, inT, inFl, inFh]
      · have hrs := restX ok dw hsx (left := andn A (2 ^ i)) (many := due - 1) (andn_lt hA) (by omega)
        have hle : rsN (rcn v w) w.1 (hS v) (andn A (2 ^ i)) (due - 1) (2 ^ hS v) ≤ w.1 := rsN_le
        have hlt : rcn v w i k < rsN (rcn v w) w.1 (hS v) (andn A (2 ^ i)) (due - 1) (2 ^ hS v) := by
          apply Classical.byContradiction
          intro q
          exact hl i hi ⟨c, by omega, by unfold rst; omega⟩
        simp (disch := omega) only [hx.S, hsz, hasBit_nI, c, hre, hset, L31, shl_T, andn_nI, hrs, bd_some, gd_true, inR_nI, nI_clamp, nI_add, pk_mul, pk_sub, leT, leF, ltT, ltF, eqT, eqF, ite_true, ite_false, reduceIte, nz_nI, oc_s, oc_n, pk_div, pk_rem, m1F, L0, L1, L2, L3, L4, L5, L6, L7, L8, L9, L10, L11, L12, L19, L20, L24, L25, L27, L28, L30, L32, L37, L39, L40, L47, L48, L50, L55, L57, L60, L61, L63, L71, L80, L97, L99, L100, L120, L122, L128, L161, L17, L600, L1000000, L1024, L1408, isB0, isB1, subdm, inT, inFl, inFh]
  · show bX6_toldAhead_29 g u d x4 (nI A) (nI k) (nI (due - 1)) (nI s) = _
    obtain ⟨g1, g2, g3⟩ := hs
    have hb := hR.1 s k (by omega)
    have hre := hr s k hsS hk
    have hrs := restX ok dw hsx (left := andn A (2 ^ s)) (many := due - 1) (andn_lt hA) (by omega)
    have hle : rst v w A s due ≤ w.1 := rsN_le
    have er : rsN (rcn v w) w.1 (hS v) (andn A (2 ^ s)) (due - 1) (2 ^ hS v) = rst v w A s due := rfl
    rw [er] at hrs
    unfold bX6_toldAhead_29
    simp (disch := omega) only [hx.S, hsz, hasBit_nI, g1, hre, hset, L31, shl_T, andn_nI, hrs, bd_some, gd_true, inR_nI, nI_clamp, nI_add, pk_mul, pk_sub, leT, leF, ltT, ltF, eqT, eqF, ite_true, ite_false, reduceIte, nz_nI, oc_s, oc_n, pk_div, pk_rem, m1F, L0, L1, L2, L3, L4, L5, L6, L7, L8, L9, L10, L11, L12, L19, L20, L24, L25, L27, L28, L30, L32, L37, L39, L40, L47, L48, L50, L55, L57, L60, L61, L63, L71, L80, L97, L99, L100, L120, L122, L128, L161, L17, L600, L1000000, L1024, L1408, isB0, isB1, subdm, inT, inFl, inFh]
/-! the reference -/
theorem tab_x {r : Rec} {v : Hv} {w : Rv} {t U : Nat} (h : TbE r v w t U) : ∃ x, ga r 36 (1024 * t + U) = nI x ∧ TV (rcn v w) w.1 t (lf v U) x ∧ x ≤ 1000000 := by
  obtain ⟨x, y, x1, x2, x3, -⟩ := h
  exact ⟨x, x1, x2, x3⟩
theorem ah53_no {r : Rec} {n m : Nat} {v : Hv} {w : Rv} (ok : HvOK v) (hd : Hd r n v) (ht : Td r m w) (dw : DvOK w) (ha : dnA v w) (htab : ∀ t U', t ≤ w.1 → U' < 2 ^ hS v → TbE r v w t U') {U k due s : Nat} (hU : U < 2 ^ hS v) (hk : k < w.1) (hT : TV (rcn v w) w.1 k (lf v U) due) (hdu : due ≤ 10) (hs : s < hS v) (hn : ¬ Gd v w (lf v U) k due s) (x1 : Int32) : iter (fun st : Int32 × Int32 × Int32 => bX10_toldAhead_53 r x1 (nI U) (nI k) st.1 (nI due) st.2.1 (nI s) st.2.2) (-nI 1, -nI 1, nI k) = some (.inl (-nI 1, -nI 1, nI (s + 1))) := by
  have h8 := dw.1
  have hS10 := ok.2.1
  have hpS := pS ok
  have hR := rc_ok (v := v) dw
  have hb := hR.1 s k (by omega)
  by_cases c : U.testBit s = true
  · refine iter_end (step := fun st : Int32 × Int32 × Int32 => bX10_toldAhead_53 r x1 (nI U) (nI k) st.1 (nI due) st.2.1 (nI s) st.2.2) (s := (-nI 1, -nI 1, nI k)) ?_
    show bX10_toldAhead_53 r x1 (nI U) (nI k) (-nI 1) (nI due) (-nI 1) (nI s) (nI k) = _
    unfold bX10_toldAhead_53 bX10_toldAhead_157
    simp (disch := omega) only [ht.n, has_nI, c, bd_some, gd_true, inR_nI, nI_clamp, nI_add, pk_mul, pk_sub, leT, leF, ltT, ltF, eqT, eqF, ite_true, ite_false, reduceIte, nz_nI, oc_s, oc_n, pk_div, pk_rem, m1F, L0, L1, L2, L3, L4, L5, L6, L7, L8, L9, L10, L11, L12, L19, L20, L24, L25, L27, L28, L30, L32, L37, L39, L40, L47, L48, L50, L55, L57, L60, L61, L63, L71, L80, L97, L99, L100, L120, L122, L128, L161, L17, L600, L1000000, L1024, L1408, isB0, isB1, subdm, inT, inFl, inFh]
    all_goals rfl
  · have hus : U.testBit s = false := by
      cases d : U.testBit s
      · rfl
      · exact absurd d c
    have hbit := lf_T (v := v) hs hus
    have hor := or_lt2 hU hs
    have key : ∀ q t, k ≤ t → t + q = rcn v w s k → iter (fun st : Int32 × Int32 × Int32 => bX10_toldAhead_53 r x1 (nI U) (nI k) st.1 (nI due) st.2.1 (nI s) st.2.2) (-nI 1, -nI 1, nI t) = some (.inl (-nI 1, -nI 1, nI (s + 1))) := by
      intro q
      induction q with
      | zero =>
        intro t h1 h2
        refine iter_end (step := fun st : Int32 × Int32 × Int32 => bX10_toldAhead_53 r x1 (nI U) (nI k) st.1 (nI due) st.2.1 (nI s) st.2.2) (s := (-nI 1, -nI 1, nI t)) ?_
        show bX10_toldAhead_53 r x1 (nI U) (nI k) (-nI 1) (nI due) (-nI 1) (nI s) (nI t) = _
        unfold bX10_toldAhead_53 bX10_toldAhead_157
        by_cases e : w.1 ≤ t
        · simp (disch := omega) only [ht.n, bd_some, gd_true, inR_nI, nI_clamp, nI_add, pk_mul, pk_sub, leT, leF, ltT, ltF, eqT, eqF, ite_true, ite_false, reduceIte, nz_nI, oc_s, oc_n, pk_div, pk_rem, m1F, L0, L1, L2, L3, L4, L5, L6, L7, L8, L9, L10, L11, L12, L19, L20, L24, L25, L27, L28, L30, L32, L37, L39, L40, L47, L48, L50, L55, L57, L60, L61, L63, L71, L80, L97, L99, L100, L120, L122, L128, L161, L17, L600, L1000000, L1024, L1408, isB0, isB1, subdm, inT, inFl, inFh]
          all_goals rfl
        · have hsv := (serves_nI ok hd ht dw ha hs h1 (show t < w.1 by omega)).2 (by omega)
          simp (disch := omega) only [ht.n, has_nI, hus, Bool.false_eq_true, hsv, bd_some, gd_true, inR_nI, nI_clamp, nI_add, pk_mul, pk_sub, leT, leF, ltT, ltF, eqT, eqF, ite_true, ite_false, reduceIte, nz_nI, oc_s, oc_n, pk_div, pk_rem, m1F, L0, L1, L2, L3, L4, L5, L6, L7, L8, L9, L10, L11, L12, L19, L20, L24, L25, L27, L28, L30, L32, L37, L39, L40, L47, L48, L50, L55, L57, L60, L61, L63, L71, L80, L97, L99, L100, L120, L122, L128, L161, L17, L600, L1000000, L1024, L1408, isB0, isB1, subdm, inT, inFl, inFh]
          all_goals rfl
      | succ q ih =>
        intro t h1 h2
        have hsv := (serves_nI ok hd ht dw ha hs h1 (show t < w.1 by omega)).1 (by omega)
        obtain ⟨x, a1, a2, a3⟩ := tab_x (htab (t + 1) (U ||| 2 ^ s) (by omega) hor)
        have hne : ¬ 1 + x = due := fun e => by
          have := (step_x ok dw (lf_lt v U) hk hT (by omega) hbit h1 (by omega) (by rw [lf_or]; exact a2)).mp e
          exact hn ⟨hbit, by omega, by omega⟩
        rw [iter_step (step := fun st : Int32 × Int32 × Int32 => bX10_toldAhead_53 r x1 (nI U) (nI k) st.1 (nI due) st.2.1 (nI s) st.2.2) (s := (-nI 1, -nI 1, nI t)) (s' := (-nI 1, -nI 1, nI (t + 1))) (by
          show bX10_toldAhead_53 r x1 (nI U) (nI k) (-nI 1) (nI due) (-nI 1) (nI s) (nI t) = _
          unfold bX10_toldAhead_53 bX10_toldAhead_121 bX10_toldAhead_135 bX10_toldAhead_149
          simp (disch := omega) only [ht.n, has_nI, hus, Bool.false_eq_true, hsv, L31, shl_T, or_nI, a1, bd_some, gd_true, inR_nI, nI_clamp, nI_add, pk_mul, pk_sub, leT, leF, ltT, ltF, eqT, eqF, ite_true, ite_false, reduceIte, nz_nI, oc_s, oc_n, pk_div, pk_rem, m1F, L0, L1, L2, L3, L4, L5, L6, L7, L8, L9, L10, L11, L12, L19, L20, L24, L25, L27, L28, L30, L32, L37, L39, L40, L47, L48, L50, L55, L57, L60, L61, L63, L71, L80, L97, L99, L100, L120, L122, L128, L161, L17, L600, L1000000, L1024, L1408, isB0, isB1, subdm, inT, inFl, inFh])]
        exact ih (t + 1) (by omega) (by omega)
    exact key (rcn v w s k - k) k (Nat.le_refl k) (by omega)
theorem ah53_yes {r : Rec} {n m : Nat} {v : Hv} {w : Rv} (ok : HvOK v) (hd : Hd r n v) (ht : Td r m w) (dw : DvOK w) (ha : dnA v w) (htab : ∀ t U', t ≤ w.1 → U' < 2 ^ hS v → TbE r v w t U') {U k due s : Nat} (hU : U < 2 ^ hS v) (hk : k < w.1) (hT : TV (rcn v w) w.1 k (lf v U) due) (hdu : due ≤ 10) (hs : s < hS v) (hn : Gd v w (lf v U) k due s) (x1 : Int32) : iter (fun st : Int32 × Int32 × Int32 => bX10_toldAhead_53 r x1 (nI U) (nI k) st.1 (nI due) st.2.1 (nI s) st.2.2) (-nI 1, -nI 1, nI k) = some (.inl (nI s, nI (max (k + 1) (rst v w (lf v U) s due) - 1), nI (s + 1))) := by
  have h8 := dw.1
  have hS10 := ok.2.1
  have hpS := pS ok
  have hR := rc_ok (v := v) dw
  have hb := hR.1 s k (by omega)
  obtain ⟨hbit, g2, g3⟩ := hn
  have hus : U.testBit s = false := by
    cases d : U.testBit s
    · rfl
    · rw [lf_F d] at hbit; cases hbit
  have hor := or_lt2 hU hs
  obtain ⟨T, hTd⟩ : ∃ T, T = max (k + 1) (rst v w (lf v U) s due) - 1 := ⟨_, rfl⟩
  rw [← hTd]
  have hst : ∀ t, k ≤ t → t < rcn v w s k → ∃ x, ga r 36 (1024 * (t + 1) + (U ||| 2 ^ s)) = nI x ∧ x ≤ 1000000 ∧ (1 + x = due ↔ rst v w (lf v U) s due ≤ t + 1) := by
    intro t h1 h2
    obtain ⟨x, a1, a2, a3⟩ := tab_x (htab (t + 1) (U ||| 2 ^ s) (by omega) hor)
    exact ⟨x, a1, a3, step_x ok dw (lf_lt v U) hk hT (by omega) hbit h1 h2 (by rw [lf_or]; exact a2)⟩
  have last : bX10_toldAhead_53 r x1 (nI U) (nI k) (nI s) (nI due) (nI T) (nI s) (nI (T + 1)) = some (.inr (.inl (nI s, nI T, nI (s + 1)))) := by
    unfold bX10_toldAhead_53 bX10_toldAhead_157
    by_cases e : w.1 ≤ T + 1
    · simp (disch := omega) only [ht.n, bd_some, gd_true, inR_nI, nI_clamp, nI_add, pk_mul, pk_sub, leT, leF, ltT, ltF, eqT, eqF, ite_true, ite_false, reduceIte, nz_nI, oc_s, oc_n, pk_div, pk_rem, m1F, L0, L1, L2, L3, L4, L5, L6, L7, L8, L9, L10, L11, L12, L19, L20, L24, L25, L27, L28, L30, L32, L37, L39, L40, L47, L48, L50, L55, L57, L60, L61, L63, L71, L80, L97, L99, L100, L120, L122, L128, L161, L17, L600, L1000000, L1024, L1408, isB0, isB1, subdm, inT, inFl, inFh]
      all_goals rfl
    · simp (disch := omega) only [ht.n, bd_some, gd_true, inR_nI, nI_clamp, nI_add, pk_mul, pk_sub, leT, leF, ltT, ltF, eqT, eqF, ite_true, ite_false, reduceIte, nz_nI, oc_s, oc_n, pk_div, pk_rem, m1F, L0, L1, L2, L3, L4, L5, L6, L7, L8, L9, L10, L11, L12, L19, L20, L24, L25, L27, L28, L30, L32, L37, L39, L40, L47, L48, L50, L55, L57, L60, L61, L63, L71, L80, L97, L99, L100, L120, L122, L128, L161, L17, L600, L1000000, L1024, L1408, isB0, isB1, subdm, inT, inFl, inFh]
      all_goals rfl
  have key : ∀ q t, k ≤ t → t + q = T → iter (fun st : Int32 × Int32 × Int32 => bX10_toldAhead_53 r x1 (nI U) (nI k) st.1 (nI due) st.2.1 (nI s) st.2.2) (-nI 1, -nI 1, nI t) = some (.inl (nI s, nI T, nI (s + 1))) := by
    intro q
    induction q with
    | zero =>
      intro t h1 h2
      have hsv := (serves_nI ok hd ht dw ha hs h1 (show t < w.1 by omega)).1 (by omega)
      obtain ⟨x, a1, a3, a4⟩ := hst t h1 (by omega)
      have he := a4.mpr (by omega)
      have htT : t = T := by omega
      rw [iter_step (step := fun st : Int32 × Int32 × Int32 => bX10_toldAhead_53 r x1 (nI U) (nI k) st.1 (nI due) st.2.1 (nI s) st.2.2) (s := (-nI 1, -nI 1, nI t)) (s' := (nI s, nI t, nI (t + 1))) (by
        show bX10_toldAhead_53 r x1 (nI U) (nI k) (-nI 1) (nI due) (-nI 1) (nI s) (nI t) = _
        unfold bX10_toldAhead_53 bX10_toldAhead_121 bX10_toldAhead_135 bX10_toldAhead_149
        simp (disch := omega) only [ht.n, has_nI, hus, Bool.false_eq_true, hsv, L31, shl_T, or_nI, a1, bd_some, gd_true, inR_nI, nI_clamp, nI_add, pk_mul, pk_sub, leT, leF, ltT, ltF, eqT, eqF, ite_true, ite_false, reduceIte, nz_nI, oc_s, oc_n, pk_div, pk_rem, m1F, L0, L1, L2, L3, L4, L5, L6, L7, L8, L9, L10, L11, L12, L19, L20, L24, L25, L27, L28, L30, L32, L37, L39, L40, L47, L48, L50, L55, L57, L60, L61, L63, L71, L80, L97, L99, L100, L120, L122, L128, L161, L17, L600, L1000000, L1024, L1408, isB0, isB1, subdm, inT, inFl, inFh])]
      rw [htT]
      exact iter_end (step := fun st : Int32 × Int32 × Int32 => bX10_toldAhead_53 r x1 (nI U) (nI k) st.1 (nI due) st.2.1 (nI s) st.2.2) (s := (nI s, nI T, nI (T + 1))) last
    | succ q ih =>
      intro t h1 h2
      have hsv := (serves_nI ok hd ht dw ha hs h1 (show t < w.1 by omega)).1 (by omega)
      obtain ⟨x, a1, a3, a4⟩ := hst t h1 (by omega)
      have hne : ¬ 1 + x = due := fun e => by have := a4.mp e; omega
      rw [iter_step (step := fun st : Int32 × Int32 × Int32 => bX10_toldAhead_53 r x1 (nI U) (nI k) st.1 (nI due) st.2.1 (nI s) st.2.2) (s := (-nI 1, -nI 1, nI t)) (s' := (-nI 1, -nI 1, nI (t + 1))) (by
        show bX10_toldAhead_53 r x1 (nI U) (nI k) (-nI 1) (nI due) (-nI 1) (nI s) (nI t) = _
        unfold bX10_toldAhead_53 bX10_toldAhead_121 bX10_toldAhead_135 bX10_toldAhead_149
        simp (disch := omega) only [ht.n, has_nI, hus, Bool.false_eq_true, hsv, L31, shl_T, or_nI, a1, bd_some, gd_true, inR_nI, nI_clamp, nI_add, pk_mul, pk_sub, leT, leF, ltT, ltF, eqT, eqF, ite_true, ite_false, reduceIte, nz_nI, oc_s, oc_n, pk_div, pk_rem, m1F, L0, L1, L2, L3, L4, L5, L6, L7, L8, L9, L10, L11, L12, L19, L20, L24, L25, L27, L28, L30, L32, L37, L39, L40, L47, L48, L50, L55, L57, L60, L61, L63, L71, L80, L97, L99, L100, L120, L122, L128, L161, L17, L600, L1000000, L1024, L1408, isB0, isB1, subdm, inT, inFl, inFh])]
      exact ih (t + 1) (by omega) (by omega)
  exact key (T - k) k (Nat.le_refl k) (by omega)
theorem ah35 {r : Rec} {n m : Nat} {v : Hv} {w : Rv} (ok : HvOK v) (hd : Hd r n v) (ht : Td r m w) (dw : DvOK w) (ha : dnA v w) (htab : ∀ t U', t ≤ w.1 → U' < 2 ^ hS v → TbE r v w t U') {U k due s : Nat} (hU : U < 2 ^ hS v) (hk : k < w.1) (hT : TV (rcn v w) w.1 k (lf v U) due) (hdu : due ≤ 10) (hs : Gd v w (lf v U) k due s) (hl : ∀ t, t < s → ¬ Gd v w (lf v U) k due t) (x1 : Int32) : iter (fun st : Int32 × Int32 × Int32 => bX10_toldAhead_35 r x1 (nI U) (nI k) st.1 (nI due) st.2.1 st.2.2) (-nI 1, -nI 1, nI 0) = bX10_toldAhead_163 r x1 (nI U) (nI k) (nI s) (nI (max (k + 1) (rst v w (lf v U) s due) - 1)) := by
  have hS10 := ok.2.1
  have hsS := bit_lt (lf_lt v U) hs.1
  have e1 : iter (fun st : Int32 × Int32 × Int32 => bX10_toldAhead_35 r x1 (nI U) (nI k) st.1 (nI due) st.2.1 st.2.2) (-nI 1, -nI 1, nI 0) = iter (fun st : Int32 × Int32 × Int32 => bX10_toldAhead_35 r x1 (nI U) (nI k) st.1 (nI due) st.2.1 st.2.2) (-nI 1, -nI 1, nI s) := iter_seq (step := fun st : Int32 × Int32 × Int32 => bX10_toldAhead_35 r x1 (nI U) (nI k) st.1 (nI due) st.2.1 st.2.2) (fun i => (-nI 1, -nI 1, nI i)) s (fun i hi => by
    show bX10_toldAhead_35 r x1 (nI U) (nI k) (-nI 1) (nI due) (-nI 1) (nI i) = some (.inl (-nI 1, -nI 1, nI (i + 1)))
    have h := ah53_no ok hd ht dw ha htab hU hk hT hdu (show i < hS v by omega) (hl i hi) x1
    unfold bX10_toldAhead_35
    simp (disch := omega) only [hd.S, bd_some, gd_true, inR_nI, nI_clamp, nI_add, pk_mul, pk_sub, leT, leF, ltT, ltF, eqT, eqF, ite_true, ite_false, reduceIte, nz_nI, oc_s, oc_n, pk_div, pk_rem, m1F, L0, L1, L2, L3, L4, L5, L6, L7, L8, L9, L10, L11, L12, L19, L20, L24, L25, L27, L28, L30, L32, L37, L39, L40, L47, L48, L50, L55, L57, L60, L61, L63, L71, L80, L97, L99, L100, L120, L122, L128, L161, L17, L600, L1000000, L1024, L1408, isB0, isB1, subdm, inT, inFl, inFh]
    exact h)
  rw [e1, iter_step (step := fun st : Int32 × Int32 × Int32 => bX10_toldAhead_35 r x1 (nI U) (nI k) st.1 (nI due) st.2.1 st.2.2) (s := (-nI 1, -nI 1, nI s)) (s' := (nI s, nI (max (k + 1) (rst v w (lf v U) s due) - 1), nI (s + 1))) (by
    show bX10_toldAhead_35 r x1 (nI U) (nI k) (-nI 1) (nI due) (-nI 1) (nI s) = _
    have h := ah53_yes ok hd ht dw ha htab hU hk hT hdu hsS hs x1
    unfold bX10_toldAhead_35
    simp (disch := omega) only [hd.S, bd_some, gd_true, inR_nI, nI_clamp, nI_add, pk_mul, pk_sub, leT, leF, ltT, ltF, eqT, eqF, ite_true, ite_false, reduceIte, nz_nI, oc_s, oc_n, pk_div, pk_rem, m1F, L0, L1, L2, L3, L4, L5, L6, L7, L8, L9, L10, L11, L12, L19, L20, L24, L25, L27, L28, L30, L32, L37, L39, L40, L47, L48, L50, L55, L57, L60, L61, L63, L71, L80, L97, L99, L100, L120, L122, L128, L161, L17, L600, L1000000, L1024, L1408, isB0, isB1, subdm, inT, inFl, inFh]
    exact h)]
  refine iter_out (step := fun st : Int32 × Int32 × Int32 => bX10_toldAhead_35 r x1 (nI U) (nI k) st.1 (nI due) st.2.1 st.2.2) (s := (nI s, nI (max (k + 1) (rst v w (lf v U) s due) - 1), nI (s + 1))) ?_
  show bX10_toldAhead_35 r x1 (nI U) (nI k) (nI s) (nI due) (nI (max (k + 1) (rst v w (lf v U) s due) - 1)) (nI (s + 1)) = _
  unfold bX10_toldAhead_35
  by_cases c : hS v ≤ s + 1
  · simp (disch := omega) only [hd.S, bd_some, gd_true, inR_nI, nI_clamp, nI_add, pk_mul, pk_sub, leT, leF, ltT, ltF, eqT, eqF, ite_true, ite_false, reduceIte, nz_nI, oc_s, oc_n, pk_div, pk_rem, m1F, L0, L1, L2, L3, L4, L5, L6, L7, L8, L9, L10, L11, L12, L19, L20, L24, L25, L27, L28, L30, L32, L37, L39, L40, L47, L48, L50, L55, L57, L60, L61, L63, L71, L80, L97, L99, L100, L120, L122, L128, L161, L17, L600, L1000000, L1024, L1408, isB0, isB1, subdm, inT, inFl, inFh]
  · simp (disch := omega) only [hd.S, bd_some, gd_true, inR_nI, nI_clamp, nI_add, pk_mul, pk_sub, leT, leF, ltT, ltF, eqT, eqF, ite_true, ite_false, reduceIte, nz_nI, oc_s, oc_n, pk_div, pk_rem, m1F, L0, L1, L2, L3, L4, L5, L6, L7, L8, L9, L10, L11, L12, L19, L20, L24, L25, L27, L28, L30, L32, L37, L39, L40, L47, L48, L50, L55, L57, L60, L61, L63, L71, L80, L97, L99, L100, L120, L122, L128, L161, L17, L600, L1000000, L1024, L1408, isB0, isB1, subdm, inT, inFl, inFh]
theorem ahead_both {g : Gs} {r : Rec} {u d n m : Nat} {v : Hv} {w : Rv} (ok : HvOK v) (hx : HX (g u) v) (hd : Hd r n v) (ht : Td r m w) (dw : DvOK w) (dx : DX (g d) w) (ha : dnA v w) (hr : RX g v w) (hsx : SX g (gEr (rcn v w) w.1 (hS v)) (2 ^ hS v)) (htab : ∀ t U', t ≤ w.1 → U' < 2 ^ hS v → TbE r v w t U') {a : Nat} (hask : a < w.1) : ∀ q k U due who, w.1 - k ≤ q → k ≤ a → U < 2 ^ hS v → TV (rcn v w) w.1 k (lf v U) due → due ≤ 10 → ∃ y, iter (fun st : Int32 × Int32 × Int32 => bX6_toldAhead_14 g u d (nI a) st.1 st.2.1 st.2.2) (nI (lf v U), nI k, nI (due - 1)) = some y ∧ iter (fun st : Int32 × Int32 × Int32 => bX10_toldAhead_7 r (nI a) st.1 st.2.1 st.2.2) (nI U, nI k, who) = some y := by
  have h8 := dw.1
  have hS10 := ok.2.1
  have hpS := pS ok
  have hR := rc_ok (v := v) dw
  intro q
  induction q with
  | zero => intro k U due who h1 h2; omega
  | succ q ih =>
    intro k U due who h1 h2 hU hT hdu
    have hk : k < w.1 := by omega
    have hdp := due_pos hk hT
    obtain ⟨s, hs, hl⟩ := least_ex (gd_ex ok dw (lf_lt v U) hk hT (by omega))
    have hsS := bit_lt (lf_lt v U) hs.1
    have hb := hR.1 s k (by omega)
    have hlt := lf_lt v U
    have hin := aheadX_in ok hx dw dx hr hsx hlt hk hdp hdu hs hl (nI a)
    have him := ah35 ok hd ht dw ha htab hU hk hT hdu hs hl (nI a)
    obtain ⟨x0, t1, t2, t3⟩ := tab_x (htab k U (by omega) hU)
    have ex0 := t2.un hT
    subst ex0
    have hor := or_lt2 hU hsS
    have hrl : rst v w (lf v U) s x0 ≤ w.1 := rsN_le
    obtain ⟨K, hK⟩ : ∃ K, K = max (k + 1) (rst v w (lf v U) s x0) := ⟨_, rfl⟩
    rw [← hK] at him
    have hKb : k < K ∧ K ≤ rcn v w s k := by obtain ⟨-, g2, g3⟩ := hs; omega
    have eX : bX6_toldAhead_14 g u d (nI a) (nI (lf v U)) (nI k) (nI (x0 - 1)) = bX6_toldAhead_117 g u d (nI a) (nI (lf v U)) (nI k) (nI (x0 - 1)) (nI s) (nI (rst v w (lf v U) s x0)) := by
      unfold bX6_toldAhead_14
      simp (disch := omega) only [bd_some, gd_true, inR_nI, nI_clamp, nI_add, pk_mul, pk_sub, leT, leF, ltT, ltF, eqT, eqF, ite_true, ite_false, reduceIte, nz_nI, oc_s, oc_n, pk_div, pk_rem, m1F, L0, L1, L2, L3, L4, L5, L6, L7, L8, L9, L10, L11, L12, L19, L20, L24, L25, L27, L28, L30, L32, L37, L39, L40, L47, L48, L50, L55, L57, L60, L61, L63, L71, L80, L97, L99, L100, L120, L122, L128, L161, L17, L600, L1000000, L1024, L1408, isB0, isB1, subdm, inT, inFl, inFh]
      exact hin
    have eM : bX10_toldAhead_7 r (nI a) (nI U) (nI k) who = bX10_toldAhead_163 r (nI a) (nI U) (nI k) (nI s) (nI (K - 1)) := by
      unfold bX10_toldAhead_7
      simp (disch := omega) only [t1, bd_some, gd_true, inR_nI, nI_clamp, nI_add, pk_mul, pk_sub, leT, leF, ltT, ltF, eqT, eqF, ite_true, ite_false, reduceIte, nz_nI, oc_s, oc_n, pk_div, pk_rem, m1F, L0, L1, L2, L3, L4, L5, L6, L7, L8, L9, L10, L11, L12, L19, L20, L24, L25, L27, L28, L30, L32, L37, L39, L40, L47, L48, L50, L55, L57, L60, L61, L63, L71, L80, L97, L99, L100, L120, L122, L128, L161, L17, L600, L1000000, L1024, L1408, isB0, isB1, subdm, inT, inFl, inFh]
      exact him
    have e117 : ¬ k = a → bX6_toldAhead_117 g u d (nI a) (nI (lf v U)) (nI k) (nI (x0 - 1)) (nI s) (nI (rst v w (lf v U) s x0)) = some (.inl (nI (lf v (U ||| 2 ^ s)), nI K, nI (x0 - 1) + -nI 1)) := by
      intro c
      rw [← lf_or, hK]
      unfold bX6_toldAhead_117 bX6_toldAhead_158
      simp (disch := omega) only [L31, shl_T, andn_nI, mx_nI, bd_some, gd_true, inR_nI, nI_clamp, nI_add, pk_mul, pk_sub, leT, leF, ltT, ltF, eqT, eqF, ite_true, ite_false, reduceIte, nz_nI, oc_s, oc_n, pk_div, pk_rem, m1F, L0, L1, L2, L3, L4, L5, L6, L7, L8, L9, L10, L11, L12, L19, L20, L24, L25, L27, L28, L30, L32, L37, L39, L40, L47, L48, L50, L55, L57, L60, L61, L63, L71, L80, L97, L99, L100, L120, L122, L128, L161, L17, L600, L1000000, L1024, L1408, isB0, isB1, subdm, inT, inFl, inFh]
    have e177 : bX10_toldAhead_177 r (nI a) (nI U) (nI s) (nI (K - 1)) = some (.inl (nI (U ||| 2 ^ s), nI K, nI s)) := by
      have : K - 1 + 1 = K := by omega
      unfold bX10_toldAhead_177
      simp (disch := omega) only [L31, shl_T, or_nI, this, bd_some, gd_true, inR_nI, nI_clamp, nI_add, pk_mul, pk_sub, leT, leF, ltT, ltF, eqT, eqF, ite_true, ite_false, reduceIte, nz_nI, oc_s, oc_n, pk_div, pk_rem, m1F, L0, L1, L2, L3, L4, L5, L6, L7, L8, L9, L10, L11, L12, L19, L20, L24, L25, L27, L28, L30, L32, L37, L39, L40, L47, L48, L50, L55, L57, L60, L61, L63, L71, L80, L97, L99, L100, L120, L122, L128, L161, L17, L600, L1000000, L1024, L1408, isB0, isB1, subdm, inT, inFl, inFh]
    by_cases c : k = a
    · refine ⟨nI s, ?_, ?_⟩
      · refine iter_end (step := fun st : Int32 × Int32 × Int32 => bX6_toldAhead_14 g u d (nI a) st.1 st.2.1 st.2.2) (s := (nI (lf v U), nI k, nI (x0 - 1))) ?_
        show bX6_toldAhead_14 g u d (nI a) (nI (lf v U)) (nI k) (nI (x0 - 1)) = _
        rw [eX]
        unfold bX6_toldAhead_117
        simp (disch := omega) only [bd_some, gd_true, inR_nI, nI_clamp, nI_add, pk_mul, pk_sub, leT, leF, ltT, ltF, eqT, eqF, ite_true, ite_false, reduceIte, nz_nI, oc_s, oc_n, pk_div, pk_rem, m1F, L0, L1, L2, L3, L4, L5, L6, L7, L8, L9, L10, L11, L12, L19, L20, L24, L25, L27, L28, L30, L32, L37, L39, L40, L47, L48, L50, L55, L57, L60, L61, L63, L71, L80, L97, L99, L100, L120, L122, L128, L161, L17, L600, L1000000, L1024, L1408, isB0, isB1, subdm, inT, inFl, inFh]
      · rw [iter_step (step := fun st : Int32 × Int32 × Int32 => bX10_toldAhead_7 r (nI a) st.1 st.2.1 st.2.2) (s := (nI U, nI k, who)) (s' := (nI (U ||| 2 ^ s), nI K, nI s)) (by
          show bX10_toldAhead_7 r (nI a) (nI U) (nI k) who = _
          rw [eM]
          unfold bX10_toldAhead_163
          simp (disch := omega) only [e177, bd_some, gd_true, inR_nI, nI_clamp, nI_add, pk_mul, pk_sub, leT, leF, ltT, ltF, eqT, eqF, ite_true, ite_false, reduceIte, nz_nI, oc_s, oc_n, pk_div, pk_rem, m1F, L0, L1, L2, L3, L4, L5, L6, L7, L8, L9, L10, L11, L12, L19, L20, L24, L25, L27, L28, L30, L32, L37, L39, L40, L47, L48, L50, L55, L57, L60, L61, L63, L71, L80, L97, L99, L100, L120, L122, L128, L161, L17, L600, L1000000, L1024, L1408, isB0, isB1, subdm, inT, inFl, inFh])]
        refine iter_end (step := fun st : Int32 × Int32 × Int32 => bX10_toldAhead_7 r (nI a) st.1 st.2.1 st.2.2) (s := (nI (U ||| 2 ^ s), nI K, nI s)) ?_
        show bX10_toldAhead_7 r (nI a) (nI (U ||| 2 ^ s)) (nI K) (nI s) = _
        unfold bX10_toldAhead_7
        simp (disch := omega) only [bd_some, gd_true, inR_nI, nI_clamp, nI_add, pk_mul, pk_sub, leT, leF, ltT, ltF, eqT, eqF, ite_true, ite_false, reduceIte, nz_nI, oc_s, oc_n, pk_div, pk_rem, m1F, L0, L1, L2, L3, L4, L5, L6, L7, L8, L9, L10, L11, L12, L19, L20, L24, L25, L27, L28, L30, L32, L37, L39, L40, L47, L48, L50, L55, L57, L60, L61, L63, L71, L80, L97, L99, L100, L120, L122, L128, L161, L17, L600, L1000000, L1024, L1408, isB0, isB1, subdm, inT, inFl, inFh]
    · by_cases c2 : a < K
      · refine ⟨nI 10, ?_, ?_⟩
        · rw [iter_step (step := fun st : Int32 × Int32 × Int32 => bX6_toldAhead_14 g u d (nI a) st.1 st.2.1 st.2.2) (s := (nI (lf v U), nI k, nI (x0 - 1))) (s' := (nI (lf v (U ||| 2 ^ s)), nI K, nI (x0 - 1) + -nI 1)) (by
            show bX6_toldAhead_14 g u d (nI a) (nI (lf v U)) (nI k) (nI (x0 - 1)) = _
            rw [eX, e117 c])]
          refine iter_end (step := fun st : Int32 × Int32 × Int32 => bX6_toldAhead_14 g u d (nI a) st.1 st.2.1 st.2.2) (s := (nI (lf v (U ||| 2 ^ s)), nI K, nI (x0 - 1) + -nI 1)) ?_
          show bX6_toldAhead_14 g u d (nI a) (nI (lf v (U ||| 2 ^ s))) (nI K) (nI (x0 - 1) + -nI 1) = _
          unfold bX6_toldAhead_14
          by_cases c3 : nI (x0 - 1) + -nI 1 < 0
          · rw [if_pos c3]; rfl
          · rw [if_neg c3, if_pos (show nI a < nI K from (nI_ltI (by omega) (by omega)).mpr c2)]; rfl
        · refine iter_end (step := fun st : Int32 × Int32 × Int32 => bX10_toldAhead_7 r (nI a) st.1 st.2.1 st.2.2) (s := (nI U, nI k, who)) ?_
          show bX10_toldAhead_7 r (nI a) (nI U) (nI k) who = _
          rw [eM]
          unfold bX10_toldAhead_163
          simp (disch := omega) only [bd_some, gd_true, inR_nI, nI_clamp, nI_add, pk_mul, pk_sub, leT, leF, ltT, ltF, eqT, eqF, ite_true, ite_false, reduceIte, nz_nI, oc_s, oc_n, pk_div, pk_rem, m1F, L0, L1, L2, L3, L4, L5, L6, L7, L8, L9, L10, L11, L12, L19, L20, L24, L25, L27, L28, L30, L32, L37, L39, L40, L47, L48, L50, L55, L57, L60, L61, L63, L71, L80, L97, L99, L100, L120, L122, L128, L161, L17, L600, L1000000, L1024, L1408, isB0, isB1, subdm, inT, inFl, inFh]
      · obtain ⟨x, a1, a2, a3⟩ := tab_x (htab K (U ||| 2 ^ s) (by omega) hor)
        have hbit := hs.1
        have hx1 : 1 + x = x0 := (step_x ok dw hlt hk hT (by omega) hbit (t := K - 1) (by omega) (by omega) (by rw [lf_or, show K - 1 + 1 = K by omega]; exact a2)).mpr (by omega)
        have hxp := due_pos (show K < w.1 by omega) a2
        obtain ⟨y, y1, y2⟩ := ih K (U ||| 2 ^ s) x (nI s) (by omega) (by omega) hor a2 (by omega)
        refine ⟨y, ?_, ?_⟩
        · rw [iter_step (step := fun st : Int32 × Int32 × Int32 => bX6_toldAhead_14 g u d (nI a) st.1 st.2.1 st.2.2) (s := (nI (lf v U), nI k, nI (x0 - 1))) (s' := (nI (lf v (U ||| 2 ^ s)), nI K, nI (x - 1))) (by
            show bX6_toldAhead_14 g u d (nI a) (nI (lf v U)) (nI k) (nI (x0 - 1)) = _
            rw [eX, e117 c, show x0 - 1 = x - 1 + 1 by omega, m1add])]
          exact y1
        · rw [iter_step (step := fun st : Int32 × Int32 × Int32 => bX10_toldAhead_7 r (nI a) st.1 st.2.1 st.2.2) (s := (nI U, nI k, who)) (s' := (nI (U ||| 2 ^ s), nI K, nI s)) (by
            show bX10_toldAhead_7 r (nI a) (nI U) (nI k) who = _
            rw [eM]
            unfold bX10_toldAhead_163
            simp (disch := omega) only [e177, bd_some, gd_true, inR_nI, nI_clamp, nI_add, pk_mul, pk_sub, leT, leF, ltT, ltF, eqT, eqF, ite_true, ite_false, reduceIte, nz_nI, oc_s, oc_n, pk_div, pk_rem, m1F, L0, L1, L2, L3, L4, L5, L6, L7, L8, L9, L10, L11, L12, L19, L20, L24, L25, L27, L28, L30, L32, L37, L39, L40, L47, L48, L50, L55, L57, L60, L61, L63, L71, L80, L97, L99, L100, L120, L122, L128, L161, L17, L600, L1000000, L1024, L1408, isB0, isB1, subdm, inT, inFl, inFh])]
          exact y2
