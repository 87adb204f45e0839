theorem rcn_n {v : Hv} {w : Rv} {s : Nat} : rcn v w s w.1 = w.1 := by
  have := rcn_b (v := v) (w := w) (s := s) (Nat.le_refl w.1)
  omega
theorem fLg_le {R : Nat → Nat → Nat} {n S T : Nat} (hR : RcOK R n) (hT : T < 2 ^ S) : fLg R S T ≤ n := by
  obtain ⟨⟨l, -, e⟩, -⟩ := fLg_FV (S := S) hR T hT
  have := (run_b hR l 0 (Nat.zero_le _)).2
  omega
theorem fLs_le {R : Nat → Nat → Nat} {n S T s a : Nat} (hR : RcOK R n) (hT : T < 2 ^ S) (ha : a ≤ n) : fLs R S T s a ≤ n := by
  have h1 := fLg_le (S := S) (T := andn T (2 ^ s)) hR (andn_lt hT)
  have h2 := (hR.1 s _ h1).2
  unfold fLs
  split <;> omega
def SX (g : Gs) (f : Nat → Nat) (k : Nat) : Prop := ∀ t, t < k → ga (g 601) 1 t = nI (f t)
theorem lgX_in {g : Gs} {u d : Nat} {v : Hv} {w : Rv} (ok : HvOK v) (hx : HX (g u) v) (dw : DvOK w) (dx : DX (g d) w) (hr : RX g v w) {T : Nat} (hT0 : T ≠ 0) (hT : T < 2 ^ hS v) (hg : SX g (fLg (rcn v w) (hS v)) T) : iter (fun st : Int32 × Int32 => bX6_longestServed_29 g u d (nI T) st.1 st.2) (nI 0, nI 0) = bX6_longestServed_102 g u d (nI T) (nI (fLg (rcn v w) (hS v) T)) := by
  have hS10 := ok.2.1
  have hpS := pS ok
  have h8 := dw.1
  have hsz := dx.2.1
  have hR := rc_ok (v := v) dw
  rw [fLg_s hT0]
  refine loopO (step := fun st : Int32 × Int32 => bX6_longestServed_29 g u d (nI T) st.1 st.2) (fun i => (nI (fo (fLs (rcn v w) (hS v) T) 0 i), nI i)) (hS v) (fun i hi => ?_) ?_
  · show bX6_longestServed_29 g u d (nI T) (nI (fo (fLs (rcn v w) (hS v) T) 0 i)) (nI i) = some (.inl (nI (fLs (rcn v w) (hS v) T i (fo (fLs (rcn v w) (hS v) T) 0 i)), nI (i + 1)))
    have hle : fo (fLs (rcn v w) (hS v) T) 0 i ≤ w.1 := by
      clear hi
      induction i with
      | zero => exact Nat.zero_le _
      | succ i ih =>
        exact fLs_le hR hT ih
    generalize fo (fLs (rcn v w) (hS v) T) 0 i = a at hle ⊢
    unfold bX6_longestServed_29 bX6_longestServed_91 bX6_longestServed_96 fLs
    cases c : T.testBit i
    · simp (disch := omega) only [hx.S, hasBit_nI, c, Bool.false_eq_true, bd_some, gd_true, inR_nI, nI_clamp, nI_add, pk_mul, pk_sub, leT, leF, ltT, ltF, eqT, eqF, ite_true, ite_false, reduceIte, nz_nI, oc_s, oc_n, pk_div, pk_rem, m1F, L0, L1, L2, L3, L4, L5, L6, L7, L8, L9, L10, L11, L12, L19, L20, L24, L25, L27, L28, L30, L32, L37, L39, L40, L47, L48, L50, L55, L57, L60, L61, L63, L71, L80, L97, L99, L100, L120, L122, L128, L161, L17, L600, L1000000, L1024, L1408, isB0, isB1, subdm, inT, inFl, inFh]
    · have hd := dl_lt c
      have hq := hg _ hd
      have h1 := fLg_le (S := hS v) (T := andn T (2 ^ i)) hR (andn_lt hT)
      have h2 := hR.1 i _ h1
      by_cases e : fLg (rcn v w) (hS v) (andn T (2 ^ i)) < w.1
      · have hre := hr i _ hi e
        simp (disch := omega) only [hx.S, hasBit_nI, c, L31, shl_T, andn_nI, hq, hsz, hre, mx_nI, bd_some, gd_true, inR_nI, nI_clamp, nI_add, pk_mul, pk_sub, leT, leF, ltT, ltF, eqT, eqF, ite_true, ite_false, reduceIte, nz_nI, oc_s, oc_n, pk_div, pk_rem, m1F, L0, L1, L2, L3, L4, L5, L6, L7, L8, L9, L10, L11, L12, L19, L20, L24, L25, L27, L28, L30, L32, L37, L39, L40, L47, L48, L50, L55, L57, L60, L61, L63, L71, L80, L97, L99, L100, L120, L122, L128, L161, L17, L600, L1000000, L1024, L1408, isB0, isB1, subdm, inT, inFl, inFh]
      · have e2 : fLg (rcn v w) (hS v) (andn T (2 ^ i)) = w.1 := by omega
        rw [e2] at hq
        rw [e2, rcn_n]
        simp (disch := omega) only [hx.S, hasBit_nI, c, L31, shl_T, andn_nI, hq, hsz, mx_nI, bd_some, gd_true, inR_nI, nI_clamp, nI_add, pk_mul, pk_sub, leT, leF, ltT, ltF, eqT, eqF, ite_true, ite_false, reduceIte, nz_nI, oc_s, oc_n, pk_div, pk_rem, m1F, L0, L1, L2, L3, L4, L5, L6, L7, L8, L9, L10, L11, L12, L19, L20, L24, L25, L27, L28, L30, L32, L37, L39, L40, L47, L48, L50, L55, L57, L60, L61, L63, L71, L80, L97, L99, L100, L120, L122, L128, L161, L17, L600, L1000000, L1024, L1408, isB0, isB1, subdm, inT, inFl, inFh]
  · show bX6_longestServed_29 g u d (nI T) (nI (fo (fLs (rcn v w) (hS v) T) 0 (hS v))) (nI (hS v)) = _
    unfold bX6_longestServed_29
    simp (disch := omega) only [hx.S, bd_some, gd_true, inR_nI, nI_clamp, nI_add, pk_mul, pk_sub, leT, leF, ltT, ltF, eqT, eqF, ite_true, ite_false, reduceIte, nz_nI, oc_s, oc_n, pk_div, pk_rem, m1F, L0, L1, L2, L3, L4, L5, L6, L7, L8, L9, L10, L11, L12, L19, L20, L24, L25, L27, L28, L30, L32, L37, L39, L40, L47, L48, L50, L55, L57, L60, L61, L63, L71, L80, L97, L99, L100, L120, L122, L128, L161, L17, L600, L1000000, L1024, L1408, isB0, isB1, subdm, inT, inFl, inFh]
theorem longX {g : Gs} {u d : Nat} {v : Hv} {w : Rv} (ok : HvOK v) (hx : HX (g u) v) (hu : u ≠ 601) (hd : d ≠ 601) (dw : DvOK w) (dx : DX (g d) w) (ha : dnA v w) : ∃ g', fX6_longestServed g u d = some (g', nI (fLg (rcn v w) (hS v) (2 ^ hS v - 1))) ∧ ∀ o, o ≠ 601 → g' o = g o := by
  have hp1 := p1 (hS v)
  have hpS := pS ok
  have hS10 := ok.2.1
  have h8 := dw.1
  have hR := rc_ok (v := v) dw
  obtain ⟨g0, m1, m2, m3⟩ := measure_nI ok hx hu hd dw dx ha
  unfold fX6_longestServed
  rw [m1, bd_some, bd_some]
  obtain ⟨x, h1, h2⟩ := iter_loop (step := fun st : Int32 × Gs => bX6_longestServed_15 st.2 u d st.1) (fun i st => st.1 = nI (i + 1) ∧ (∀ o, o ≠ 601 → st.2 o = g o) ∧ RX st.2 v w ∧ SX st.2 (fLg (rcn v w) (hS v)) (i + 1)) (fun x => x.2 = nI (fLg (rcn v w) (hS v) (2 ^ hS v - 1)) ∧ ∀ o, o ≠ 601 → x.1 o = g o) (2 ^ hS v - 1) (by
    rintro i ⟨k, G⟩ hi ⟨e, a1, a2, a3⟩
    dsimp only at e a1 a2 a3
    subst e
    have hxG : HX (G u) v := by rw [a1 u hu]; exact hx
    have dxG : DX (G d) w := by rw [a1 d hd]; exact dx
    refine ⟨(nI (i + 1 + 1), ug G 601 (sa (G 601) 1 (upd (ga (G 601) 1) (i + 1) (nI (fLg (rcn v w) (hS v) (i + 1)))))), ?_, rfl, fun o ho => ?_, fun s k hs hk => ?_, fun t ht => ?_⟩
    · show bX6_longestServed_15 G u d (nI (i + 1)) = _
      have hin := lgX_in (d := d) ok hxG dw dxG a2 (T := i + 1) (by omega) (by omega) a3
      unfold bX6_longestServed_15
      simp (disch := omega) only [secretSets_nI ok hxG, bd_some, gd_true, inR_nI, nI_clamp, nI_add, pk_mul, pk_sub, leT, leF, ltT, ltF, eqT, eqF, ite_true, ite_false, reduceIte, nz_nI, oc_s, oc_n, pk_div, pk_rem, m1F, L0, L1, L2, L3, L4, L5, L6, L7, L8, L9, L10, L11, L12, L19, L20, L24, L25, L27, L28, L30, L32, L37, L39, L40, L47, L48, L50, L55, L57, L60, L61, L63, L71, L80, L97, L99, L100, L120, L122, L128, L161, L17, L600, L1000000, L1024, L1408, isB0, isB1, subdm, inT, inFl, inFh]
      refine hin.trans ?_
      unfold bX6_longestServed_102
      simp (disch := omega) only [bd_some, gd_true, inR_nI, nI_clamp, nI_add, pk_mul, pk_sub, leT, leF, ltT, ltF, eqT, eqF, ite_true, ite_false, reduceIte, nz_nI, oc_s, oc_n, pk_div, pk_rem, m1F, L0, L1, L2, L3, L4, L5, L6, L7, L8, L9, L10, L11, L12, L19, L20, L24, L25, L27, L28, L30, L32, L37, L39, L40, L47, L48, L50, L55, L57, L60, L61, L63, L71, L80, L97, L99, L100, L120, L122, L128, L161, L17, L600, L1000000, L1024, L1408, isB0, isB1, subdm, inT, inFl, inFh]
    · dsimp only
      rw [ug_ne ho]; exact a1 o ho
    · dsimp only
      rw [ug_same, ga_san (by decide)]; exact a2 s k hs hk
    · dsimp only
      rw [ug_same, ga_sae, upd_if]
      by_cases c : t = i + 1
      · rw [if_pos c, c]
      · rw [if_neg c]; exact a3 t (by omega)) (by
    rintro ⟨k, G⟩ ⟨e, a1, a2, a3⟩
    dsimp only at e a1 a2 a3
    subst e
    have hxG : HX (G u) v := by rw [a1 u hu]; exact hx
    have hq := a3 (2 ^ hS v - 1) (by omega)
    refine ⟨(G, nI (fLg (rcn v w) (hS v) (2 ^ hS v - 1))), ?_, rfl, a1⟩
    show bX6_longestServed_15 G u d (nI (2 ^ hS v - 1 + 1)) = _
    unfold bX6_longestServed_15 bX6_longestServed_116
    simp (disch := omega) only [secretSets_nI ok hxG, allSecrets_nI ok hxG, hq, bd_some, gd_true, inR_nI, nI_clamp, nI_add, pk_mul, pk_sub, leT, leF, ltT, ltF, eqT, eqF, ite_true, ite_false, reduceIte, nz_nI, oc_s, oc_n, pk_div, pk_rem, m1F, L0, L1, L2, L3, L4, L5, L6, L7, L8, L9, L10, L11, L12, L19, L20, L24, L25, L27, L28, L30, L32, L37, L39, L40, L47, L48, L50, L55, L57, L60, L61, L63, L71, L80, L97, L99, L100, L120, L122, L128, L161, L17, L600, L1000000, L1024, L1408, isB0, isB1, subdm, inT, inFl, inFh]
    all_goals rfl) (s0 := ((1 : Int32), ug g0 601 (sa (g0 601) 1 (upd (ga (g0 601) 1) (Int32.toNatClampNeg 0) 0)))) ⟨rfl, fun o ho => (by dsimp only; rw [ug_ne ho]; exact m3 o ho), fun s k hs hk => (by dsimp only; rw [ug_same, ga_san (by decide)]; exact m2 s k hs hk), fun t ht => by
      have : t = 0 := by omega
      subst this
      dsimp only
      rw [ug_same, ga_sae]
      rfl⟩
  obtain ⟨x1, x2⟩ := x
  obtain ⟨b0, b1⟩ := h2
  dsimp only at b0 b1
  subst b0
  exact ⟨x1, h1, b1⟩
theorem m1add (k : Nat) : nI (k + 1) + -nI 1 = nI k := pk_m1 k
theorem startX {g : Gs} {v : Hv} {w : Rv} (ok : HvOK v) (dw : DvOK w) (hr : RX g v w) {s e : Nat} (hs : s < hS v) (he : e ≤ w.1) : fX6_startServing g (nI s) (nI e) = some (nI (stv2 (rcn v w) s e)) := by
  have hS10 := ok.2.1
  have h8 := dw.1
  have hR := rc_ok (v := v) dw
  unfold fX6_startServing stv2
  have key : ∀ k, k ≤ e → iter (fun st : Int32 => bX6_startServing_2 g (nI s) (nI e) st) (nI k) = some (nI (stF (rcn v w) s e k)) := by
    intro k
    induction k with
    | zero =>
      intro hk
      refine iter_end (step := fun st : Int32 => bX6_startServing_2 g (nI s) (nI e) st) (s := nI 0) ?_
      show bX6_startServing_2 g (nI s) (nI e) (nI 0) = some (.inr (nI 0))
      unfold bX6_startServing_2
      rw [if_pos (show nI 0 ≤ 0 by decide)]
    | succ k ih =>
      intro hk
      have hre := hr s k hs (by omega)
      have hb := (hR.1 s k (by omega)).2
      have ei : s * 8 + (k + 1) - 1 = s * 8 + k := by omega
      by_cases c : e ≤ rcn v w s k
      · have q : stF (rcn v w) s e (k + 1) = stF (rcn v w) s e k := if_pos c
        rw [q, iter_step (step := fun st : Int32 => bX6_startServing_2 g (nI s) (nI e) st) (s := nI (k + 1)) (s' := nI k) (by
          show bX6_startServing_2 g (nI s) (nI e) (nI (k + 1)) = _
          unfold bX6_startServing_2
          simp (disch := omega) only [ei, hre, m1add, bd_some, gd_true, inR_nI, nI_clamp, nI_add, pk_mul, pk_sub, leT, leF, ltT, ltF, eqT, eqF, ite_true, ite_false, reduceIte, nz_nI, oc_s, oc_n, pk_div, pk_rem, m1F, L0, L1, L2, L3, L4, L5, L6, L7, L8, L9, L10, L11, L12, L19, L20, L24, L25, L27, L28, L30, L32, L37, L39, L40, L47, L48, L50, L55, L57, L60, L61, L63, L71, L80, L97, L99, L100, L120, L122, L128, L161, L17, L600, L1000000, L1024, L1408, isB0, isB1, subdm, inT, inFl, inFh])]
        exact ih (by omega)
      · have q : stF (rcn v w) s e (k + 1) = k + 1 := if_neg c
        rw [q]
        refine iter_end (step := fun st : Int32 => bX6_startServing_2 g (nI s) (nI e) st) (s := nI (k + 1)) ?_
        show bX6_startServing_2 g (nI s) (nI e) (nI (k + 1)) = _
        unfold bX6_startServing_2
        simp (disch := omega) only [ei, hre, bd_some, gd_true, inR_nI, nI_clamp, nI_add, pk_mul, pk_sub, leT, leF, ltT, ltF, eqT, eqF, ite_true, ite_false, reduceIte, nz_nI, oc_s, oc_n, pk_div, pk_rem, m1F, L0, L1, L2, L3, L4, L5, L6, L7, L8, L9, L10, L11, L12, L19, L20, L24, L25, L27, L28, L30, L32, L37, L39, L40, L47, L48, L50, L55, L57, L60, L61, L63, L71, L80, L97, L99, L100, L120, L122, L128, L161, L17, L600, L1000000, L1024, L1408, isB0, isB1, subdm, inT, inFl, inFh]
  exact key e (Nat.le_refl e)
theorem erX_in {g : Gs} {u d : Nat} {v : Hv} {w : Rv} (ok : HvOK v) (hx : HX (g u) v) (dw : DvOK w) (hr : RX g v w) {T : Nat} (hT0 : T ≠ 0) (hT : T < 2 ^ hS v) (hg : SX g (gEr (rcn v w) w.1 (hS v)) T) (x3 : Int32) : iter (fun st : Int32 × Int32 => bX6_fewestServing_50 g u d x3 (nI T) st.1 st.2) (nI w.1, nI 0) = bX6_fewestServing_102 g u d x3 (nI T) (nI (gEr (rcn v w) w.1 (hS v) T)) := by
  have hS10 := ok.2.1
  have hpS := pS ok
  have h8 := dw.1
  have hR := rc_ok (v := v) dw
  rw [gEr_s hT0]
  refine loopO (step := fun st : Int32 × Int32 => bX6_fewestServing_50 g u d x3 (nI T) st.1 st.2) (fun i => (nI (fo (gEs (rcn v w) w.1 (hS v) T) w.1 i), nI i)) (hS v) (fun i hi => ?_) ?_
  · show bX6_fewestServing_50 g u d x3 (nI T) (nI (fo (gEs (rcn v w) w.1 (hS v) T) w.1 i)) (nI i) = some (.inl (nI (gEs (rcn v w) w.1 (hS v) T i (fo (gEs (rcn v w) w.1 (hS v) T) w.1 i)), nI (i + 1)))
    have hle : fo (gEs (rcn v w) w.1 (hS v) T) w.1 i ≤ w.1 := fo_le (gEs_le _ _ _ _) _
    generalize fo (gEs (rcn v w) w.1 (hS v) T) w.1 i = a at hle ⊢
    unfold bX6_fewestServing_50 bX6_fewestServing_96 gEs
    cases c : T.testBit i
    · simp (disch := omega) only [hx.S, hasBit_nI, c, Bool.false_eq_true, bd_some, gd_true, inR_nI, nI_clamp, nI_add, pk_mul, pk_sub, leT, leF, ltT, ltF, eqT, eqF, ite_true, ite_false, reduceIte, nz_nI, oc_s, oc_n, pk_div, pk_rem, m1F, L0, L1, L2, L3, L4, L5, L6, L7, L8, L9, L10, L11, L12, L19, L20, L24, L25, L27, L28, L30, L32, L37, L39, L40, L47, L48, L50, L55, L57, L60, L61, L63, L71, L80, L97, L99, L100, L120, L122, L128, L161, L17, L600, L1000000, L1024, L1408, isB0, isB1, subdm, inT, inFl, inFh]
    · have hd := dl_lt c
      have hq := hg _ hd
      have h1 : gEr (rcn v w) w.1 (hS v) (andn T (2 ^ i)) ≤ w.1 := gEr_le
      have h2 := startX ok dw hr hi h1
      have h3 := (stF_spec (R := rcn v w) (s := i) (e := gEr (rcn v w) w.1 (hS v) (andn T (2 ^ i))) (gEr (rcn v w) w.1 (hS v) (andn T (2 ^ i)))).1
      have h4 : stv2 (rcn v w) i (gEr (rcn v w) w.1 (hS v) (andn T (2 ^ i))) ≤ w.1 := Nat.le_trans h3 h1
      simp (disch := omega) only [hx.S, hasBit_nI, c, L31, shl_T, andn_nI, hq, h2, mn_nI, bd_some, gd_true, inR_nI, nI_clamp, nI_add, pk_mul, pk_sub, leT, leF, ltT, ltF, eqT, eqF, ite_true, ite_false, reduceIte, nz_nI, oc_s, oc_n, pk_div, pk_rem, m1F, L0, L1, L2, L3, L4, L5, L6, L7, L8, L9, L10, L11, L12, L19, L20, L24, L25, L27, L28, L30, L32, L37, L39, L40, L47, L48, L50, L55, L57, L60, L61, L63, L71, L80, L97, L99, L100, L120, L122, L128, L161, L17, L600, L1000000, L1024, L1408, isB0, isB1, subdm, inT, inFl, inFh]
  · show bX6_fewestServing_50 g u d x3 (nI T) (nI (fo (gEs (rcn v w) w.1 (hS v) T) w.1 (hS v))) (nI (hS v)) = _
    unfold bX6_fewestServing_50
    simp (disch := omega) only [hx.S, bd_some, gd_true, inR_nI, nI_clamp, nI_add, pk_mul, pk_sub, leT, leF, ltT, ltF, eqT, eqF, ite_true, ite_false, reduceIte, nz_nI, oc_s, oc_n, pk_div, pk_rem, m1F, L0, L1, L2, L3, L4, L5, L6, L7, L8, L9, L10, L11, L12, L19, L20, L24, L25, L27, L28, L30, L32, L37, L39, L40, L47, L48, L50, L55, L57, L60, L61, L63, L71, L80, L97, L99, L100, L120, L122, L128, L161, L17, L600, L1000000, L1024, L1408, isB0, isB1, subdm, inT, inFl, inFh]
def eW (x : Nat) : Int32 := if x = 1000000 then -nI 1 else nI x
theorem eW_F : eW 1000000 = -nI 1 := if_pos rfl
theorem eW_n {x : Nat} (h : x ≤ 10) : eW x = nI x := if_neg (by omega)
theorem fwN_c (R : Nat → Nat → Nat) (n S k : Nat) : fwN R n S k = 1000000 ∨ fwN R n S k ≤ 10 := by
  obtain ⟨-, -, e | ⟨b, -, -, e⟩⟩ := fwN_mn R n S k
  · rw [e]
    by_cases c : n = 0
    · rw [if_pos c]; exact Or.inr (Nat.zero_le _)
    · rw [if_neg c]; exact Or.inl rfl
  · rw [e]; exact Or.inr (pc_le b)
theorem few102 {g : Gs} {u d T x e n S : Nat} {R : Nat → Nat → Nat} (hT0 : T ≠ 0) (hT : T < 1024) (he : gEr R n S T = e) (he8 : e ≤ 8) (hx : x = 1000000 ∨ x ≤ 10) : bX6_fewestServing_102 g u d (eW x) (nI T) (nI e) = some (.inl (eW (fwF R n S T x), nI (T + 1), ug g 601 (sa (g 601) 1 (upd (ga (g 601) 1) T (nI e))))) := by
  have hpc := pc_le T
  have hbc := bitCount_nI T hT
  unfold bX6_fewestServing_102 bX6_fewestServing_134 bX6_fewestServing_137 fwF
  rw [he]
  by_cases c : e = 0
  · rw [if_pos ⟨hT0, c⟩]
    rcases hx with q | q
    · rw [q, eW_F, Nat.min_eq_right (by omega), eW_n hpc]
      simp (disch := omega) only [hbc, bd_some, gd_true, inR_nI, nI_clamp, nI_add, pk_mul, pk_sub, leT, leF, ltT, ltF, eqT, eqF, ite_true, ite_false, reduceIte, nz_nI, oc_s, oc_n, pk_div, pk_rem, m1F, L0, L1, L2, L3, L4, L5, L6, L7, L8, L9, L10, L11, L12, L19, L20, L24, L25, L27, L28, L30, L32, L37, L39, L40, L47, L48, L50, L55, L57, L60, L61, L63, L71, L80, L97, L99, L100, L120, L122, L128, L161, L17, L600, L1000000, L1024, L1408, isB0, isB1, subdm, inT, inFl, inFh]
    · rw [eW_n q]
      by_cases c2 : x ≤ pc T
      · rw [Nat.min_eq_left c2, eW_n q]
        simp (disch := omega) only [hbc, bd_some, gd_true, inR_nI, nI_clamp, nI_add, pk_mul, pk_sub, leT, leF, ltT, ltF, eqT, eqF, ite_true, ite_false, reduceIte, nz_nI, oc_s, oc_n, pk_div, pk_rem, m1F, L0, L1, L2, L3, L4, L5, L6, L7, L8, L9, L10, L11, L12, L19, L20, L24, L25, L27, L28, L30, L32, L37, L39, L40, L47, L48, L50, L55, L57, L60, L61, L63, L71, L80, L97, L99, L100, L120, L122, L128, L161, L17, L600, L1000000, L1024, L1408, isB0, isB1, subdm, inT, inFl, inFh]
      · rw [Nat.min_eq_right (by omega), eW_n hpc]
        simp (disch := omega) only [hbc, bd_some, gd_true, inR_nI, nI_clamp, nI_add, pk_mul, pk_sub, leT, leF, ltT, ltF, eqT, eqF, ite_true, ite_false, reduceIte, nz_nI, oc_s, oc_n, pk_div, pk_rem, m1F, L0, L1, L2, L3, L4, L5, L6, L7, L8, L9, L10, L11, L12, L19, L20, L24, L25, L27, L28, L30, L32, L37, L39, L40, L47, L48, L50, L55, L57, L60, L61, L63, L71, L80, L97, L99, L100, L120, L122, L128, L161, L17, L600, L1000000, L1024, L1408, isB0, isB1, subdm, inT, inFl, inFh]
  · rw [if_neg (fun q => c q.2)]
    simp (disch := omega) only [hbc, bd_some, gd_true, inR_nI, nI_clamp, nI_add, pk_mul, pk_sub, leT, leF, ltT, ltF, eqT, eqF, ite_true, ite_false, reduceIte, nz_nI, oc_s, oc_n, pk_div, pk_rem, m1F, L0, L1, L2, L3, L4, L5, L6, L7, L8, L9, L10, L11, L12, L19, L20, L24, L25, L27, L28, L30, L32, L37, L39, L40, L47, L48, L50, L55, L57, L60, L61, L63, L71, L80, L97, L99, L100, L120, L122, L128, L161, L17, L600, L1000000, L1024, L1408, isB0, isB1, subdm, inT, inFl, inFh]
theorem fewSX {g : Gs} {u d : Nat} {v : Hv} {w : Rv} (ok : HvOK v) (hx : HX (g u) v) (hu : u ≠ 601) (hd : d ≠ 601) (dw : DvOK w) (dx : DX (g d) w) (ha : dnA v w) : ∃ g', fX6_fewestServing g u d = some (g', eW (fwN (rcn v w) w.1 (hS v) (2 ^ hS v))) ∧ (∀ o, o ≠ 601 → g' o = g o) ∧ RX g' v w ∧ SX g' (gEr (rcn v w) w.1 (hS v)) (2 ^ hS v) := by
  have hp1 := p1 (hS v)
  have hpS := pS ok
  have hS10 := ok.2.1
  have h8 := dw.1
  have hR := rc_ok (v := v) dw
  obtain ⟨g0, m1, m2, m3⟩ := measure_nI ok hx hu hd dw dx ha
  have dx0 : DX (g0 d) w := by rw [m3 d hd]; exact dx
  have hsz0 := dx0.2.1
  have e0 : fX6_fewestServing g u d = bX6_fewestServing_18 g0 u d (eW (if w.1 = 0 then 0 else 1000000)) := by
    unfold fX6_fewestServing
    rw [m1, bd_some, hsz0]
    by_cases c : w.1 = 0
    · rw [if_pos (show nI w.1 = 0 by rw [c]; rfl), if_pos c]
      rfl
    · rw [if_neg (show ¬ nI w.1 = 0 from fun q => c ((nI_eq (b := 0) (by omega) (by decide)).mp q)), if_neg c, eW_F]
      rfl
  have efw : fwN (rcn v w) w.1 (hS v) 1 = (if w.1 = 0 then 0 else 1000000) := by
    show fwF (rcn v w) w.1 (hS v) 0 (if w.1 = 0 then 0 else 1000000) = _
    unfold fwF
    rw [if_neg (fun q => q.1 rfl)]
  rw [e0, ← efw]
  unfold bX6_fewestServing_18
  rw [bd_some]
  obtain ⟨x, h1, h2⟩ := iter_loop (step := fun st : Int32 × Int32 × Gs => bX6_fewestServing_32 st.2.2 u d st.1 st.2.1) (fun i st => st.1 = eW (fwN (rcn v w) w.1 (hS v) (i + 1)) ∧ st.2.1 = nI (i + 1) ∧ (∀ o, o ≠ 601 → st.2.2 o = g o) ∧ RX st.2.2 v w ∧ SX st.2.2 (gEr (rcn v w) w.1 (hS v)) (i + 1)) (fun x => x.2 = eW (fwN (rcn v w) w.1 (hS v) (2 ^ hS v)) ∧ (∀ o, o ≠ 601 → x.1 o = g o) ∧ RX x.1 v w ∧ SX x.1 (gEr (rcn v w) w.1 (hS v)) (2 ^ hS v)) (2 ^ hS v - 1) (by
    rintro i ⟨y1, y2, G⟩ hi ⟨b1, b2, a1, a2, a3⟩
    dsimp only at b1 b2 a1 a2 a3
    subst b1
    subst b2
    have hxG : HX (G u) v := by rw [a1 u hu]; exact hx
    have dxG : DX (G d) w := by rw [a1 d hd]; exact dx
    have hszG := dxG.2.1
    have hgl : gEr (rcn v w) w.1 (hS v) (i + 1) ≤ w.1 := gEr_le
    refine ⟨(eW (fwN (rcn v w) w.1 (hS v) (i + 1 + 1)), nI (i + 1 + 1), ug G 601 (sa (G 601) 1 (upd (ga (G 601) 1) (i + 1) (nI (gEr (rcn v w) w.1 (hS v) (i + 1)))))), ?_, rfl, rfl, fun o ho => ?_, fun s k hs hk => ?_, fun t ht => ?_⟩
    · show bX6_fewestServing_32 G u d (eW (fwN (rcn v w) w.1 (hS v) (i + 1))) (nI (i + 1)) = some (.inl (eW (fwF (rcn v w) w.1 (hS v) (i + 1) (fwN (rcn v w) w.1 (hS v) (i + 1))), nI (i + 1 + 1), _))
      have hin := erX_in (d := d) ok hxG dw a2 (T := i + 1) (by omega) (by omega) a3 (eW (fwN (rcn v w) w.1 (hS v) (i + 1)))
      unfold bX6_fewestServing_32
      simp (disch := omega) only [secretSets_nI ok hxG, hszG, bd_some, gd_true, inR_nI, nI_clamp, nI_add, pk_mul, pk_sub, leT, leF, ltT, ltF, eqT, eqF, ite_true, ite_false, reduceIte, nz_nI, oc_s, oc_n, pk_div, pk_rem, m1F, L0, L1, L2, L3, L4, L5, L6, L7, L8, L9, L10, L11, L12, L19, L20, L24, L25, L27, L28, L30, L32, L37, L39, L40, L47, L48, L50, L55, L57, L60, L61, L63, L71, L80, L97, L99, L100, L120, L122, L128, L161, L17, L600, L1000000, L1024, L1408, isB0, isB1, subdm, inT, inFl, inFh]
      refine hin.trans ?_
      exact few102 (by omega) (by omega) rfl (by omega) (fwN_c _ _ _ _)
    · dsimp only
      rw [ug_ne ho]; exact a1 o ho
    · dsimp only
      rw [ug_same, ga_san (by decide)]; exact a2 s k hs hk
    · dsimp only
      rw [ug_same, ga_sae, upd_if]
      by_cases c : t = i + 1
      · rw [if_pos c, c]
      · rw [if_neg c]; exact a3 t (by omega)) (by
    rintro ⟨y1, y2, G⟩ ⟨b1, b2, a1, a2, a3⟩
    dsimp only at b1 b2 a1 a2 a3
    rw [show 2 ^ hS v - 1 + 1 = 2 ^ hS v by omega] at b1 b2 a3
    subst b1
    subst b2
    have hxG : HX (G u) v := by rw [a1 u hu]; exact hx
    refine ⟨(G, eW (fwN (rcn v w) w.1 (hS v) (2 ^ hS v))), ?_, rfl, a1, a2, a3⟩
    show bX6_fewestServing_32 G u d (eW (fwN (rcn v w) w.1 (hS v) (2 ^ hS v))) (nI (2 ^ hS v)) = _
    unfold bX6_fewestServing_32
    simp (disch := omega) only [secretSets_nI ok hxG, bd_some, gd_true, inR_nI, nI_clamp, nI_add, pk_mul, pk_sub, leT, leF, ltT, ltF, eqT, eqF, ite_true, ite_false, reduceIte, nz_nI, oc_s, oc_n, pk_div, pk_rem, m1F, L0, L1, L2, L3, L4, L5, L6, L7, L8, L9, L10, L11, L12, L19, L20, L24, L25, L27, L28, L30, L32, L37, L39, L40, L47, L48, L50, L55, L57, L60, L61, L63, L71, L80, L97, L99, L100, L120, L122, L128, L161, L17, L600, L1000000, L1024, L1408, isB0, isB1, subdm, inT, inFl, inFh]) (s0 := (eW (fwN (rcn v w) w.1 (hS v) 1), (1 : Int32), ug g0 601 (sa (g0 601) 1 (upd (ga (g0 601) 1) (Int32.toNatClampNeg 0) (gi (g0 d) 2))))) ⟨rfl, rfl, fun o ho => (by dsimp only; rw [ug_ne ho]; exact m3 o ho), fun s k hs hk => (by dsimp only; rw [ug_same, ga_san (by decide)]; exact m2 s k hs hk), fun t ht => by
      have : t = 0 := by omega
      subst this
      dsimp only
      rw [ug_same, ga_sae, hsz0]
      rfl⟩
  obtain ⟨x1, x2⟩ := x
  obtain ⟨b0, b1⟩ := h2
  dsimp only at b0 b1
  subst b0
  exact ⟨x1, h1, b1⟩
theorem restX {g : Gs} {v : Hv} {w : Rv} (ok : HvOK v) (dw : DvOK w) (hs : SX g (gEr (rcn v w) w.1 (hS v)) (2 ^ hS v)) {left many : Nat} (hl : left < 2 ^ hS v) (hm : many ≤ 10) : fX6_startOfRest g (nI left) (nI many) (nI (2 ^ hS v)) = some (nI (rsN (rcn v w) w.1 (hS v) left many (2 ^ hS v))) := by
  have hp1 := p1 (hS v)
  have hpS := pS ok
  have h8 := dw.1
  have s0 : ga (g 601) 1 0 = nI w.1 := hs 0 (by omega)
  have e1 : rsN (rcn v w) w.1 (hS v) left many 1 = w.1 := by
    show rsF (rcn v w) w.1 (hS v) left many 0 w.1 = _
    unfold rsF
    rw [if_neg (fun q => q.1 rfl)]
  unfold fX6_startOfRest
  rw [bd_some, show ga (g 601) 1 (Int32.toNatClampNeg 0) = nI w.1 from s0, show (nI w.1, (1 : Int32)) = (fun i => (nI (rsN (rcn v w) w.1 (hS v) left many i), nI i)) 1 by
    show _ = (nI (rsN (rcn v w) w.1 (hS v) left many 1), nI 1)
    rw [e1]
    rfl]
  refine loopA (step := fun st : Int32 × Int32 => bX6_startOfRest_11 g (nI left) (nI many) (nI (2 ^ hS v)) st.1 st.2) (fun i => (nI (rsN (rcn v w) w.1 (hS v) left many i), nI i)) 1 (2 ^ hS v) hp1 (fun i hi1 hi => ?_) ?_
  · show bX6_startOfRest_11 g (nI left) (nI many) (nI (2 ^ hS v)) (nI (rsN (rcn v w) w.1 (hS v) left many i)) (nI i) = some (.inl (nI (rsF (rcn v w) w.1 (hS v) left many i (rsN (rcn v w) w.1 (hS v) left many i)), nI (i + 1)))
    have hle : rsN (rcn v w) w.1 (hS v) left many i ≤ w.1 := rsN_le
    generalize rsN (rcn v w) w.1 (hS v) left many i = a at hle ⊢
    have hg := hs i hi
    have hgl : gEr (rcn v w) w.1 (hS v) i ≤ w.1 := gEr_le
    have hal := andn_le i left
    have hbc := bitCount_nI i (by omega)
    have hpc := pc_le i
    unfold bX6_startOfRest_11 bX6_startOfRest_56 rsF
    by_cases c : andn i left = 0
    · by_cases c2 : a ≤ gEr (rcn v w) w.1 (hS v) i
      · have e : (if i ≠ 0 ∧ andn i left = 0 ∧ pc i ≤ many then min a (gEr (rcn v w) w.1 (hS v) i) else a) = a := by
          split
          · exact Nat.min_eq_left c2
          · rfl
        rw [e]
        simp (disch := omega) only [andn_nI, hg, bd_some, gd_true, inR_nI, nI_clamp, nI_add, pk_mul, pk_sub, leT, leF, ltT, ltF, eqT, eqF, ite_true, ite_false, reduceIte, nz_nI, oc_s, oc_n, pk_div, pk_rem, m1F, L0, L1, L2, L3, L4, L5, L6, L7, L8, L9, L10, L11, L12, L19, L20, L24, L25, L27, L28, L30, L32, L37, L39, L40, L47, L48, L50, L55, L57, L60, L61, L63, L71, L80, L97, L99, L100, L120, L122, L128, L161, L17, L600, L1000000, L1024, L1408, isB0, isB1, subdm, inT, inFl, inFh]
      · by_cases c3 : pc i ≤ many
        · have e : (if i ≠ 0 ∧ andn i left = 0 ∧ pc i ≤ many then min a (gEr (rcn v w) w.1 (hS v) i) else a) = gEr (rcn v w) w.1 (hS v) i := by
            rw [if_pos ⟨by omega, c, c3⟩]
            exact Nat.min_eq_right (by omega)
          rw [e]
          simp (disch := omega) only [andn_nI, hg, hbc, bd_some, gd_true, inR_nI, nI_clamp, nI_add, pk_mul, pk_sub, leT, leF, ltT, ltF, eqT, eqF, ite_true, ite_false, reduceIte, nz_nI, oc_s, oc_n, pk_div, pk_rem, m1F, L0, L1, L2, L3, L4, L5, L6, L7, L8, L9, L10, L11, L12, L19, L20, L24, L25, L27, L28, L30, L32, L37, L39, L40, L47, L48, L50, L55, L57, L60, L61, L63, L71, L80, L97, L99, L100, L120, L122, L128, L161, L17, L600, L1000000, L1024, L1408, isB0, isB1, subdm, inT, inFl, inFh]
        · have e : (if i ≠ 0 ∧ andn i left = 0 ∧ pc i ≤ many then min a (gEr (rcn v w) w.1 (hS v) i) else a) = a := if_neg (fun q => c3 q.2.2)
          rw [e]
          simp (disch := omega) only [andn_nI, hg, hbc, bd_some, gd_true, inR_nI, nI_clamp, nI_add, pk_mul, pk_sub, leT, leF, ltT, ltF, eqT, eqF, ite_true, ite_false, reduceIte, nz_nI, oc_s, oc_n, pk_div, pk_rem, m1F, L0, L1, L2, L3, L4, L5, L6, L7, L8, L9, L10, L11, L12, L19, L20, L24, L25, L27, L28, L30, L32, L37, L39, L40, L47, L48, L50, L55, L57, L60, L61, L63, L71, L80, L97, L99, L100, L120, L122, L128, L161, L17, L600, L1000000, L1024, L1408, isB0, isB1, subdm, inT, inFl, inFh]
    · have e : (if i ≠ 0 ∧ andn i left = 0 ∧ pc i ≤ many then min a (gEr (rcn v w) w.1 (hS v) i) else a) = a := if_neg (fun q => c q.2.1)
      rw [e]
      simp (disch := omega) only [andn_nI, bd_some, gd_true, inR_nI, nI_clamp, nI_add, pk_mul, pk_sub, leT, leF, ltT, ltF, eqT, eqF, ite_true, ite_false, reduceIte, nz_nI, oc_s, oc_n, pk_div, pk_rem, m1F, L0, L1, L2, L3, L4, L5, L6, L7, L8, L9, L10, L11, L12, L19, L20, L24, L25, L27, L28, L30, L32, L37, L39, L40, L47, L48, L50, L55, L57, L60, L61, L63, L71, L80, L97, L99, L100, L120, L122, L128, L161, L17, L600, L1000000, L1024, L1408, isB0, isB1, subdm, inT, inFl, inFh]
  · show bX6_startOfRest_11 g (nI left) (nI many) (nI (2 ^ hS v)) (nI (rsN (rcn v w) w.1 (hS v) left many (2 ^ hS v))) (nI (2 ^ hS v)) = _
    unfold bX6_startOfRest_11
    simp (disch := omega) only [bd_some, gd_true, inR_nI, nI_clamp, nI_add, pk_mul, pk_sub, leT, leF, ltT, ltF, eqT, eqF, ite_true, ite_false, reduceIte, nz_nI, oc_s, oc_n, pk_div, pk_rem, m1F, L0, L1, L2, L3, L4, L5, L6, L7, L8, L9, L10, L11, L12, L19, L20, L24, L25, L27, L28, L30, L32, L37, L39, L40, L47, L48, L50, L55, L57, L60, L61, L63, L71, L80, L97, L99, L100, L120, L122, L128, L161, L17, L600, L1000000, L1024, L1408, isB0, isB1, subdm, inT, inFl, inFh]
    all_goals rfl
