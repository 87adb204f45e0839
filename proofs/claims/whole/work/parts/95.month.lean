theorem si_self (r : Rec) (k : Nat) : si r k (gi r k) = r := by
  unfold si gi
  apply Prod.ext
  · funext j
    by_cases e : j = k
    · subst e; exact if_pos rfl
    · exact if_neg e
  · rfl
/-! what is remembered of the states -/
def rT : Option Nat → (Nat → Nat) → Nat → Nat
  | none, f => f
  | some q, f => fun p => if p = q then f p + 1 else f p
def rD : Option Nat → Nat → Nat
  | none, d => d + 1
  | some _, d => d
def rG (c : Cv) (m n : Nat) : Nat := fo (fun p m => max m (cs c p)) m n
def rU (v : Hv) (c : Cv) (k : Nat) (u : Int32) : Int32 := if u = -nI 1 then (if dq c (hP v) ≤ 1 then u else nI k) else u
def remA (v : Hv) (c : Cv) (k : Nat) (a : Av) : Av := (rT (bst (sg c) (hP v)) a.1, rD (bst (sg c) (hP v)) a.2.1, rU v c k a.2.2.1, rG c a.2.2.2 (hP v))
theorem rG_le {v : Hv} {c : Cv} (ok : HvOK v) (hC : cOK v c) {m : Nat} (hm : m ≤ 60) : ∀ n, n ≤ hP v → rG c m n ≤ 60
  | 0, _ => hm
  | n + 1, h => by
    have hP8 := ok.1
    have h1 := rG_le ok hC hm n (by omega)
    have h2 := (hC.1 n (by omega)).1
    show max (rG c m n) (cs c n) ≤ 60
    omega
theorem cX.acc {g : Gs} {n : Nat} {v : Hv} {c : Cv} {R : Rec} (h : cX g n v c) (hr : gr R = gr (g 1)) (h1 : ga R 1 = ga (g 1) 1) (h2 : ga R 2 = ga (g 1) 2) (h3 : ga R 3 = ga (g 1) 3) (h5 : gi R 5 = gi (g 1) 5) (h6 : gi R 6 = gi (g 1) 6) (h7 : gi R 7 = gi (g 1) 7) : cX (ug g 1 R) n v c :=
  h.put hr (fun p hp => by rw [h1]; exact h.sh hp) (fun p hp => by rw [h2]; exact h.gl hp) (fun p hp => by rw [h3]; exact h.kn hp) (by rw [h5]; exact h.st) (by rw [h6]; exact h.ho) (by rw [h7]; exact h.gv)
theorem rem53 {g : Gs} {n : Nat} {v : Hv} {c : Cv} (ok : HvOK v) (hX : cX g n v c) (hC : cOK v c) {m : Nat} (hm : m ≤ 60) (h11 : gi (g 1) 11 = nI m) : bX0_remember_53 g = some (ug g 1 (si (g 1) 11 (nI (rG c m (hP v))))) := by
  have hP8 := ok.1
  have hn := hX.1
  unfold bX0_remember_53
  have e0 : ((0 : Int32), g) = (fun i => (nI i, ug g 1 (si (g 1) 11 (nI (rG c m i))))) 0 := by
    show _ = (nI 0, ug g 1 (si (g 1) 11 (nI m)))
    rw [← h11, si_self, ug_self]
    rfl
  rw [e0]
  refine loopO (step := fun st : Int32 × Gs => bX0_remember_55 st.2 st.1) (fun i => (nI i, ug g 1 (si (g 1) 11 (nI (rG c m i))))) (hP v) (fun i hi => ?_) ?_
  · show bX0_remember_55 (ug g 1 (si (g 1) 11 (nI (rG c m i)))) (nI i) = some (.inl (nI (i + 1), ug g 1 (si (g 1) 11 (nI (max (rG c m i) (cs c i))))))
    have h1 := rG_le ok hC hm i (by omega)
    have h2 := (hC.1 i (by omega)).1
    have e2 : si (si (g 1) 11 (nI (rG c m i))) 11 (nI (max (rG c m i) (cs c i))) = si (g 1) 11 (nI (max (rG c m i) (cs c i))) := by
      unfold si
      apply Prod.ext
      · funext j
        show (if j = 11 then _ else (if j = 11 then _ else _)) = (if j = 11 then _ else _)
        by_cases e : j = 11
        · rw [if_pos e, if_pos e]
        · rw [if_neg e, if_neg e, if_neg e]
      · rfl
    unfold bX0_remember_55
    simp (disch := omega) only [hX.h, hX.hm, hX.hx.P, hX.sh, mx_nI, e2, bd_some, gd_true, inR_nI, nI_clamp, nI_add, pk_mul, pk_sub, leT, leF, ltT, ltF, eqT, eqF, ite_true, ite_false, reduceIte, nz_nI, oc_s, oc_n, pk_div, pk_rem, m1F, L0, L1, L2, L3, L4, L5, L6, L7, L8, L9, L10, L11, L12, L19, L20, L24, L25, L27, L28, L30, L32, L37, L39, L40, L47, L48, L50, L55, L57, L60, L61, L63, L71, L80, L97, L99, L100, L120, L122, L128, L161, L17, L600, L1000000, L1024, L1408, isB0, isB1, subdm, inT, inFl, inFh, ug_same, ug_ug, ug_ne, ga_sae, ga_san, gi_sie, gi_sin, ga_si, gi_sa, gr_si, gr_sa, ga_sr, gi_sr, gr_sre]
  · show bX0_remember_55 (ug g 1 (si (g 1) 11 (nI (rG c m (hP v))))) (nI (hP v)) = _
    unfold bX0_remember_55
    simp (disch := omega) only [hX.h, hX.hm, hX.hx.P, bd_some, gd_true, inR_nI, nI_clamp, nI_add, pk_mul, pk_sub, leT, leF, ltT, ltF, eqT, eqF, ite_true, ite_false, reduceIte, nz_nI, oc_s, oc_n, pk_div, pk_rem, m1F, L0, L1, L2, L3, L4, L5, L6, L7, L8, L9, L10, L11, L12, L19, L20, L24, L25, L27, L28, L30, L32, L37, L39, L40, L47, L48, L50, L55, L57, L60, L61, L63, L71, L80, L97, L99, L100, L120, L122, L128, L161, L17, L600, L1000000, L1024, L1408, isB0, isB1, subdm, inT, inFl, inFh, ug_same, ug_ug, ug_ne, ga_sae, ga_san, gi_sie, gi_sin, ga_si, gi_sa, gr_si, gr_sa, ga_sr, gi_sr, gr_sre]
    all_goals rfl
theorem rem33 {g : Gs} {n : Nat} {v : Hv} {c : Cv} (ok : HvOK v) (hX : cX g n v c) (hC : cOK v c) {a : Av} (ha : aX g a) (hm : a.2.2.2 ≤ 60) (k : Nat) : ∃ R, bX0_remember_33 g (nI k) = some (ug g 1 R) ∧ cX (ug g 1 R) n v c ∧ aX (ug g 1 R) (a.1, a.2.1, rU v c k a.2.2.1, rG c a.2.2.2 (hP v)) := by
  obtain ⟨h4, h9, h10, h11⟩ := ha
  have base : ∀ u, rU v c k a.2.2.1 = u → (∀ z, bX0_remember_33 g (nI k) = z ↔ bX0_remember_53 (ug g 1 (si (g 1) 10 u)) = z) → ∃ R, bX0_remember_33 g (nI k) = some (ug g 1 R) ∧ cX (ug g 1 R) n v c ∧ aX (ug g 1 R) (a.1, a.2.1, rU v c k a.2.2.1, rG c a.2.2.2 (hP v)) := by
    intro u hu hz
    have hX2 : cX (ug g 1 (si (g 1) 10 u)) n v c := hX.acc rfl rfl rfl rfl rfl rfl rfl
    have e := rem53 ok hX2 hC hm (by rw [ug_same]; exact h11)
    rw [ug_same, ug_ug] at e
    refine ⟨_, (hz _).mpr e, hX.acc rfl rfl rfl rfl rfl rfl rfl, ⟨fun p hp => ?_, ?_, ?_, ?_⟩⟩
    · rw [ug_same]; exact h4 p hp
    · rw [ug_same]; exact h9
    · rw [ug_same]; exact hu.symm
    · rw [ug_same]; rfl
  by_cases c1 : a.2.2.1 = -nI 1
  · by_cases c2 : dq c (hP v) ≤ 1
    · refine base (a.2.2.1) (by unfold rU; rw [if_pos c1, if_pos c2]) (fun z => ?_)
      have e : ug g 1 (si (g 1) 10 a.2.2.1) = g := by rw [← h10, si_self, ug_self]
      rw [e]
      unfold bX0_remember_33
      simp (disch := omega) only [h10, c1, duskX ok hX hC, if_pos c2, bd_some, gd_true, inR_nI, nI_clamp, nI_add, pk_mul, pk_sub, leT, leF, ltT, ltF, eqT, eqF, ite_true, ite_false, reduceIte, nz_nI, oc_s, oc_n, pk_div, pk_rem, m1F, L0, L1, L2, L3, L4, L5, L6, L7, L8, L9, L10, L11, L12, L19, L20, L24, L25, L27, L28, L30, L32, L37, L39, L40, L47, L48, L50, L55, L57, L60, L61, L63, L71, L80, L97, L99, L100, L120, L122, L128, L161, L17, L600, L1000000, L1024, L1408, isB0, isB1, subdm, inT, inFl, inFh]
    · refine base (nI k) (by unfold rU; rw [if_pos c1, if_neg c2]) (fun z => ?_)
      unfold bX0_remember_33
      simp (disch := omega) only [h10, c1, duskX ok hX hC, if_neg c2, bd_some, gd_true, inR_nI, nI_clamp, nI_add, pk_mul, pk_sub, leT, leF, ltT, ltF, eqT, eqF, ite_true, ite_false, reduceIte, nz_nI, oc_s, oc_n, pk_div, pk_rem, m1F, L0, L1, L2, L3, L4, L5, L6, L7, L8, L9, L10, L11, L12, L19, L20, L24, L25, L27, L28, L30, L32, L37, L39, L40, L47, L48, L50, L55, L57, L60, L61, L63, L71, L80, L97, L99, L100, L120, L122, L128, L161, L17, L600, L1000000, L1024, L1408, isB0, isB1, subdm, inT, inFl, inFh]
  · refine base (a.2.2.1) (by unfold rU; rw [if_neg c1]) (fun z => ?_)
    have e : ug g 1 (si (g 1) 10 a.2.2.1) = g := by rw [← h10, si_self, ug_self]
    rw [e]
    unfold bX0_remember_33
    simp (disch := omega) only [h10, c1, bd_some, gd_true, inR_nI, nI_clamp, nI_add, pk_mul, pk_sub, leT, leF, ltT, ltF, eqT, eqF, ite_true, ite_false, reduceIte, nz_nI, oc_s, oc_n, pk_div, pk_rem, m1F, L0, L1, L2, L3, L4, L5, L6, L7, L8, L9, L10, L11, L12, L19, L20, L24, L25, L27, L28, L30, L32, L37, L39, L40, L47, L48, L50, L55, L57, L60, L61, L63, L71, L80, L97, L99, L100, L120, L122, L128, L161, L17, L600, L1000000, L1024, L1408, isB0, isB1, subdm, inT, inFl, inFh]
theorem remember_nI {g : Gs} {n : Nat} {v : Hv} {c : Cv} (ok : HvOK v) (hX : cX g n v c) (hC : cOK v c) {a : Av} (ha : aX g a) (hm : a.2.2.2 ≤ 60) (k : Nat) : ∃ R, fX0_remember g (nI k) = some (ug g 1 R) ∧ cX (ug g 1 R) n v c ∧ aX (ug g 1 R) (remA v c k a) := by
  have hP8 := ok.1
  obtain ⟨h4, h9, h10, h11⟩ := id ha
  have hb := brightest_nI ok hX hC
  unfold fX0_remember remA
  cases e : bst (sg c) (hP v) with
  | none =>
    rw [e] at hb
    have hX2 : cX (ug g 1 (si (g 1) 9 (nI (a.2.1 + 1)))) n v c := hX.acc rfl rfl rfl rfl rfl rfl rfl
    have ha2 : aX (ug g 1 (si (g 1) 9 (nI (a.2.1 + 1)))) (a.1, a.2.1 + 1, a.2.2.1, a.2.2.2) := by
      unfold aX
      rw [ug_same]
      exact ⟨h4, rfl, h10, h11⟩
    obtain ⟨R, q1, q2, q3⟩ := rem33 ok hX2 hC ha2 hm k
    rw [ug_ug] at q1 q2 q3
    refine ⟨R, ?_, q2, q3⟩
    simp (disch := omega) only [hb, eO, h9, q1, bd_some, gd_true, inR_nI, nI_clamp, nI_add, pk_mul, pk_sub, leT, leF, ltT, ltF, eqT, eqF, ite_true, ite_false, reduceIte, nz_nI, oc_s, oc_n, pk_div, pk_rem, m1F, L0, L1, L2, L3, L4, L5, L6, L7, L8, L9, L10, L11, L12, L19, L20, L24, L25, L27, L28, L30, L32, L37, L39, L40, L47, L48, L50, L55, L57, L60, L61, L63, L71, L80, L97, L99, L100, L120, L122, L128, L161, L17, L600, L1000000, L1024, L1408, isB0, isB1, subdm, inT, inFl, inFh]
  | some q =>
    rw [e] at hb
    have hq := bst_lt e
    have hX2 : cX (ug g 1 (sa (g 1) 4 (upd (ga (g 1) 4) q (nI (a.1 q + 1))))) n v c := hX.acc rfl rfl rfl rfl rfl rfl rfl
    have ha2 : aX (ug g 1 (sa (g 1) 4 (upd (ga (g 1) 4) q (nI (a.1 q + 1))))) (rT (some q) a.1, a.2.1, a.2.2.1, a.2.2.2) := by
      unfold aX
      rw [ug_same]
      refine ⟨fun p hp => ?_, h9, h10, h11⟩
      show upd (ga (g 1) 4) q (nI (a.1 q + 1)) p = nI (if p = q then a.1 p + 1 else a.1 p)
      rw [upd_if]
      by_cases e : p = q
      · rw [if_pos e, if_pos e, e]
      · rw [if_neg e, if_neg e]; exact h4 p hp
    obtain ⟨R, q1, q2, q3⟩ := rem33 ok hX2 hC ha2 hm k
    rw [ug_ug] at q1 q2 q3
    refine ⟨R, ?_, q2, q3⟩
    have h4q := h4 q (by omega)
    simp (disch := omega) only [hb, eO, h4q, q1, bd_some, gd_true, inR_nI, nI_clamp, nI_add, pk_mul, pk_sub, leT, leF, ltT, ltF, eqT, eqF, ite_true, ite_false, reduceIte, nz_nI, oc_s, oc_n, pk_div, pk_rem, m1F, L0, L1, L2, L3, L4, L5, L6, L7, L8, L9, L10, L11, L12, L19, L20, L24, L25, L27, L28, L30, L32, L37, L39, L40, L47, L48, L50, L55, L57, L60, L61, L63, L71, L80, L97, L99, L100, L120, L122, L128, L161, L17, L600, L1000000, L1024, L1408, isB0, isB1, subdm, inT, inFl, inFh]
/-! a month, both ways -/
theorem Co.acc {g : Gs} {r : Rec} {n : Nat} {v : Hv} {c : Cv} {g' : Gs} (h : Co g r n v c) (h2 : cX g' n v c) : Co g' r n v c := ⟨h2, h.2⟩
theorem Mo.size {g : Gs} {r : Rec} {m : Nat} {w : Rv} (h : Mo g r m w) : gi (g (500 + m)) 2 = nI w.1 := h.2.2.1.2.1
theorem FrX.aX {g g' : Gs} {a : Av} (h : FrX g g') (ha : aX g a) : aX g' a := ⟨fun p hp => by rw [h.2.2.1]; exact ha.1 p hp, by rw [h.2.2.2 9 (by decide)]; exact ha.2.1, by rw [h.2.2.2 10 (by decide)]; exact ha.2.2.1, by rw [h.2.2.2 11 (by decide)]; exact ha.2.2.2⟩
theorem fp_loop {n m N : Nat} {v : Hv} {w : Rv} (ok : HvOK v) (hN : N ≤ w.1) : ∀ d k g r c a, k + d = N → Co g r n v c → Mo g r m w → aX g a → a.2.2.2 ≤ 60 → ∃ g' r' mm c', iter (fun st : Int32 × Gs => bX0_follow_13 st.2 (500 + m) (nI N) st.1) (nI k, g) = some (g', nI mm) ∧ iter (fun st : Int32 × Rec => bX10_play_6 st.2 (nI N) st.1) (nI k, r) = some (r', nI mm) ∧ mm ≤ N ∧ Co g' r' n v c' ∧ (∀ o, o ≠ 1 → g' o = g o) ∧ FrM r r' := by
  intro d
  induction d with
  | zero =>
    intro k g r c a hk hco hmo ha hm
    have : k = N := by omega
    subst this
    have h40 := hmo.2.1.1
    refine ⟨g, r, k, c, ?_, ?_, Nat.le_refl _, hco, fun _ _ => rfl, FrM.rf r⟩
    · refine iter_end ?_
      show bX0_follow_13 g (500 + m) (nI k) (nI k) = _
      unfold bX0_follow_13 bX0_follow_80
      simp (disch := omega) only [hmo.size, mn_nI, Nat.min_eq_left, bd_some, gd_true, inR_nI, nI_clamp, nI_add, pk_mul, pk_sub, leT, leF, ltT, ltF, eqT, eqF, ite_true, ite_false, reduceIte, nz_nI, oc_s, oc_n, pk_div, pk_rem, m1F, L0, L1, L2, L3, L4, L5, L6, L7, L8, L9, L10, L11, L12, L19, L20, L24, L25, L27, L28, L30, L32, L37, L39, L40, L47, L48, L50, L55, L57, L60, L61, L63, L71, L80, L97, L99, L100, L120, L122, L128, L161, L17, L600, L1000000, L1024, L1408, isB0, isB1, subdm, inT, inFl, inFh]
      rfl
    · refine iter_end ?_
      show bX10_play_6 r (nI k) (nI k) = _
      unfold bX10_play_6
      simp (disch := omega) only [bd_some, gd_true, inR_nI, nI_clamp, nI_add, pk_mul, pk_sub, leT, leF, ltT, ltF, eqT, eqF, ite_true, ite_false, reduceIte, nz_nI, oc_s, oc_n, pk_div, pk_rem, m1F, L0, L1, L2, L3, L4, L5, L6, L7, L8, L9, L10, L11, L12, L19, L20, L24, L25, L27, L28, L30, L32, L37, L39, L40, L47, L48, L50, L55, L57, L60, L61, L63, L71, L80, L97, L99, L100, L120, L122, L128, L161, L17, L600, L1000000, L1024, L1408, isB0, isB1, subdm, inT, inFl, inFh]
  | succ d ih =>
    intro k g r c a hk hco hmo ha hm
    have h40 := hmo.2.1.1
    have hkw : k < w.1 := by omega
    obtain ⟨g', r', b, c', s1, s2, s3, s4, s5, s6⟩ := deed_step ok hco hmo hkw
    have c0 := hmo.cell hkw (c := 0) (by decide)
    have c1 := hmo.cell hkw (c := 1) (by decide)
    have c2 := hmo.cell hkw (c := 2) (by decide)
    have c3 := hmo.cell hkw (c := 3) (by decide)
    rw [c0, bd_some, c1, bd_some, c2, bd_some, c3, bd_some] at s1
    rcases s3 with rfl | rfl
    · refine ⟨g', r', k, c', ?_, ?_, by omega, s4, s5.1, s6⟩
      · refine iter_end ?_
        show bX0_follow_13 g (500 + m) (nI N) (nI k) = _
        unfold bX0_follow_13
        simp (disch := omega) only [hmo.size, bd_some, gd_true, inR_nI, nI_clamp, nI_add, pk_mul, pk_sub, leT, leF, ltT, ltF, eqT, eqF, ite_true, ite_false, reduceIte, nz_nI, oc_s, oc_n, pk_div, pk_rem, m1F, L0, L1, L2, L3, L4, L5, L6, L7, L8, L9, L10, L11, L12, L19, L20, L24, L25, L27, L28, L30, L32, L37, L39, L40, L47, L48, L50, L55, L57, L60, L61, L63, L71, L80, L97, L99, L100, L120, L122, L128, L161, L17, L600, L1000000, L1024, L1408, isB0, isB1, subdm, inT, inFl, inFh]
        rw [c0, bd_some, c1, bd_some, c2, bd_some, c3, bd_some, s1, bd_some]
        simp (disch := omega) only [bd_some, gd_true, inR_nI, nI_clamp, nI_add, pk_mul, pk_sub, leT, leF, ltT, ltF, eqT, eqF, ite_true, ite_false, reduceIte, nz_nI, oc_s, oc_n, pk_div, pk_rem, m1F, L0, L1, L2, L3, L4, L5, L6, L7, L8, L9, L10, L11, L12, L19, L20, L24, L25, L27, L28, L30, L32, L37, L39, L40, L47, L48, L50, L55, L57, L60, L61, L63, L71, L80, L97, L99, L100, L120, L122, L128, L161, L17, L600, L1000000, L1024, L1408, isB0, isB1, subdm, inT, inFl, inFh]
      · refine iter_end ?_
        show bX10_play_6 r (nI N) (nI k) = _
        unfold bX10_play_6
        simp (disch := omega) only [s2, bd_some, gd_true, inR_nI, nI_clamp, nI_add, pk_mul, pk_sub, leT, leF, ltT, ltF, eqT, eqF, ite_true, ite_false, reduceIte, nz_nI, oc_s, oc_n, pk_div, pk_rem, m1F, L0, L1, L2, L3, L4, L5, L6, L7, L8, L9, L10, L11, L12, L19, L20, L24, L25, L27, L28, L30, L32, L37, L39, L40, L47, L48, L50, L55, L57, L60, L61, L63, L71, L80, L97, L99, L100, L120, L122, L128, L161, L17, L600, L1000000, L1024, L1408, isB0, isB1, subdm, inT, inFl, inFh]
    · obtain ⟨R, q1, q2, q3⟩ := remember_nI ok s4.1 s4.2.2 (s5.aX ha) hm (k + 1)
      have hmo2 : Mo (ug g' 1 R) r' m w := hmo.step (fun o ho => by rw [ug_ne ho]; exact s5.1 o ho) s6
      obtain ⟨g2, r2, mm, c2', i1, i2, i3, i4, i5, i6⟩ := ih (k + 1) (ug g' 1 R) r' c' _ (by omega) (s4.acc q2) hmo2 q3 (rG_le ok s4.2.2 hm _ (Nat.le_refl _))
      refine ⟨g2, r2, mm, c2', ?_, ?_, i3, i4, fun o ho => by rw [i5 o ho, ug_ne ho]; exact s5.1 o ho, s6.tr i6⟩
      · rw [iter_step (s := (nI k, g)) (s' := (nI (k + 1), ug g' 1 R)) (by
          show bX0_follow_13 g (500 + m) (nI N) (nI k) = _
          unfold bX0_follow_13
          simp (disch := omega) only [hmo.size, bd_some, gd_true, inR_nI, nI_clamp, nI_add, pk_mul, pk_sub, leT, leF, ltT, ltF, eqT, eqF, ite_true, ite_false, reduceIte, nz_nI, oc_s, oc_n, pk_div, pk_rem, m1F, L0, L1, L2, L3, L4, L5, L6, L7, L8, L9, L10, L11, L12, L19, L20, L24, L25, L27, L28, L30, L32, L37, L39, L40, L47, L48, L50, L55, L57, L60, L61, L63, L71, L80, L97, L99, L100, L120, L122, L128, L161, L17, L600, L1000000, L1024, L1408, isB0, isB1, subdm, inT, inFl, inFh]
          rw [c0, bd_some, c1, bd_some, c2, bd_some, c3, bd_some, s1, bd_some]
          simp (disch := omega) only [q1, bd_some, gd_true, inR_nI, nI_clamp, nI_add, pk_mul, pk_sub, leT, leF, ltT, ltF, eqT, eqF, ite_true, ite_false, reduceIte, nz_nI, oc_s, oc_n, pk_div, pk_rem, m1F, L0, L1, L2, L3, L4, L5, L6, L7, L8, L9, L10, L11, L12, L19, L20, L24, L25, L27, L28, L30, L32, L37, L39, L40, L47, L48, L50, L55, L57, L60, L61, L63, L71, L80, L97, L99, L100, L120, L122, L128, L161, L17, L600, L1000000, L1024, L1408, isB0, isB1, subdm, inT, inFl, inFh])]
        exact i1
      · rw [iter_step (s := (nI k, r)) (s' := (nI (k + 1), r')) (by
          show bX10_play_6 r (nI N) (nI k) = _
          unfold bX10_play_6
          simp (disch := omega) only [s2, bd_some, gd_true, inR_nI, nI_clamp, nI_add, pk_mul, pk_sub, leT, leF, ltT, ltF, eqT, eqF, ite_true, ite_false, reduceIte, nz_nI, oc_s, oc_n, pk_div, pk_rem, m1F, L0, L1, L2, L3, L4, L5, L6, L7, L8, L9, L10, L11, L12, L19, L20, L24, L25, L27, L28, L30, L32, L37, L39, L40, L47, L48, L50, L55, L57, L60, L61, L63, L71, L80, L97, L99, L100, L120, L122, L128, L161, L17, L600, L1000000, L1024, L1408, isB0, isB1, subdm, inT, inFl, inFh])]
        exact i2
theorem follow_play {g : Gs} {r : Rec} {n m N : Nat} {v : Hv} {w : Rv} (ok : HvOK v) (hx : HX (g (200 + n)) v) (hd : Hd r n v) (hmo : Mo g r m w) (hN : N ≤ w.1) : ∃ g' r' mm c', fX0_follow g (200 + n) (500 + m) (nI N) = some (g', nI mm) ∧ fX10_play r (nI N) = some (r', nI mm) ∧ mm ≤ N ∧ Co g' r' n v c' ∧ (∀ o, o ≠ 1 → g' o = g o) ∧ FrM r r' := by
  have hn := hd.1
  obtain ⟨R, b1, b2, b3⟩ := begX hn hx
  obtain ⟨r1, e1, e2, e3⟩ := begM hd
  obtain ⟨R2, q1, q2, q3⟩ := remember_nI ok b2 (begC_OK ok) b3 (by show 0 ≤ 60; omega) 0
  rw [ug_ug] at q1 q2 q3
  have hmo2 : Mo (ug g 1 R2) r1 m w := hmo.step (fun o ho => ug_ne ho) e3
  obtain ⟨g2, r2, mm, c2', i1, i2, i3, i4, i5, i6⟩ := fp_loop (N := N) ok hN N 0 (ug g 1 R2) r1 (begC v) _ (by omega) ⟨q2, e2, begC_OK ok⟩ hmo2 q3 (rG_le ok (begC_OK ok) (by show 0 ≤ 60; omega) _ (Nat.le_refl _))
  refine ⟨g2, r2, mm, c2', ?_, ?_, i3, i4, fun o ho => by rw [i5 o ho, ug_ne ho], e3.tr i6⟩
  · unfold fX0_follow
    rw [b1, bd_some, L0, q1, bd_some]
    exact i1
  · unfold fX10_play
    rw [e1, bd_some]
    exact i2
/-! what is seen of a state -/
theorem neF {x : Int32} {k : Nat} (h : x < 0) (hk : k < 2 ^ 31) : (x = nI k) = False := eq_false (fun e => by rw [e] at h; exact nI_nlt0 hk h)
theorem look_eq {g : Gs} {r : Rec} {n : Nat} {v : Hv} {c : Cv} (ok : HvOK v) (h : Co g r n v c) (x : Int32) : ∃ y, fX0_look g x = some y ∧ fX10_ofState r x = some y := by
  obtain ⟨hX, hM, hC⟩ := id h
  have hP8 := ok.1
  unfold fX0_look fX10_ofState fX0_lookAt fX2_hasPiece
  rcases i32_cases x with k | ⟨m, hm, rfl⟩
  · refine ⟨-2, ?_, ?_⟩
    · simp (disch := omega) only [neF k, neg1 k, bd_some, gd_true, inR_nI, nI_clamp, nI_add, pk_mul, pk_sub, leT, leF, ltT, ltF, eqT, eqF, ite_true, ite_false, reduceIte, nz_nI, oc_s, oc_n, pk_div, pk_rem, m1F, L0, L1, L2, L3, L4, L5, L6, L7, L8, L9, L10, L11, L12, L19, L20, L24, L25, L27, L28, L30, L32, L37, L39, L40, L47, L48, L50, L55, L57, L60, L61, L63, L71, L80, L97, L99, L100, L120, L122, L128, L161, L17, L600, L1000000, L1024, L1408, isB0, isB1, subdm, inT, inFl, inFh]
    · simp (disch := omega) only [in_neg k, neF k, bd_some, gd_true, inR_nI, nI_clamp, nI_add, pk_mul, pk_sub, leT, leF, ltT, ltF, eqT, eqF, ite_true, ite_false, reduceIte, nz_nI, oc_s, oc_n, pk_div, pk_rem, m1F, L0, L1, L2, L3, L4, L5, L6, L7, L8, L9, L10, L11, L12, L19, L20, L24, L25, L27, L28, L30, L32, L37, L39, L40, L47, L48, L50, L55, L57, L60, L61, L63, L71, L80, L97, L99, L100, L120, L122, L128, L161, L17, L600, L1000000, L1024, L1408, isB0, isB1, subdm, inT, inFl, inFh]
  · by_cases c10 : m < 10
    · by_cases c0 : m = 0
      · exact ⟨nI (ch c), by simp (disch := omega) only [hX.ho, bd_some, gd_true, inR_nI, nI_clamp, nI_add, pk_mul, pk_sub, leT, leF, ltT, ltF, eqT, eqF, ite_true, ite_false, reduceIte, nz_nI, oc_s, oc_n, pk_div, pk_rem, m1F, L0, L1, L2, L3, L4, L5, L6, L7, L8, L9, L10, L11, L12, L19, L20, L24, L25, L27, L28, L30, L32, L37, L39, L40, L47, L48, L50, L55, L57, L60, L61, L63, L71, L80, L97, L99, L100, L120, L122, L128, L161, L17, L600, L1000000, L1024, L1408, isB0, isB1, subdm, inT, inFl, inFh], by simp (disch := omega) only [hM.ho, bd_some, gd_true, inR_nI, nI_clamp, nI_add, pk_mul, pk_sub, leT, leF, ltT, ltF, eqT, eqF, ite_true, ite_false, reduceIte, nz_nI, oc_s, oc_n, pk_div, pk_rem, m1F, L0, L1, L2, L3, L4, L5, L6, L7, L8, L9, L10, L11, L12, L19, L20, L24, L25, L27, L28, L30, L32, L37, L39, L40, L47, L48, L50, L55, L57, L60, L61, L63, L71, L80, L97, L99, L100, L120, L122, L128, L161, L17, L600, L1000000, L1024, L1408, isB0, isB1, subdm, inT, inFl, inFh]⟩
      · by_cases c1 : m = 1
        · exact ⟨eO (bst (sg c) (hP v)), by simp (disch := omega) only [brightest_nI ok hX hC, bd_some, gd_true, inR_nI, nI_clamp, nI_add, pk_mul, pk_sub, leT, leF, ltT, ltF, eqT, eqF, ite_true, ite_false, reduceIte, nz_nI, oc_s, oc_n, pk_div, pk_rem, m1F, L0, L1, L2, L3, L4, L5, L6, L7, L8, L9, L10, L11, L12, L19, L20, L24, L25, L27, L28, L30, L32, L37, L39, L40, L47, L48, L50, L55, L57, L60, L61, L63, L71, L80, L97, L99, L100, L120, L122, L128, L161, L17, L600, L1000000, L1024, L1408, isB0, isB1, subdm, inT, inFl, inFh], by simp (disch := omega) only [bright_nI ok hM hC, bd_some, gd_true, inR_nI, nI_clamp, nI_add, pk_mul, pk_sub, leT, leF, ltT, ltF, eqT, eqF, ite_true, ite_false, reduceIte, nz_nI, oc_s, oc_n, pk_div, pk_rem, m1F, L0, L1, L2, L3, L4, L5, L6, L7, L8, L9, L10, L11, L12, L19, L20, L24, L25, L27, L28, L30, L32, L37, L39, L40, L47, L48, L50, L55, L57, L60, L61, L63, L71, L80, L97, L99, L100, L120, L122, L128, L161, L17, L600, L1000000, L1024, L1408, isB0, isB1, subdm, inT, inFl, inFh]⟩
        · by_cases c2 : m = 2
          · by_cases cd : dq c (hP v) ≤ 1
            · exact ⟨nI 0, by simp (disch := omega) only [duskX ok hX hC, if_pos cd, bd_some, gd_true, inR_nI, nI_clamp, nI_add, pk_mul, pk_sub, leT, leF, ltT, ltF, eqT, eqF, ite_true, ite_false, reduceIte, nz_nI, oc_s, oc_n, pk_div, pk_rem, m1F, L0, L1, L2, L3, L4, L5, L6, L7, L8, L9, L10, L11, L12, L19, L20, L24, L25, L27, L28, L30, L32, L37, L39, L40, L47, L48, L50, L55, L57, L60, L61, L63, L71, L80, L97, L99, L100, L120, L122, L128, L161, L17, L600, L1000000, L1024, L1408, isB0, isB1, subdm, inT, inFl, inFh], by simp (disch := omega) only [duskM ok hM hC, if_pos cd, bd_some, gd_true, inR_nI, nI_clamp, nI_add, pk_mul, pk_sub, leT, leF, ltT, ltF, eqT, eqF, ite_true, ite_false, reduceIte, nz_nI, oc_s, oc_n, pk_div, pk_rem, m1F, L0, L1, L2, L3, L4, L5, L6, L7, L8, L9, L10, L11, L12, L19, L20, L24, L25, L27, L28, L30, L32, L37, L39, L40, L47, L48, L50, L55, L57, L60, L61, L63, L71, L80, L97, L99, L100, L120, L122, L128, L161, L17, L600, L1000000, L1024, L1408, isB0, isB1, subdm, inT, inFl, inFh]⟩
            · exact ⟨nI 1, by simp (disch := omega) only [duskX ok hX hC, if_neg cd, bd_some, gd_true, inR_nI, nI_clamp, nI_add, pk_mul, pk_sub, leT, leF, ltT, ltF, eqT, eqF, ite_true, ite_false, reduceIte, nz_nI, oc_s, oc_n, pk_div, pk_rem, m1F, L0, L1, L2, L3, L4, L5, L6, L7, L8, L9, L10, L11, L12, L19, L20, L24, L25, L27, L28, L30, L32, L37, L39, L40, L47, L48, L50, L55, L57, L60, L61, L63, L71, L80, L97, L99, L100, L120, L122, L128, L161, L17, L600, L1000000, L1024, L1408, isB0, isB1, subdm, inT, inFl, inFh], by simp (disch := omega) only [duskM ok hM hC, if_neg cd, bd_some, gd_true, inR_nI, nI_clamp, nI_add, pk_mul, pk_sub, leT, leF, ltT, ltF, eqT, eqF, ite_true, ite_false, reduceIte, nz_nI, oc_s, oc_n, pk_div, pk_rem, m1F, L0, L1, L2, L3, L4, L5, L6, L7, L8, L9, L10, L11, L12, L19, L20, L24, L25, L27, L28, L30, L32, L37, L39, L40, L47, L48, L50, L55, L57, L60, L61, L63, L71, L80, L97, L99, L100, L120, L122, L128, L161, L17, L600, L1000000, L1024, L1408, isB0, isB1, subdm, inT, inFl, inFh]⟩
          · by_cases c3 : m = 3
            · exact ⟨nI (ct c), by simp (disch := omega) only [hX.st, bd_some, gd_true, inR_nI, nI_clamp, nI_add, pk_mul, pk_sub, leT, leF, ltT, ltF, eqT, eqF, ite_true, ite_false, reduceIte, nz_nI, oc_s, oc_n, pk_div, pk_rem, m1F, L0, L1, L2, L3, L4, L5, L6, L7, L8, L9, L10, L11, L12, L19, L20, L24, L25, L27, L28, L30, L32, L37, L39, L40, L47, L48, L50, L55, L57, L60, L61, L63, L71, L80, L97, L99, L100, L120, L122, L128, L161, L17, L600, L1000000, L1024, L1408, isB0, isB1, subdm, inT, inFl, inFh], by simp (disch := omega) only [hM.st, bd_some, gd_true, inR_nI, nI_clamp, nI_add, pk_mul, pk_sub, leT, leF, ltT, ltF, eqT, eqF, ite_true, ite_false, reduceIte, nz_nI, oc_s, oc_n, pk_div, pk_rem, m1F, L0, L1, L2, L3, L4, L5, L6, L7, L8, L9, L10, L11, L12, L19, L20, L24, L25, L27, L28, L30, L32, L37, L39, L40, L47, L48, L50, L55, L57, L60, L61, L63, L71, L80, L97, L99, L100, L120, L122, L128, L161, L17, L600, L1000000, L1024, L1408, isB0, isB1, subdm, inT, inFl, inFh]⟩
            · by_cases c4 : m = 4
              · exact ⟨cv c, by simp (disch := omega) only [hX.gv, bd_some, gd_true, inR_nI, nI_clamp, nI_add, pk_mul, pk_sub, leT, leF, ltT, ltF, eqT, eqF, ite_true, ite_false, reduceIte, nz_nI, oc_s, oc_n, pk_div, pk_rem, m1F, L0, L1, L2, L3, L4, L5, L6, L7, L8, L9, L10, L11, L12, L19, L20, L24, L25, L27, L28, L30, L32, L37, L39, L40, L47, L48, L50, L55, L57, L60, L61, L63, L71, L80, L97, L99, L100, L120, L122, L128, L161, L17, L600, L1000000, L1024, L1408, isB0, isB1, subdm, inT, inFl, inFh], by simp (disch := omega) only [hM.gv, bd_some, gd_true, inR_nI, nI_clamp, nI_add, pk_mul, pk_sub, leT, leF, ltT, ltF, eqT, eqF, ite_true, ite_false, reduceIte, nz_nI, oc_s, oc_n, pk_div, pk_rem, m1F, L0, L1, L2, L3, L4, L5, L6, L7, L8, L9, L10, L11, L12, L19, L20, L24, L25, L27, L28, L30, L32, L37, L39, L40, L47, L48, L50, L55, L57, L60, L61, L63, L71, L80, L97, L99, L100, L120, L122, L128, L161, L17, L600, L1000000, L1024, L1408, isB0, isB1, subdm, inT, inFl, inFh]⟩
              · exact ⟨-2, by simp (disch := omega) only [bd_some, gd_true, inR_nI, nI_clamp, nI_add, pk_mul, pk_sub, leT, leF, ltT, ltF, eqT, eqF, ite_true, ite_false, reduceIte, nz_nI, oc_s, oc_n, pk_div, pk_rem, m1F, L0, L1, L2, L3, L4, L5, L6, L7, L8, L9, L10, L11, L12, L19, L20, L24, L25, L27, L28, L30, L32, L37, L39, L40, L47, L48, L50, L55, L57, L60, L61, L63, L71, L80, L97, L99, L100, L120, L122, L128, L161, L17, L600, L1000000, L1024, L1408, isB0, isB1, subdm, inT, inFl, inFh], by simp (disch := omega) only [bd_some, gd_true, inR_nI, nI_clamp, nI_add, pk_mul, pk_sub, leT, leF, ltT, ltF, eqT, eqF, ite_true, ite_false, reduceIte, nz_nI, oc_s, oc_n, pk_div, pk_rem, m1F, L0, L1, L2, L3, L4, L5, L6, L7, L8, L9, L10, L11, L12, L19, L20, L24, L25, L27, L28, L30, L32, L37, L39, L40, L47, L48, L50, L55, L57, L60, L61, L63, L71, L80, L97, L99, L100, L120, L122, L128, L161, L17, L600, L1000000, L1024, L1408, isB0, isB1, subdm, inT, inFl, inFh]⟩
    · have hq : m / 10 ≤ m := Nat.div_le_self _ _
      have hr : m % 10 < 10 := Nat.mod_lt _ (by decide)
      by_cases cp : m % 10 < hP v
      · by_cases c20 : m < 20
        · exact ⟨nI (cs c (m % 10)), by simp (disch := omega) only [hX.h, hX.hm, hX.hx.P, show m / 10 = 1 by omega, show m - 1 * 10 = m % 10 by omega, hX.sh, bd_some, gd_true, inR_nI, nI_clamp, nI_add, pk_mul, pk_sub, leT, leF, ltT, ltF, eqT, eqF, ite_true, ite_false, reduceIte, nz_nI, oc_s, oc_n, pk_div, pk_rem, m1F, L0, L1, L2, L3, L4, L5, L6, L7, L8, L9, L10, L11, L12, L19, L20, L24, L25, L27, L28, L30, L32, L37, L39, L40, L47, L48, L50, L55, L57, L60, L61, L63, L71, L80, L97, L99, L100, L120, L122, L128, L161, L17, L600, L1000000, L1024, L1408, isB0, isB1, subdm, inT, inFl, inFh], by simp (disch := omega) only [hM.P, hM.sh, bd_some, gd_true, inR_nI, nI_clamp, nI_add, pk_mul, pk_sub, leT, leF, ltT, ltF, eqT, eqF, ite_true, ite_false, reduceIte, nz_nI, oc_s, oc_n, pk_div, pk_rem, m1F, L0, L1, L2, L3, L4, L5, L6, L7, L8, L9, L10, L11, L12, L19, L20, L24, L25, L27, L28, L30, L32, L37, L39, L40, L47, L48, L50, L55, L57, L60, L61, L63, L71, L80, L97, L99, L100, L120, L122, L128, L161, L17, L600, L1000000, L1024, L1408, isB0, isB1, subdm, inT, inFl, inFh]⟩
        · by_cases c30 : m < 30
          · exact ⟨nI (cg c (m % 10)), by simp (disch := omega) only [hX.h, hX.hm, hX.hx.P, show m / 10 = 2 by omega, show m - 2 * 10 = m % 10 by omega, hX.gl, bd_some, gd_true, inR_nI, nI_clamp, nI_add, pk_mul, pk_sub, leT, leF, ltT, ltF, eqT, eqF, ite_true, ite_false, reduceIte, nz_nI, oc_s, oc_n, pk_div, pk_rem, m1F, L0, L1, L2, L3, L4, L5, L6, L7, L8, L9, L10, L11, L12, L19, L20, L24, L25, L27, L28, L30, L32, L37, L39, L40, L47, L48, L50, L55, L57, L60, L61, L63, L71, L80, L97, L99, L100, L120, L122, L128, L161, L17, L600, L1000000, L1024, L1408, isB0, isB1, subdm, inT, inFl, inFh], by simp (disch := omega) only [hM.P, hM.gl, bd_some, gd_true, inR_nI, nI_clamp, nI_add, pk_mul, pk_sub, leT, leF, ltT, ltF, eqT, eqF, ite_true, ite_false, reduceIte, nz_nI, oc_s, oc_n, pk_div, pk_rem, m1F, L0, L1, L2, L3, L4, L5, L6, L7, L8, L9, L10, L11, L12, L19, L20, L24, L25, L27, L28, L30, L32, L37, L39, L40, L47, L48, L50, L55, L57, L60, L61, L63, L71, L80, L97, L99, L100, L120, L122, L128, L161, L17, L600, L1000000, L1024, L1408, isB0, isB1, subdm, inT, inFl, inFh]⟩
          · by_cases c40 : m < 40
            · exact ⟨nI (ck c (m % 10)), by simp (disch := omega) only [hX.h, hX.hm, hX.hx.P, show m / 10 = 3 by omega, show m - 3 * 10 = m % 10 by omega, hX.kn, bd_some, gd_true, inR_nI, nI_clamp, nI_add, pk_mul, pk_sub, leT, leF, ltT, ltF, eqT, eqF, ite_true, ite_false, reduceIte, nz_nI, oc_s, oc_n, pk_div, pk_rem, m1F, L0, L1, L2, L3, L4, L5, L6, L7, L8, L9, L10, L11, L12, L19, L20, L24, L25, L27, L28, L30, L32, L37, L39, L40, L47, L48, L50, L55, L57, L60, L61, L63, L71, L80, L97, L99, L100, L120, L122, L128, L161, L17, L600, L1000000, L1024, L1408, isB0, isB1, subdm, inT, inFl, inFh], by simp (disch := omega) only [hM.P, hM.kn, bd_some, gd_true, inR_nI, nI_clamp, nI_add, pk_mul, pk_sub, leT, leF, ltT, ltF, eqT, eqF, ite_true, ite_false, reduceIte, nz_nI, oc_s, oc_n, pk_div, pk_rem, m1F, L0, L1, L2, L3, L4, L5, L6, L7, L8, L9, L10, L11, L12, L19, L20, L24, L25, L27, L28, L30, L32, L37, L39, L40, L47, L48, L50, L55, L57, L60, L61, L63, L71, L80, L97, L99, L100, L120, L122, L128, L161, L17, L600, L1000000, L1024, L1408, isB0, isB1, subdm, inT, inFl, inFh]⟩
            · exact ⟨-2, by simp (disch := omega) only [hX.h, hX.hm, hX.hx.P, bd_some, gd_true, inR_nI, nI_clamp, nI_add, pk_mul, pk_sub, leT, leF, ltT, ltF, eqT, eqF, ite_true, ite_false, reduceIte, nz_nI, oc_s, oc_n, pk_div, pk_rem, m1F, L0, L1, L2, L3, L4, L5, L6, L7, L8, L9, L10, L11, L12, L19, L20, L24, L25, L27, L28, L30, L32, L37, L39, L40, L47, L48, L50, L55, L57, L60, L61, L63, L71, L80, L97, L99, L100, L120, L122, L128, L161, L17, L600, L1000000, L1024, L1408, isB0, isB1, subdm, inT, inFl, inFh], by simp (disch := omega) only [bd_some, gd_true, inR_nI, nI_clamp, nI_add, pk_mul, pk_sub, leT, leF, ltT, ltF, eqT, eqF, ite_true, ite_false, reduceIte, nz_nI, oc_s, oc_n, pk_div, pk_rem, m1F, L0, L1, L2, L3, L4, L5, L6, L7, L8, L9, L10, L11, L12, L19, L20, L24, L25, L27, L28, L30, L32, L37, L39, L40, L47, L48, L50, L55, L57, L60, L61, L63, L71, L80, L97, L99, L100, L120, L122, L128, L161, L17, L600, L1000000, L1024, L1408, isB0, isB1, subdm, inT, inFl, inFh]⟩
      · by_cases c40 : m < 40
        · exact ⟨-2, by simp (disch := omega) only [hX.h, hX.hm, hX.hx.P, bd_some, gd_true, inR_nI, nI_clamp, nI_add, pk_mul, pk_sub, leT, leF, ltT, ltF, eqT, eqF, ite_true, ite_false, reduceIte, nz_nI, oc_s, oc_n, pk_div, pk_rem, m1F, L0, L1, L2, L3, L4, L5, L6, L7, L8, L9, L10, L11, L12, L19, L20, L24, L25, L27, L28, L30, L32, L37, L39, L40, L47, L48, L50, L55, L57, L60, L61, L63, L71, L80, L97, L99, L100, L120, L122, L128, L161, L17, L600, L1000000, L1024, L1408, isB0, isB1, subdm, inT, inFl, inFh], by simp (disch := omega) only [hM.P, bd_some, gd_true, inR_nI, nI_clamp, nI_add, pk_mul, pk_sub, leT, leF, ltT, ltF, eqT, eqF, ite_true, ite_false, reduceIte, nz_nI, oc_s, oc_n, pk_div, pk_rem, m1F, L0, L1, L2, L3, L4, L5, L6, L7, L8, L9, L10, L11, L12, L19, L20, L24, L25, L27, L28, L30, L32, L37, L39, L40, L47, L48, L50, L55, L57, L60, L61, L63, L71, L80, L97, L99, L100, L120, L122, L128, L161, L17, L600, L1000000, L1024, L1408, isB0, isB1, subdm, inT, inFl, inFh]⟩
        · exact ⟨-2, by simp (disch := omega) only [hX.h, hX.hm, hX.hx.P, bd_some, gd_true, inR_nI, nI_clamp, nI_add, pk_mul, pk_sub, leT, leF, ltT, ltF, eqT, eqF, ite_true, ite_false, reduceIte, nz_nI, oc_s, oc_n, pk_div, pk_rem, m1F, L0, L1, L2, L3, L4, L5, L6, L7, L8, L9, L10, L11, L12, L19, L20, L24, L25, L27, L28, L30, L32, L37, L39, L40, L47, L48, L50, L55, L57, L60, L61, L63, L71, L80, L97, L99, L100, L120, L122, L128, L161, L17, L600, L1000000, L1024, L1408, isB0, isB1, subdm, inT, inFl, inFh], by simp (disch := omega) only [bd_some, gd_true, inR_nI, nI_clamp, nI_add, pk_mul, pk_sub, leT, leF, ltT, ltF, eqT, eqF, ite_true, ite_false, reduceIte, nz_nI, oc_s, oc_n, pk_div, pk_rem, m1F, L0, L1, L2, L3, L4, L5, L6, L7, L8, L9, L10, L11, L12, L19, L20, L24, L25, L27, L28, L30, L32, L37, L39, L40, L47, L48, L50, L55, L57, L60, L61, L63, L71, L80, L97, L99, L100, L120, L122, L128, L161, L17, L600, L1000000, L1024, L1408, isB0, isB1, subdm, inT, inFl, inFh]⟩
