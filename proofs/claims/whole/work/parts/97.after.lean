def aM (r : Rec) (a : Av) : Prop := ∀ p, p < 8 → ga r 47 p = nI (a.1 p)
theorem cM.to {r r' : Rec} {n : Nat} {v : Hv} {c : Cv} (h : cM r n v c) (h1 : ∀ k, k ≠ 47 → ga r' k = ga r k) (h2 : ∀ k, gi r' k = gi r k) : cM r' n v c :=
  ⟨h.1, by rw [h2]; exact h.2.1, by rw [h2]; exact h.P, by rw [h2]; exact h.S, by rw [h1 6 (by decide)]; exact h.hm, fun p hp => by rw [h1 33 (by decide)]; exact h.sh hp, fun p hp => by rw [h1 34 (by decide)]; exact h.gl hp, fun p hp => by rw [h1 28 (by decide)]; exact h.kn hp, by rw [h2]; exact h.st, by rw [h2]; exact h.ho, by rw [h2]; exact h.gv⟩
theorem aft147 {r : Rec} {n : Nat} {v : Hv} {c : Cv} (ok : HvOK v) (hM : cM r n v c) (hC : cOK v c) {m : Nat} (hm : m ≤ 60) (v3 v4 s0 k : Int32) : bX10_after_147 r v3 v4 (nI m) k s0 = bX10_after_181 r v3 v4 s0 (nI (rG c m (hP v))) k := by
  have hP8 := ok.1
  unfold bX10_after_147
  refine loopO (step := fun st : Int32 × Int32 => bX10_after_152 r v3 v4 s0 st.1 k st.2) (fun i => (nI (rG c m i), nI i)) (hP v) (fun i hi => ?_) ?_
  · show bX10_after_152 r v3 v4 s0 (nI (rG c m i)) k (nI i) = some (.inl (nI (max (rG c m i) (cs c i)), nI (i + 1)))
    have h1 := rG_le ok hC hm i (by omega)
    have h2 := (hC.1 i (by omega)).1
    unfold bX10_after_152
    simp (disch := omega) only [hM.P, hM.sh, gr_nI, bd_some, gd_true, inR_nI, nI_clamp, nI_add, pk_mul, pk_sub, leT, leF, ltT, ltF, eqT, eqF, ite_true, ite_false, reduceIte, nz_nI, oc_s, oc_n, pk_div, pk_rem, m1F, L0, L1, L2, L3, L4, L5, L6, L7, L8, L9, L10, L11, L12, L19, L20, L24, L25, L27, L28, L30, L32, L37, L39, L40, L47, L48, L50, L55, L57, L60, L61, L63, L71, L80, L97, L99, L100, L120, L122, L128, L161, L17, L600, L1000000, L1024, L1408, isB0, isB1, subdm, inT, inFl, inFh]
  · show bX10_after_152 r v3 v4 s0 _ k (nI (hP v)) = _
    unfold bX10_after_152
    simp (disch := omega) only [hM.P, bd_some, gd_true, inR_nI, nI_clamp, nI_add, pk_mul, pk_sub, leT, leF, ltT, ltF, eqT, eqF, ite_true, ite_false, reduceIte, nz_nI, oc_s, oc_n, pk_div, pk_rem, m1F, L0, L1, L2, L3, L4, L5, L6, L7, L8, L9, L10, L11, L12, L19, L20, L24, L25, L27, L28, L30, L32, L37, L39, L40, L47, L48, L50, L55, L57, L60, L61, L63, L71, L80, L97, L99, L100, L120, L122, L128, L161, L17, L600, L1000000, L1024, L1408, isB0, isB1, subdm, inT, inFl, inFh]
theorem aft125 {r : Rec} {n : Nat} {v : Hv} {c : Cv} (ok : HvOK v) (hM : cM r n v c) (hC : cOK v c) {m : Nat} (hm : m ≤ 60) (v3 v4 u : Int32) (k : Nat) {q : Nat} (hq : q < 8) (x y : Int32) : bX10_after_125 r v3 v4 u (nI m) (nI k) y x (nI q) = bX10_after_181 (sa r 47 (upd (ga r 47) q (x + y))) v3 v4 (rU v c k u) (nI (rG c m (hP v))) (nI k) := by
  have hM2 : cM (sa r 47 (upd (ga r 47) q (x + y))) n v c := hM.to (fun k hk => ga_san hk) (fun _ => rfl)
  unfold bX10_after_125 bX10_after_145 rU
  by_cases c1 : u = -nI 1
  · rw [if_pos c1]
    by_cases c2 : dq c (hP v) ≤ 1
    · rw [if_pos c2]
      simp (disch := omega) only [duskM ok hM2 hC, if_pos c2, eq_true c1, aft147 ok hM2 hC hm, bd_some, gd_true, inR_nI, nI_clamp, nI_add, pk_mul, pk_sub, leT, leF, ltT, ltF, eqT, eqF, ite_true, ite_false, reduceIte, nz_nI, oc_s, oc_n, pk_div, pk_rem, m1F, L0, L1, L2, L3, L4, L5, L6, L7, L8, L9, L10, L11, L12, L19, L20, L24, L25, L27, L28, L30, L32, L37, L39, L40, L47, L48, L50, L55, L57, L60, L61, L63, L71, L80, L97, L99, L100, L120, L122, L128, L161, L17, L600, L1000000, L1024, L1408, isB0, isB1, subdm, inT, inFl, inFh]
    · rw [if_neg c2]
      simp (disch := omega) only [duskM ok hM2 hC, if_neg c2, eq_true c1, aft147 ok hM2 hC hm, bd_some, gd_true, inR_nI, nI_clamp, nI_add, pk_mul, pk_sub, leT, leF, ltT, ltF, eqT, eqF, ite_true, ite_false, reduceIte, nz_nI, oc_s, oc_n, pk_div, pk_rem, m1F, L0, L1, L2, L3, L4, L5, L6, L7, L8, L9, L10, L11, L12, L19, L20, L24, L25, L27, L28, L30, L32, L37, L39, L40, L47, L48, L50, L55, L57, L60, L61, L63, L71, L80, L97, L99, L100, L120, L122, L128, L161, L17, L600, L1000000, L1024, L1408, isB0, isB1, subdm, inT, inFl, inFh]
  · rw [if_neg c1]
    simp (disch := omega) only [eq_false c1, aft147 ok hM2 hC hm, bd_some, gd_true, inR_nI, nI_clamp, nI_add, pk_mul, pk_sub, leT, leF, ltT, ltF, eqT, eqF, ite_true, ite_false, reduceIte, nz_nI, oc_s, oc_n, pk_div, pk_rem, m1F, L0, L1, L2, L3, L4, L5, L6, L7, L8, L9, L10, L11, L12, L19, L20, L24, L25, L27, L28, L30, L32, L37, L39, L40, L47, L48, L50, L55, L57, L60, L61, L63, L71, L80, L97, L99, L100, L120, L122, L128, L161, L17, L600, L1000000, L1024, L1408, isB0, isB1, subdm, inT, inFl, inFh]
theorem aft_it {r : Rec} {n : Nat} {v : Hv} {c : Cv} (ok : HvOK v) (hM : cM r n v c) (hC : cOK v c) {a : Av} (ha : aM r a) (hm : a.2.2.2 ≤ 60) (v3 : Int32) (k : Nat) : ∃ r1, bX10_after_69 r v3 (nI a.2.1) a.2.2.1 (nI a.2.2.2) (nI 1) (nI k) = bX10_after_181 r1 v3 (nI (remA v c k a).2.1) (remA v c k a).2.2.1 (nI (remA v c k a).2.2.2) (nI k) ∧ (∀ k, k ≠ 47 → ga r1 k = ga r k) ∧ (∀ k, gi r1 k = gi r k) ∧ aM r1 (remA v c k a) := by
  have hP8 := ok.1
  have hb := bright_nI ok hM hC
  unfold remA bX10_after_69 bX10_after_93 bX10_after_112
  cases e : bst (sg c) (hP v) with
  | none =>
    rw [e] at hb
    have e0 := ha 0 (by decide)
    refine ⟨sa r 47 (upd (ga r 47) 0 (nI (a.1 0) + nI 0)), ?_, fun k hk => ga_san hk, fun _ => rfl, fun p hp => ?_⟩
    · have k1 := aft125 ok hM hC hm v3 (nI (a.2.1 + 1)) a.2.2.1 k (q := 0) (by decide) (nI (a.1 0)) (nI 0)
      simp (disch := omega) only [hb, eO, e0, bd_some, gd_true, inR_nI, nI_clamp, nI_add, pk_mul, pk_sub, leT, leF, ltT, ltF, eqT, eqF, ite_true, ite_false, reduceIte, nz_nI, oc_s, oc_n, pk_div, pk_rem, m1F, L0, L1, L2, L3, L4, L5, L6, L7, L8, L9, L10, L11, L12, L19, L20, L24, L25, L27, L28, L30, L32, L37, L39, L40, L47, L48, L50, L55, L57, L60, L61, L63, L71, L80, L97, L99, L100, L120, L122, L128, L161, L17, L600, L1000000, L1024, L1408, isB0, isB1, subdm, inT, inFl, inFh]
      simp (disch := omega) only [bd_some, gd_true, inR_nI, nI_clamp, nI_add, pk_mul, pk_sub, leT, leF, ltT, ltF, eqT, eqF, ite_true, ite_false, reduceIte, nz_nI, oc_s, oc_n, pk_div, pk_rem, m1F, L0, L1, L2, L3, L4, L5, L6, L7, L8, L9, L10, L11, L12, L19, L20, L24, L25, L27, L28, L30, L32, L37, L39, L40, L47, L48, L50, L55, L57, L60, L61, L63, L71, L80, L97, L99, L100, L120, L122, L128, L161, L17, L600, L1000000, L1024, L1408, isB0, isB1, subdm, inT, inFl, inFh] at k1
      exact k1
    · show upd (ga r 47) 0 (nI (a.1 0) + nI 0) p = nI (a.1 p)
      rw [upd_if]
      by_cases e : p = 0
      · rw [if_pos e, nI_add, e]; rfl
      · rw [if_neg e]; exact ha p hp
  | some q =>
    rw [e] at hb
    have hq := bst_lt e
    have e0 := ha q (by omega)
    refine ⟨sa r 47 (upd (ga r 47) q (nI (a.1 q) + nI 1)), ?_, fun k hk => ga_san hk, fun _ => rfl, fun p hp => ?_⟩
    · have k1 := aft125 ok hM hC hm v3 (nI (a.2.1 + 0)) a.2.2.1 k (q := q) (by omega) (nI (a.1 q)) (nI 1)
      simp (disch := omega) only [hb, eO, e0, bd_some, gd_true, inR_nI, nI_clamp, nI_add, pk_mul, pk_sub, leT, leF, ltT, ltF, eqT, eqF, ite_true, ite_false, reduceIte, nz_nI, oc_s, oc_n, pk_div, pk_rem, m1F, L0, L1, L2, L3, L4, L5, L6, L7, L8, L9, L10, L11, L12, L19, L20, L24, L25, L27, L28, L30, L32, L37, L39, L40, L47, L48, L50, L55, L57, L60, L61, L63, L71, L80, L97, L99, L100, L120, L122, L128, L161, L17, L600, L1000000, L1024, L1408, isB0, isB1, subdm, inT, inFl, inFh]
      simp (disch := omega) only [bd_some, gd_true, inR_nI, nI_clamp, nI_add, pk_mul, pk_sub, leT, leF, ltT, ltF, eqT, eqF, ite_true, ite_false, reduceIte, nz_nI, oc_s, oc_n, pk_div, pk_rem, m1F, L0, L1, L2, L3, L4, L5, L6, L7, L8, L9, L10, L11, L12, L19, L20, L24, L25, L27, L28, L30, L32, L37, L39, L40, L47, L48, L50, L55, L57, L60, L61, L63, L71, L80, L97, L99, L100, L120, L122, L128, L161, L17, L600, L1000000, L1024, L1408, isB0, isB1, subdm, inT, inFl, inFh] at k1
      exact k1
    · show upd (ga r 47) q (nI (a.1 q) + nI 1) p = nI (if p = q then a.1 p + 1 else a.1 p)
      rw [upd_if]
      by_cases e : p = q
      · rw [if_pos e, if_pos e, nI_add, e]
      · rw [if_neg e, if_neg e]; exact ha p hp
def aB (k : Nat) (a : Av) : Prop := (∀ p, a.1 p ≤ k) ∧ a.2.2.2 ≤ 60
theorem aB_rem {v : Hv} {c : Cv} (ok : HvOK v) (hC : cOK v c) {k j : Nat} {a : Av} (h : aB k a) : aB (k + 1) (remA v c j a) := by
  refine ⟨fun p => ?_, rG_le ok hC h.2 _ (Nat.le_refl _)⟩
  show rT (bst (sg c) (hP v)) a.1 p ≤ k + 1
  have := h.1 p
  cases bst (sg c) (hP v) with
  | none => show a.1 p ≤ _; omega
  | some q => show (if p = q then a.1 p + 1 else a.1 p) ≤ _; split <;> omega
theorem Mo.to {g : Gs} {r r' : Rec} {m : Nat} {w : Rv} (h : Mo g r m w) (h1 : ∀ k, k ≠ 47 → ga r' k = ga r k) (h2 : ∀ k, gi r' k = gi r k) : Mo g r' m w := ⟨h.1, h.2.1, h.2.2.1, by rw [h2]; exact h.2.2.2.1, by rw [h1 7 (by decide)]; exact h.2.2.2.2⟩
theorem aft_out {r : Rec} {v3 d u m k : Int32} : iter (fun st : Int32 × Int32 × Int32 × Int32 × Int32 × Rec => bX10_after_69 st.2.2.2.2.2 v3 st.1 st.2.1 st.2.2.1 st.2.2.2.1 st.2.2.2.2.1) (d, u, m, nI 0, k, r) = bX10_after_212 r v3 d u m := by
  refine iter_out ?_
  show bX10_after_69 r v3 d u m (nI 0) k = _
  unfold bX10_after_69
  simp (disch := omega) only [bd_some, gd_true, inR_nI, nI_clamp, nI_add, pk_mul, pk_sub, leT, leF, ltT, ltF, eqT, eqF, ite_true, ite_false, reduceIte, nz_nI, oc_s, oc_n, pk_div, pk_rem, m1F, L0, L1, L2, L3, L4, L5, L6, L7, L8, L9, L10, L11, L12, L19, L20, L24, L25, L27, L28, L30, L32, L37, L39, L40, L47, L48, L50, L55, L57, L60, L61, L63, L71, L80, L97, L99, L100, L120, L122, L128, L161, L17, L600, L1000000, L1024, L1408, isB0, isB1, subdm, inT, inFl, inFh]
theorem aft_loop {n m : Nat} {v : Hv} {w : Rv} (ok : HvOK v) (v3 : Int32) : ∀ d k g r c a, k + d = w.1 → Co g r n v c → Mo g r m w → aX g (remA v c k a) → aM r a → aB k a → ∃ g' r' a' c', (∃ y, iter (fun st : Int32 × Gs => bX0_follow_13 st.2 (500 + m) (nI w.1) st.1) (nI k, g) = some (g', y)) ∧ iter (fun st : Int32 × Int32 × Int32 × Int32 × Int32 × Rec => bX10_after_69 st.2.2.2.2.2 v3 st.1 st.2.1 st.2.2.1 st.2.2.2.1 st.2.2.2.2.1) (nI a.2.1, a.2.2.1, nI a.2.2.2, nI 1, nI k, r) = bX10_after_212 r' v3 (nI a'.2.1) a'.2.2.1 (nI a'.2.2.2) ∧ aX g' a' ∧ aM r' a' ∧ aB 41 a' ∧ cX g' n v c' ∧ gi r' 26 = nI (hP v) ∧ (∀ o, o ≠ 1 → g' o = g o) ∧ MP r r' := by
  intro d
  induction d with
  | zero =>
    intro k g r c a hk hco hmo hax ham hab
    have : k = w.1 := by omega
    subst this
    have h40 := hmo.2.1.1
    obtain ⟨r1, t1, t2, t3, t4⟩ := aft_it ok hco.2.1 hco.2.2 ham hab.2 v3 w.1
    have hab2 := aB_rem ok hco.2.2 (j := w.1) hab
    have hM2 := hco.2.1.to t2 t3
    refine ⟨g, r1, remA v c w.1 a, c, ⟨nI w.1, ?_⟩, ?_, hax, t4, ⟨fun p => by have := hab2.1 p; omega, hab2.2⟩, hco.1, hM2.P, fun _ _ => rfl, MP.of (fun k hk => t2 k (by omega))⟩
    · refine iter_end ?_
      show bX0_follow_13 g (500 + m) (nI w.1) (nI w.1) = _
      unfold bX0_follow_13 bX0_follow_80
      simp (disch := omega) only [hmo.size, mn_nI, Nat.min_eq_left, bd_some, gd_true, inR_nI, nI_clamp, nI_add, pk_mul, pk_sub, leT, leF, ltT, ltF, eqT, eqF, ite_true, ite_false, reduceIte, nz_nI, oc_s, oc_n, pk_div, pk_rem, m1F, L0, L1, L2, L3, L4, L5, L6, L7, L8, L9, L10, L11, L12, L19, L20, L24, L25, L27, L28, L30, L32, L37, L39, L40, L47, L48, L50, L55, L57, L60, L61, L63, L71, L80, L97, L99, L100, L120, L122, L128, L161, L17, L600, L1000000, L1024, L1408, isB0, isB1, subdm, inT, inFl, inFh]
      rfl
    · rw [iter_step (s := (nI a.2.1, a.2.2.1, nI a.2.2.2, nI 1, nI w.1, r)) (s' := (nI (remA v c w.1 a).2.1, (remA v c w.1 a).2.2.1, nI (remA v c w.1 a).2.2.2, nI 0, nI (w.1 + 1), r1)) (by
        show bX10_after_69 r v3 (nI a.2.1) a.2.2.1 (nI a.2.2.2) (nI 1) (nI w.1) = _
        rw [t1]
        unfold bX10_after_181 bX10_after_203 bX10_after_204
        simp (disch := omega) only [(hmo.to t2 t3).deeds, bd_some, gd_true, inR_nI, nI_clamp, nI_add, pk_mul, pk_sub, leT, leF, ltT, ltF, eqT, eqF, ite_true, ite_false, reduceIte, nz_nI, oc_s, oc_n, pk_div, pk_rem, m1F, L0, L1, L2, L3, L4, L5, L6, L7, L8, L9, L10, L11, L12, L19, L20, L24, L25, L27, L28, L30, L32, L37, L39, L40, L47, L48, L50, L55, L57, L60, L61, L63, L71, L80, L97, L99, L100, L120, L122, L128, L161, L17, L600, L1000000, L1024, L1408, isB0, isB1, subdm, inT, inFl, inFh])]
      exact aft_out
  | succ d ih =>
    intro k g r c a hk hco hmo hax ham hab
    have h40 := hmo.2.1.1
    have hkw : k < w.1 := by omega
    obtain ⟨r1, t1, t2, t3, t4⟩ := aft_it ok hco.2.1 hco.2.2 ham hab.2 v3 k
    have hab2 := aB_rem ok hco.2.2 (j := k) hab
    have hco1 : Co g r1 n v c := ⟨hco.1, hco.2.1.to t2 t3, hco.2.2⟩
    have hmo1 : Mo g r1 m w := hmo.to t2 t3
    have mp1 : MP r r1 := MP.of (fun k hk => t2 k (by omega))
    obtain ⟨g', r', b, c', s1, s2, s3, s4, s5, s6⟩ := deed_step ok hco1 hmo1 hkw
    have c0 := hmo.cell hkw (c := 0) (by decide)
    have c1 := hmo.cell hkw (c := 1) (by decide)
    have c2 := hmo.cell hkw (c := 2) (by decide)
    have c3 := hmo.cell hkw (c := 3) (by decide)
    rw [c0, bd_some, c1, bd_some, c2, bd_some, c3, bd_some] at s1
    have t4' : aM r' (remA v c k a) := fun p hp => by rw [s6.1 47 (by decide) (by decide) (by decide)]; exact t4 p hp
    rcases s3 with rfl | rfl
    · refine ⟨g', r', remA v c k a, c', ⟨nI k, ?_⟩, ?_, s5.aX hax, t4', ⟨fun p => by have := hab2.1 p; omega, hab2.2⟩, s4.1, s4.2.1.P, s5.1, mp1.tr s6.MP⟩
      · refine iter_end ?_
        show bX0_follow_13 g (500 + m) (nI w.1) (nI k) = _
        unfold bX0_follow_13
        simp (disch := omega) only [hmo.size, bd_some, gd_true, inR_nI, nI_clamp, nI_add, pk_mul, pk_sub, leT, leF, ltT, ltF, eqT, eqF, ite_true, ite_false, reduceIte, nz_nI, oc_s, oc_n, pk_div, pk_rem, m1F, L0, L1, L2, L3, L4, L5, L6, L7, L8, L9, L10, L11, L12, L19, L20, L24, L25, L27, L28, L30, L32, L37, L39, L40, L47, L48, L50, L55, L57, L60, L61, L63, L71, L80, L97, L99, L100, L120, L122, L128, L161, L17, L600, L1000000, L1024, L1408, isB0, isB1, subdm, inT, inFl, inFh]
        rw [c0, bd_some, c1, bd_some, c2, bd_some, c3, bd_some, s1, bd_some]
        simp (disch := omega) only [bd_some, gd_true, inR_nI, nI_clamp, nI_add, pk_mul, pk_sub, leT, leF, ltT, ltF, eqT, eqF, ite_true, ite_false, reduceIte, nz_nI, oc_s, oc_n, pk_div, pk_rem, m1F, L0, L1, L2, L3, L4, L5, L6, L7, L8, L9, L10, L11, L12, L19, L20, L24, L25, L27, L28, L30, L32, L37, L39, L40, L47, L48, L50, L55, L57, L60, L61, L63, L71, L80, L97, L99, L100, L120, L122, L128, L161, L17, L600, L1000000, L1024, L1408, isB0, isB1, subdm, inT, inFl, inFh]
      · rw [iter_step (s := (nI a.2.1, a.2.2.1, nI a.2.2.2, nI 1, nI k, r)) (s' := (nI (remA v c k a).2.1, (remA v c k a).2.2.1, nI (remA v c k a).2.2.2, nI 0, nI (k + 1), r')) (by
          show bX10_after_69 r v3 (nI a.2.1) a.2.2.1 (nI a.2.2.2) (nI 1) (nI k) = _
          rw [t1]
          unfold bX10_after_181 bX10_after_203 bX10_after_204
          simp (disch := omega) only [hmo1.deeds, s2, bd_some, gd_true, inR_nI, nI_clamp, nI_add, pk_mul, pk_sub, leT, leF, ltT, ltF, eqT, eqF, ite_true, ite_false, reduceIte, nz_nI, oc_s, oc_n, pk_div, pk_rem, m1F, L0, L1, L2, L3, L4, L5, L6, L7, L8, L9, L10, L11, L12, L19, L20, L24, L25, L27, L28, L30, L32, L37, L39, L40, L47, L48, L50, L55, L57, L60, L61, L63, L71, L80, L97, L99, L100, L120, L122, L128, L161, L17, L600, L1000000, L1024, L1408, isB0, isB1, subdm, inT, inFl, inFh])]
        exact aft_out
    · obtain ⟨R, q1, q2, q3⟩ := remember_nI ok s4.1 s4.2.2 (s5.aX hax) hab2.2 (k + 1)
      have hmo2 : Mo (ug g' 1 R) r' m w := hmo1.step (fun o ho => by rw [ug_ne ho]; exact s5.1 o ho) s6
      obtain ⟨g2, r2, a2, c2', ⟨y, i1⟩, i2, i3, i4, i5, i6, i7, i8, i9⟩ := ih (k + 1) (ug g' 1 R) r' c' (remA v c k a) (by omega) (s4.acc q2) hmo2 q3 t4' hab2
      refine ⟨g2, r2, a2, c2', ⟨y, ?_⟩, ?_, i3, i4, i5, i6, i7, fun o ho => by rw [i8 o ho, ug_ne ho]; exact s5.1 o ho, (mp1.tr s6.MP).tr i9⟩
      · rw [iter_step (s := (nI k, g)) (s' := (nI (k + 1), ug g' 1 R)) (by
          show bX0_follow_13 g (500 + m) (nI w.1) (nI k) = _
          unfold bX0_follow_13
          simp (disch := omega) only [hmo.size, bd_some, gd_true, inR_nI, nI_clamp, nI_add, pk_mul, pk_sub, leT, leF, ltT, ltF, eqT, eqF, ite_true, ite_false, reduceIte, nz_nI, oc_s, oc_n, pk_div, pk_rem, m1F, L0, L1, L2, L3, L4, L5, L6, L7, L8, L9, L10, L11, L12, L19, L20, L24, L25, L27, L28, L30, L32, L37, L39, L40, L47, L48, L50, L55, L57, L60, L61, L63, L71, L80, L97, L99, L100, L120, L122, L128, L161, L17, L600, L1000000, L1024, L1408, isB0, isB1, subdm, inT, inFl, inFh]
          rw [c0, bd_some, c1, bd_some, c2, bd_some, c3, bd_some, s1, bd_some]
          simp (disch := omega) only [q1, bd_some, gd_true, inR_nI, nI_clamp, nI_add, pk_mul, pk_sub, leT, leF, ltT, ltF, eqT, eqF, ite_true, ite_false, reduceIte, nz_nI, oc_s, oc_n, pk_div, pk_rem, m1F, L0, L1, L2, L3, L4, L5, L6, L7, L8, L9, L10, L11, L12, L19, L20, L24, L25, L27, L28, L30, L32, L37, L39, L40, L47, L48, L50, L55, L57, L60, L61, L63, L71, L80, L97, L99, L100, L120, L122, L128, L161, L17, L600, L1000000, L1024, L1408, isB0, isB1, subdm, inT, inFl, inFh])]
        exact i1
      · rw [iter_step (s := (nI a.2.1, a.2.2.1, nI a.2.2.2, nI 1, nI k, r)) (s' := (nI (remA v c k a).2.1, (remA v c k a).2.2.1, nI (remA v c k a).2.2.2, nI 1, nI (k + 1), r')) (by
          show bX10_after_69 r v3 (nI a.2.1) a.2.2.1 (nI a.2.2.2) (nI 1) (nI k) = _
          rw [t1]
          unfold bX10_after_181 bX10_after_203 bX10_after_204
          simp (disch := omega) only [hmo1.deeds, s2, bd_some, gd_true, inR_nI, nI_clamp, nI_add, pk_mul, pk_sub, leT, leF, ltT, ltF, eqT, eqF, ite_true, ite_false, reduceIte, nz_nI, oc_s, oc_n, pk_div, pk_rem, m1F, L0, L1, L2, L3, L4, L5, L6, L7, L8, L9, L10, L11, L12, L19, L20, L24, L25, L27, L28, L30, L32, L37, L39, L40, L47, L48, L50, L55, L57, L60, L61, L63, L71, L80, L97, L99, L100, L120, L122, L128, L161, L17, L600, L1000000, L1024, L1408, isB0, isB1, subdm, inT, inFl, inFh])]
        exact i2
theorem star_nI {g : Gs} {n : Nat} {v : Hv} {c : Cv} (ok : HvOK v) (hX : cX g n v c) {a : Av} (ha : aX g a) (hb : aB 41 a) : fX0_star g = some (eO (bst a.1 (hP v))) := by
  have hP8 := ok.1
  unfold fX0_star
  refine loopO (step := fun st : Int32 × Int32 × Int32 => bX0_star_6 g st.1 st.2.1 st.2.2) (fun i => (eO (bst a.1 i), nI (bv a.1 (bst a.1 i)), nI i)) (hP v) (fun i hi => ?_) ?_
  · show bX0_star_6 g (eO (bst a.1 i)) (nI (bv a.1 (bst a.1 i))) (nI i) = some (.inl (eO (if bv a.1 (bst a.1 i) < a.1 i then some i else bst a.1 i), nI (bv a.1 (if bv a.1 (bst a.1 i) < a.1 i then some i else bst a.1 i)), nI (i + 1)))
    have hb1 : bv a.1 (bst a.1 i) ≤ 41 := by
      cases e : bst a.1 i with
      | none => show 0 ≤ 41; omega
      | some q => exact hb.1 q
    have hs := hb.1 i
    have es := ha.1 i (by omega)
    unfold bX0_star_6 bX0_star_36
    by_cases cc : bv a.1 (bst a.1 i) < a.1 i
    · rw [if_pos cc]
      simp (disch := omega) only [hX.h, hX.hm, hX.hx.P, es, eO_s, bv_s, bd_some, gd_true, inR_nI, nI_clamp, nI_add, pk_mul, pk_sub, leT, leF, ltT, ltF, eqT, eqF, ite_true, ite_false, reduceIte, nz_nI, oc_s, oc_n, pk_div, pk_rem, m1F, L0, L1, L2, L3, L4, L5, L6, L7, L8, L9, L10, L11, L12, L19, L20, L24, L25, L27, L28, L30, L32, L37, L39, L40, L47, L48, L50, L55, L57, L60, L61, L63, L71, L80, L97, L99, L100, L120, L122, L128, L161, L17, L600, L1000000, L1024, L1408, isB0, isB1, subdm, inT, inFl, inFh]
    · rw [if_neg cc]
      simp (disch := omega) only [hX.h, hX.hm, hX.hx.P, es, bd_some, gd_true, inR_nI, nI_clamp, nI_add, pk_mul, pk_sub, leT, leF, ltT, ltF, eqT, eqF, ite_true, ite_false, reduceIte, nz_nI, oc_s, oc_n, pk_div, pk_rem, m1F, L0, L1, L2, L3, L4, L5, L6, L7, L8, L9, L10, L11, L12, L19, L20, L24, L25, L27, L28, L30, L32, L37, L39, L40, L47, L48, L50, L55, L57, L60, L61, L63, L71, L80, L97, L99, L100, L120, L122, L128, L161, L17, L600, L1000000, L1024, L1408, isB0, isB1, subdm, inT, inFl, inFh]
  · show bX0_star_6 g _ _ (nI (hP v)) = _
    unfold bX0_star_6
    simp (disch := omega) only [hX.h, hX.hm, hX.hx.P, bd_some, gd_true, inR_nI, nI_clamp, nI_add, pk_mul, pk_sub, leT, leF, ltT, ltF, eqT, eqF, ite_true, ite_false, reduceIte, nz_nI, oc_s, oc_n, pk_div, pk_rem, m1F, L0, L1, L2, L3, L4, L5, L6, L7, L8, L9, L10, L11, L12, L19, L20, L24, L25, L27, L28, L30, L32, L37, L39, L40, L47, L48, L50, L55, L57, L60, L61, L63, L71, L80, L97, L99, L100, L120, L122, L128, L161, L17, L600, L1000000, L1024, L1408, isB0, isB1, subdm, inT, inFl, inFh]
    all_goals rfl
theorem starM {r : Rec} {v : Hv} (ok : HvOK v) (eP : gi r 26 = nI (hP v)) {a : Av} (ha : aM r a) (hb : aB 41 a) (v3 x4 x5 x6 : Int32) : bX10_after_212 r v3 x4 x5 x6 = bX10_after_269 r v3 x4 x5 x6 (eO (bst a.1 (hP v))) := by
  have hP8 := ok.1
  unfold bX10_after_212
  refine loopO (step := fun st : Int32 × Int32 => bX10_after_218 r v3 x4 x5 x6 st.1 st.2) (fun i => (eO (bst a.1 i), nI i)) (hP v) (fun i hi => ?_) ?_
  · show bX10_after_218 r v3 x4 x5 x6 (eO (bst a.1 i)) (nI i) = some (.inl (eO (if bv a.1 (bst a.1 i) < a.1 i then some i else bst a.1 i), nI (i + 1)))
    have hs := hb.1 i
    have es := ha i (by omega)
    unfold bX10_after_218 bX10_after_251 bX10_after_261
    cases e : bst a.1 i with
    | none =>
      show _ = some (Sum.inl (eO (if 0 < a.1 i then some i else none), nI (i + 1)))
      by_cases cc : 0 < a.1 i
      · rw [if_pos cc]
        simp (disch := omega) only [eP, es, eO_s, eO_n, bd_some, gd_true, inR_nI, nI_clamp, nI_add, pk_mul, pk_sub, leT, leF, ltT, ltF, eqT, eqF, ite_true, ite_false, reduceIte, nz_nI, oc_s, oc_n, pk_div, pk_rem, m1F, L0, L1, L2, L3, L4, L5, L6, L7, L8, L9, L10, L11, L12, L19, L20, L24, L25, L27, L28, L30, L32, L37, L39, L40, L47, L48, L50, L55, L57, L60, L61, L63, L71, L80, L97, L99, L100, L120, L122, L128, L161, L17, L600, L1000000, L1024, L1408, isB0, isB1, subdm, inT, inFl, inFh]
      · rw [if_neg cc]
        simp (disch := omega) only [eP, es, eO_s, eO_n, bd_some, gd_true, inR_nI, nI_clamp, nI_add, pk_mul, pk_sub, leT, leF, ltT, ltF, eqT, eqF, ite_true, ite_false, reduceIte, nz_nI, oc_s, oc_n, pk_div, pk_rem, m1F, L0, L1, L2, L3, L4, L5, L6, L7, L8, L9, L10, L11, L12, L19, L20, L24, L25, L27, L28, L30, L32, L37, L39, L40, L47, L48, L50, L55, L57, L60, L61, L63, L71, L80, L97, L99, L100, L120, L122, L128, L161, L17, L600, L1000000, L1024, L1408, isB0, isB1, subdm, inT, inFl, inFh]
    | some q =>
      have hq := bst_lt e
      have hs2 := hb.1 q
      have es2 := ha q (by omega)
      show _ = some (Sum.inl (eO (if a.1 q < a.1 i then some i else some q), nI (i + 1)))
      by_cases cc : a.1 q < a.1 i
      · rw [if_pos cc]
        simp (disch := omega) only [eP, es, es2, eO_s, eO_n, bd_some, gd_true, inR_nI, nI_clamp, nI_add, pk_mul, pk_sub, leT, leF, ltT, ltF, eqT, eqF, ite_true, ite_false, reduceIte, nz_nI, oc_s, oc_n, pk_div, pk_rem, m1F, L0, L1, L2, L3, L4, L5, L6, L7, L8, L9, L10, L11, L12, L19, L20, L24, L25, L27, L28, L30, L32, L37, L39, L40, L47, L48, L50, L55, L57, L60, L61, L63, L71, L80, L97, L99, L100, L120, L122, L128, L161, L17, L600, L1000000, L1024, L1408, isB0, isB1, subdm, inT, inFl, inFh]
      · rw [if_neg cc]
        simp (disch := omega) only [eP, es, es2, eO_s, eO_n, bd_some, gd_true, inR_nI, nI_clamp, nI_add, pk_mul, pk_sub, leT, leF, ltT, ltF, eqT, eqF, ite_true, ite_false, reduceIte, nz_nI, oc_s, oc_n, pk_div, pk_rem, m1F, L0, L1, L2, L3, L4, L5, L6, L7, L8, L9, L10, L11, L12, L19, L20, L24, L25, L27, L28, L30, L32, L37, L39, L40, L47, L48, L50, L55, L57, L60, L61, L63, L71, L80, L97, L99, L100, L120, L122, L128, L161, L17, L600, L1000000, L1024, L1408, isB0, isB1, subdm, inT, inFl, inFh]
  · show bX10_after_218 r v3 x4 x5 x6 _ (nI (hP v)) = _
    unfold bX10_after_218
    simp (disch := omega) only [eP, bd_some, gd_true, inR_nI, nI_clamp, nI_add, pk_mul, pk_sub, leT, leF, ltT, ltF, eqT, eqF, ite_true, ite_false, reduceIte, nz_nI, oc_s, oc_n, pk_div, pk_rem, m1F, L0, L1, L2, L3, L4, L5, L6, L7, L8, L9, L10, L11, L12, L19, L20, L24, L25, L27, L28, L30, L32, L37, L39, L40, L47, L48, L50, L55, L57, L60, L61, L63, L71, L80, L97, L99, L100, L120, L122, L128, L161, L17, L600, L1000000, L1024, L1408, isB0, isB1, subdm, inT, inFl, inFh]
theorem times0 {r : Rec} (v3 x4 x5 x6 : Int32) : ∃ r1, iter (fun st : Int32 × Rec => bX10_after_42 st.2 v3 x4 x5 x6 st.1) (nI 0, r) = bX10_after_63 r1 v3 x4 x5 x6 ∧ (∀ p, p < 8 → ga r1 47 p = nI 0) ∧ (∀ k, k ≠ 47 → ga r1 k = ga r k) ∧ (∀ k, gi r1 k = gi r k) := by
  have key : ∀ d i q, i + d = 8 → (∀ p, p < i → ga q 47 p = nI 0) → (∀ k, k ≠ 47 → ga q k = ga r k) → (∀ k, gi q k = gi r k) → ∃ r1, iter (fun st : Int32 × Rec => bX10_after_42 st.2 v3 x4 x5 x6 st.1) (nI i, q) = bX10_after_63 r1 v3 x4 x5 x6 ∧ (∀ p, p < 8 → ga r1 47 p = nI 0) ∧ (∀ k, k ≠ 47 → ga r1 k = ga r k) ∧ (∀ k, gi r1 k = gi r k) := by
    intro d
    induction d with
    | zero =>
      intro i q hi h1 h2 h3
      have : i = 8 := by omega
      subst this
      refine ⟨q, iter_out ?_, h1, h2, h3⟩
      show bX10_after_42 q v3 x4 x5 x6 (nI 8) = _
      unfold bX10_after_42
      simp (disch := omega) only [bd_some, gd_true, inR_nI, nI_clamp, nI_add, pk_mul, pk_sub, leT, leF, ltT, ltF, eqT, eqF, ite_true, ite_false, reduceIte, nz_nI, oc_s, oc_n, pk_div, pk_rem, m1F, L0, L1, L2, L3, L4, L5, L6, L7, L8, L9, L10, L11, L12, L19, L20, L24, L25, L27, L28, L30, L32, L37, L39, L40, L47, L48, L50, L55, L57, L60, L61, L63, L71, L80, L97, L99, L100, L120, L122, L128, L161, L17, L600, L1000000, L1024, L1408, isB0, isB1, subdm, inT, inFl, inFh]
    | succ d ih =>
      intro i q hi h1 h2 h3
      rw [iter_step (s := (nI i, q)) (s' := (nI (i + 1), sa q 47 (upd (ga q 47) i (nI 0)))) (by
        show bX10_after_42 q v3 x4 x5 x6 (nI i) = _
        unfold bX10_after_42
        simp (disch := omega) only [bd_some, gd_true, inR_nI, nI_clamp, nI_add, pk_mul, pk_sub, leT, leF, ltT, ltF, eqT, eqF, ite_true, ite_false, reduceIte, nz_nI, oc_s, oc_n, pk_div, pk_rem, m1F, L0, L1, L2, L3, L4, L5, L6, L7, L8, L9, L10, L11, L12, L19, L20, L24, L25, L27, L28, L30, L32, L37, L39, L40, L47, L48, L50, L55, L57, L60, L61, L63, L71, L80, L97, L99, L100, L120, L122, L128, L161, L17, L600, L1000000, L1024, L1408, isB0, isB1, subdm, inT, inFl, inFh])]
      refine ih (i + 1) _ (by omega) (fun p hp => ?_) (fun k hk => by rw [ga_san hk]; exact h2 k hk) h3
      rw [ga_sae, upd_if]
      by_cases e : p = i
      · rw [if_pos e]
      · rw [if_neg e]; exact h1 p (by omega)
  exact key 8 0 r rfl (fun p hp => by omega) (fun _ _ => rfl) (fun _ => rfl)
theorem ob_after : Ob_after Inv := by
  intro g a1 a2 a3 hI
  rcases lay_cases hI a1 a2 with ⟨r, l1, l2, l3⟩ | ⟨n, m, v, w, r, hn, ok, hx, h1, h2, y1, y2, l1, l2, hd, hmo⟩
  · refine ⟨g, -2, r, ?_, ?_, rfl, hI.1, hI.keep (XP.rf hI.1) l2⟩
    · unfold fX9_after
      rcases l3 with ⟨k1, k2 | ⟨h, k2, k3⟩⟩ | ⟨h, k1, k2, k3⟩
      · simp (disch := omega) only [k1, k2, bd_some, gd_true, inR_nI, nI_clamp, nI_add, pk_mul, pk_sub, leT, leF, ltT, ltF, eqT, eqF, ite_true, ite_false, reduceIte, nz_nI, oc_s, oc_n, pk_div, pk_rem, m1F, L0, L1, L2, L3, L4, L5, L6, L7, L8, L9, L10, L11, L12, L19, L20, L24, L25, L27, L28, L30, L32, L37, L39, L40, L47, L48, L50, L55, L57, L60, L61, L63, L71, L80, L97, L99, L100, L120, L122, L128, L161, L17, L600, L1000000, L1024, L1408, isB0, isB1, subdm, inT, inFl, inFh]
      · simp (disch := omega) only [k1, k2, k3, bd_some, gd_true, inR_nI, nI_clamp, nI_add, pk_mul, pk_sub, leT, leF, ltT, ltF, eqT, eqF, ite_true, ite_false, reduceIte, nz_nI, oc_s, oc_n, pk_div, pk_rem, m1F, L0, L1, L2, L3, L4, L5, L6, L7, L8, L9, L10, L11, L12, L19, L20, L24, L25, L27, L28, L30, L32, L37, L39, L40, L47, L48, L50, L55, L57, L60, L61, L63, L71, L80, L97, L99, L100, L120, L122, L128, L161, L17, L600, L1000000, L1024, L1408, isB0, isB1, subdm, inT, inFl, inFh]
      · simp (disch := omega) only [k1, k2, k3, bd_some, gd_true, inR_nI, nI_clamp, nI_add, pk_mul, pk_sub, leT, leF, ltT, ltF, eqT, eqF, ite_true, ite_false, reduceIte, nz_nI, oc_s, oc_n, pk_div, pk_rem, m1F, L0, L1, L2, L3, L4, L5, L6, L7, L8, L9, L10, L11, L12, L19, L20, L24, L25, L27, L28, L30, L32, L37, L39, L40, L47, L48, L50, L55, L57, L60, L61, L63, L71, L80, L97, L99, L100, L120, L122, L128, L161, L17, L600, L1000000, L1024, L1408, isB0, isB1, subdm, inT, inFl, inFh]
    · unfold fX10_after; simp (disch := omega) only [l1, bd_some, gd_true, inR_nI, nI_clamp, nI_add, pk_mul, pk_sub, leT, leF, ltT, ltF, eqT, eqF, ite_true, ite_false, reduceIte, nz_nI, oc_s, oc_n, pk_div, pk_rem, m1F, L0, L1, L2, L3, L4, L5, L6, L7, L8, L9, L10, L11, L12, L19, L20, L24, L25, L27, L28, L30, L32, L37, L39, L40, L47, L48, L50, L55, L57, L60, L61, L63, L71, L80, L97, L99, L100, L120, L122, L128, L161, L17, L600, L1000000, L1024, L1408, isB0, isB1, subdm, inT, inFl, inFh]
  · obtain ⟨R, b1, b2, b3⟩ := begX hn hx
    obtain ⟨r1, e1, e2, e3⟩ := begM hd
    obtain ⟨r2, z1, z2, z3, z4⟩ := times0 (r := r1) a3 (nI 0) (-nI 1) (nI 0)
    have hM2 := e2.to z3 z4
    obtain ⟨R2, q1, q2, q3⟩ := remember_nI ok b2 (begC_OK ok) b3 (by show 0 ≤ 60; omega) 0
    rw [ug_ug] at q1 q2 q3
    have hmo2 : Mo (ug g 1 R2) r2 m w := (hmo.step (g' := ug g 1 R2) (fun o ho => ug_ne ho) e3).to z3 z4
    obtain ⟨g', r', a', c', ⟨y, i1⟩, i2, i3, i4, i5, i6, i7, i8, i9⟩ := aft_loop (m := m) ok a3 w.1 0 (ug g 1 R2) r2 (begC v) begA (by omega) ⟨q2, hM2, begC_OK ok⟩ hmo2 q3 z2 ⟨fun _ => Nat.le_refl _, by show 0 ≤ 60; omega⟩
    have f5 : ∀ o, o ≠ 1 → g' o = g o := fun o ho => by rw [i8 o ho, ug_ne ho]
    have hh := i6.hm1
    have ef : fX0_follow g (200 + n) (500 + m) (nI w.1) = some (g', y) := by
      unfold fX0_follow
      rw [b1, bd_some, L0, q1, bd_some]
      exact i1
    have em : ∀ m3, fX10_in a3 (nI 0) (nI 3) = some (nI 1) → bX10_after_269 r' a3 (nI a'.2.1) a'.2.2.1 (nI a'.2.2.2) (eO (bst a'.1 (hP v))) = m3 → fX10_after (g 1001) a1 a2 a3 = m3 := by
      intro m3 hin h3
      unfold fX10_after
      simp (disch := omega) only [l1, hin, e1, z1, bX10_after_63, bd_some, gd_true, inR_nI, nI_clamp, nI_add, pk_mul, pk_sub, leT, leF, ltT, ltF, eqT, eqF, ite_true, ite_false, reduceIte, nz_nI, oc_s, oc_n, pk_div, pk_rem, m1F, L0, L1, L2, L3, L4, L5, L6, L7, L8, L9, L10, L11, L12, L19, L20, L24, L25, L27, L28, L30, L32, L37, L39, L40, L47, L48, L50, L55, L57, L60, L61, L63, L71, L80, L97, L99, L100, L120, L122, L128, L161, L17, L600, L1000000, L1024, L1408, isB0, isB1, subdm, inT, inFl, inFh]
      refine Eq.trans i2 ?_
      rw [starM ok i7 i4 i5]
      exact h3
    have mp : MP (g 1001) r' := ((l2.tr e3.MP).tr (MP.of (fun k hk => z3 k (by omega)))).tr i9
    have fin : ∀ x, fX9_after g a1 a2 a3 = some (g', x) → fX10_after (g 1001) a1 a2 a3 = some (r', x) → ∃ (g1 : Gs) (v : Int32) (r : Rec), fX9_after g a1 a2 a3 = some (g1, v) ∧ fX10_after (g1 1001) a1 a2 a3 = some (r, v) ∧ gr (g1 901) = gr (g 901) ∧ isHm (gr (g1 1) 0) = true ∧ Inv (ug g1 1001 r) := by
      intro x k1 k2
      exact ⟨g', x, r', k1, by rw [f5 1001 (by decide)]; exact k2, by rw [f5 901 (by decide)], hh, hI.keep (XP.one f5 hh) mp⟩
    have no : (∀ k, k < 4 → (a3 = nI k) = False) → fX10_in a3 (nI 0) (nI 3) = some (nI 0) → ∃ (g1 : Gs) (v : Int32) (r : Rec), fX9_after g a1 a2 a3 = some (g1, v) ∧ fX10_after (g1 1001) a1 a2 a3 = some (r, v) ∧ gr (g1 901) = gr (g 901) ∧ isHm (gr (g1 1) 0) = true ∧ Inv (ug g1 1001 r) := by
      intro hne hin
      refine ⟨g', -2, r, ?_, ?_, by rw [f5 901 (by decide)], hh, hI.keep (XP.one f5 hh) l2⟩
      · unfold fX9_after; simp (disch := omega) only [h1, h2, y1, y2, hmo.size, ef, hne 0 (by decide), hne 1 (by decide), hne 2 (by decide), hne 3 (by decide), bd_some, gd_true, inR_nI, nI_clamp, nI_add, pk_mul, pk_sub, leT, leF, ltT, ltF, eqT, eqF, ite_true, ite_false, reduceIte, nz_nI, oc_s, oc_n, pk_div, pk_rem, m1F, L0, L1, L2, L3, L4, L5, L6, L7, L8, L9, L10, L11, L12, L19, L20, L24, L25, L27, L28, L30, L32, L37, L39, L40, L47, L48, L50, L55, L57, L60, L61, L63, L71, L80, L97, L99, L100, L120, L122, L128, L161, L17, L600, L1000000, L1024, L1408, isB0, isB1, subdm, inT, inFl, inFh]
      · rw [f5 1001 (by decide)]; unfold fX10_after; simp (disch := omega) only [l1, hin, bd_some, gd_true, inR_nI, nI_clamp, nI_add, pk_mul, pk_sub, leT, leF, ltT, ltF, eqT, eqF, ite_true, ite_false, reduceIte, nz_nI, oc_s, oc_n, pk_div, pk_rem, m1F, L0, L1, L2, L3, L4, L5, L6, L7, L8, L9, L10, L11, L12, L19, L20, L24, L25, L27, L28, L30, L32, L37, L39, L40, L47, L48, L50, L55, L57, L60, L61, L63, L71, L80, L97, L99, L100, L120, L122, L128, L161, L17, L600, L1000000, L1024, L1408, isB0, isB1, subdm, inT, inFl, inFh]
    rcases rng a3 3 with k | ⟨q, k, k2, rfl⟩ | ⟨q, k, k2, rfl⟩
    · exact no (fun k' _ => neF k (by omega)) (in_neg k (by decide))
    · exact no (fun k' _ => eqF (by omega) (by omega) (by omega)) (inFh (by omega) (by omega))
    · have hin : fX10_in (nI q) (nI 0) (nI 3) = some (nI 1) := inT (by omega) (by omega) (by omega)
      rcases (show q = 0 ∨ q = 1 ∨ q = 2 ∨ q = 3 by omega) with rfl | rfl | rfl | rfl
      · refine fin (eO (bst a'.1 (hP v))) ?_ (em _ hin ?_)
        · unfold fX9_after; simp (disch := omega) only [h1, h2, y1, y2, hmo.size, ef, star_nI ok i6 i3 i5, bd_some, gd_true, inR_nI, nI_clamp, nI_add, pk_mul, pk_sub, leT, leF, ltT, ltF, eqT, eqF, ite_true, ite_false, reduceIte, nz_nI, oc_s, oc_n, pk_div, pk_rem, m1F, L0, L1, L2, L3, L4, L5, L6, L7, L8, L9, L10, L11, L12, L19, L20, L24, L25, L27, L28, L30, L32, L37, L39, L40, L47, L48, L50, L55, L57, L60, L61, L63, L71, L80, L97, L99, L100, L120, L122, L128, L161, L17, L600, L1000000, L1024, L1408, isB0, isB1, subdm, inT, inFl, inFh]
        · unfold bX10_after_269; simp (disch := omega) only [bd_some, gd_true, inR_nI, nI_clamp, nI_add, pk_mul, pk_sub, leT, leF, ltT, ltF, eqT, eqF, ite_true, ite_false, reduceIte, nz_nI, oc_s, oc_n, pk_div, pk_rem, m1F, L0, L1, L2, L3, L4, L5, L6, L7, L8, L9, L10, L11, L12, L19, L20, L24, L25, L27, L28, L30, L32, L37, L39, L40, L47, L48, L50, L55, L57, L60, L61, L63, L71, L80, L97, L99, L100, L120, L122, L128, L161, L17, L600, L1000000, L1024, L1408, isB0, isB1, subdm, inT, inFl, inFh]
      · refine fin (nI a'.2.1) ?_ (em _ hin ?_)
        · unfold fX9_after; simp (disch := omega) only [h1, h2, y1, y2, hmo.size, ef, i3.2.1, bd_some, gd_true, inR_nI, nI_clamp, nI_add, pk_mul, pk_sub, leT, leF, ltT, ltF, eqT, eqF, ite_true, ite_false, reduceIte, nz_nI, oc_s, oc_n, pk_div, pk_rem, m1F, L0, L1, L2, L3, L4, L5, L6, L7, L8, L9, L10, L11, L12, L19, L20, L24, L25, L27, L28, L30, L32, L37, L39, L40, L47, L48, L50, L55, L57, L60, L61, L63, L71, L80, L97, L99, L100, L120, L122, L128, L161, L17, L600, L1000000, L1024, L1408, isB0, isB1, subdm, inT, inFl, inFh]
        · unfold bX10_after_269; simp (disch := omega) only [bd_some, gd_true, inR_nI, nI_clamp, nI_add, pk_mul, pk_sub, leT, leF, ltT, ltF, eqT, eqF, ite_true, ite_false, reduceIte, nz_nI, oc_s, oc_n, pk_div, pk_rem, m1F, L0, L1, L2, L3, L4, L5, L6, L7, L8, L9, L10, L11, L12, L19, L20, L24, L25, L27, L28, L30, L32, L37, L39, L40, L47, L48, L50, L55, L57, L60, L61, L63, L71, L80, L97, L99, L100, L120, L122, L128, L161, L17, L600, L1000000, L1024, L1408, isB0, isB1, subdm, inT, inFl, inFh]
      · refine fin a'.2.2.1 ?_ (em _ hin ?_)
        · unfold fX9_after; simp (disch := omega) only [h1, h2, y1, y2, hmo.size, ef, i3.2.2.1, bd_some, gd_true, inR_nI, nI_clamp, nI_add, pk_mul, pk_sub, leT, leF, ltT, ltF, eqT, eqF, ite_true, ite_false, reduceIte, nz_nI, oc_s, oc_n, pk_div, pk_rem, m1F, L0, L1, L2, L3, L4, L5, L6, L7, L8, L9, L10, L11, L12, L19, L20, L24, L25, L27, L28, L30, L32, L37, L39, L40, L47, L48, L50, L55, L57, L60, L61, L63, L71, L80, L97, L99, L100, L120, L122, L128, L161, L17, L600, L1000000, L1024, L1408, isB0, isB1, subdm, inT, inFl, inFh]
        · unfold bX10_after_269; simp (disch := omega) only [bd_some, gd_true, inR_nI, nI_clamp, nI_add, pk_mul, pk_sub, leT, leF, ltT, ltF, eqT, eqF, ite_true, ite_false, reduceIte, nz_nI, oc_s, oc_n, pk_div, pk_rem, m1F, L0, L1, L2, L3, L4, L5, L6, L7, L8, L9, L10, L11, L12, L19, L20, L24, L25, L27, L28, L30, L32, L37, L39, L40, L47, L48, L50, L55, L57, L60, L61, L63, L71, L80, L97, L99, L100, L120, L122, L128, L161, L17, L600, L1000000, L1024, L1408, isB0, isB1, subdm, inT, inFl, inFh]
      · refine fin (nI a'.2.2.2) ?_ (em _ hin ?_)
        · unfold fX9_after; simp (disch := omega) only [h1, h2, y1, y2, hmo.size, ef, i3.2.2.2, bd_some, gd_true, inR_nI, nI_clamp, nI_add, pk_mul, pk_sub, leT, leF, ltT, ltF, eqT, eqF, ite_true, ite_false, reduceIte, nz_nI, oc_s, oc_n, pk_div, pk_rem, m1F, L0, L1, L2, L3, L4, L5, L6, L7, L8, L9, L10, L11, L12, L19, L20, L24, L25, L27, L28, L30, L32, L37, L39, L40, L47, L48, L50, L55, L57, L60, L61, L63, L71, L80, L97, L99, L100, L120, L122, L128, L161, L17, L600, L1000000, L1024, L1408, isB0, isB1, subdm, inT, inFl, inFh]
        · unfold bX10_after_269; simp (disch := omega) only [bd_some, gd_true, inR_nI, nI_clamp, nI_add, pk_mul, pk_sub, leT, leF, ltT, ltF, eqT, eqF, ite_true, ite_false, reduceIte, nz_nI, oc_s, oc_n, pk_div, pk_rem, m1F, L0, L1, L2, L3, L4, L5, L6, L7, L8, L9, L10, L11, L12, L19, L20, L24, L25, L27, L28, L30, L32, L37, L39, L40, L47, L48, L50, L55, L57, L60, L61, L63, L71, L80, L97, L99, L100, L120, L122, L128, L161, L17, L600, L1000000, L1024, L1408, isB0, isB1, subdm, inT, inFl, inFh]
