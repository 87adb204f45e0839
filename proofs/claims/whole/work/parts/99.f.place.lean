def tls (S s : Nat) : Nat := andn (2 ^ S - 1) (2 ^ s - 1)
theorem tls_bit (S s k : Nat) : (tls S s).testBit k = (decide (k < S) && !decide (k < s)) := by
  unfold tls
  rw [andn_bit, Nat.testBit_two_pow_sub_one, Nat.testBit_two_pow_sub_one]
theorem tls_lt (S s : Nat) : tls S s < 2 ^ S := by
  have := p1 S
  exact andn_lt (by omega)
theorem tls_in {S s : Nat} (h : s < S) : (tls S s).testBit s = true := by
  rw [tls_bit, decide_eq_true h, decide_eq_false (Nat.lt_irrefl s)]
  rfl
theorem tls_del (S s : Nat) : andn (tls S s) (2 ^ s) = tls S (s + 1) := by
  apply Nat.eq_of_testBit_eq
  intro k
  rw [dl_bit, tls_bit, tls_bit]
  apply Bool.eq_iff_iff.mpr
  simp only [Bool.and_eq_true, Bool.not_eq_true', decide_eq_true_eq, decide_eq_false_iff_not]
  omega
theorem tls_end (S : Nat) : tls S S = 0 := by
  apply Nat.eq_of_testBit_eq
  intro k
  rw [tls_bit, Nat.zero_testBit]
  by_cases c : k < S
  · rw [decide_eq_true c]; rfl
  · rw [decide_eq_false c]; rfl
theorem tls_0 (S : Nat) : tls S 0 = 2 ^ S - 1 := by
  unfold tls
  rw [show 2 ^ 0 - 1 = 0 from rfl, andn_zero]
def Lst (v : Hv) (W D : Nat) (L : Nat → Nat) (s e : Nat) : Prop := e < D ∧ Fe v W D (ld L e (hWt v s)) (tls (hS v) (s + 1)) ∧ ∀ e', e' < e → ¬ Fe v W D (ld L e' (hWt v s)) (tls (hS v) (s + 1))
def lc (v : Hv) (row : Nat → Nat) (L : Nat → Nat) (s : Nat) : Nat → Nat → Nat
  | 0 => L
  | k + 1 => ld (lc v row L s k) (row (s + k)) (hWt v (s + k))
def Gy (v : Hv) (W D : Nat) (L : Nat → Nat) (s : Nat) (row : Nat → Nat) : Prop := ∀ k, s + k < hS v → Lst v W D (lc v row L s k) (s + k) (row (s + k))
theorem lc_shift {v : Hv} {row L : Nat → Nat} {s : Nat} : ∀ k, lc v row L s (k + 1) = lc v row (ld L (row s) (hWt v s)) (s + 1) k
  | 0 => rfl
  | k + 1 => by
    show ld (lc v row L s (k + 1)) (row (s + (k + 1))) (hWt v (s + (k + 1))) = ld (lc v row (ld L (row s) (hWt v s)) (s + 1) k) (row (s + 1 + k)) (hWt v (s + 1 + k))
    rw [lc_shift k, show s + (k + 1) = s + 1 + k by omega]
theorem lc_congr {v : Hv} {row row' L : Nat → Nat} {s : Nat} (h : ∀ j, s ≤ j → row j = row' j) : ∀ k, lc v row L s k = lc v row' L s k
  | 0 => rfl
  | k + 1 => by
    show ld (lc v row L s k) (row (s + k)) (hWt v (s + k)) = ld (lc v row' L s k) (row' (s + k)) (hWt v (s + k))
    rw [lc_congr h k, h (s + k) (by omega)]
def pG (g : Gs) (s e x : Nat) : Gs := ug g 301 (sa (sa (g 301) 2 (upd (ga (g 301) 2) s (nI e))) 1 (upd (ga (g 301) 1) e (nI x)))
theorem pl_heavy {g : Gs} {u : Nat} {v : Hv} (ok : HvOK v) (hx : HX (g u) v) {W D s e : Nat} {L : Nat → Nat} (hW : W ≤ 99) (hD : D ≤ 10) (hs : s < hS v) (he : e < D) (hl : ga (g 301) 1 e = nI (L e)) (hL : L e ≤ W) (h : W < L e + hWt v s) (rc : Gs → Nat → Int32 → Int32 → Int32 → Option (Gs × Int32)) : bX3_place_20 g rc u (nI W) (nI D) (nI s) (nI e) = bX3_place_117 g rc u (nI W) (nI D) (nI s) (nI e) (if L e = 0 then nI 1 else nI 0) := by
  have hS10 := ok.2.1
  have hw := (ok.2.2.2.2.2.2.1 s hs).2
  unfold bX3_place_20 bX3_place_47
  by_cases c : L e = 0
  · rw [if_pos c]
    simp (disch := omega) only [hl, hx.wt, bd_some, gd_true, inR_nI, nI_clamp, nI_add, pk_mul, pk_sub, leT, leF, ltT, ltF, eqT, eqF, ite_true, ite_false, reduceIte, nz_nI, oc_s, oc_n, pk_div, pk_rem, m1F, L0, L1, L2, L3, L4, L5, L6, L7, L8, L9, L10, L11, L12, L19, L20, L24, L25, L27, L28, L30, L32, L37, L39, L40, L47, L48, L50, L55, L57, L60, L61, L63, L71, L80, L97, L99, L100, L120, L122, L128, L161, L17, L600, L1000000, L1024, L1408, isB0, isB1, subdm, inT, inFl, inFh]
  · rw [if_neg c]
    simp (disch := omega) only [hl, hx.wt, bd_some, gd_true, inR_nI, nI_clamp, nI_add, pk_mul, pk_sub, leT, leF, ltT, ltF, eqT, eqF, ite_true, ite_false, reduceIte, nz_nI, oc_s, oc_n, pk_div, pk_rem, m1F, L0, L1, L2, L3, L4, L5, L6, L7, L8, L9, L10, L11, L12, L19, L20, L24, L25, L27, L28, L30, L32, L37, L39, L40, L47, L48, L50, L55, L57, L60, L61, L63, L71, L80, L97, L99, L100, L120, L122, L128, L161, L17, L600, L1000000, L1024, L1408, isB0, isB1, subdm, inT, inFl, inFh]
theorem pl_false {g gz : Gs} {u : Nat} {v : Hv} (ok : HvOK v) (hx : HX (g u) v) (hu : u ≠ 301) {W D s e : Nat} {L : Nat → Nat} (hW : W ≤ 99) (hD : D ≤ 10) (hs : s < hS v) (he : e < D) (hl : ga (g 301) 1 e = nI (L e)) (hL : L e ≤ W) (h : L e + hWt v s ≤ W) {rc : Gs → Nat → Int32 → Int32 → Int32 → Option (Gs × Int32)} (hrc : rc (pG g s e (L e + hWt v s)) u (nI W) (nI D) (nI (s + 1)) = some (gz, nI 0)) (hz : ga (gz 301) 1 e = nI (L e + hWt v s)) (hxz : HX (gz u) v) : bX3_place_20 g rc u (nI W) (nI D) (nI s) (nI e) = bX3_place_117 (ug gz 301 (sa (gz 301) 1 (upd (ga (gz 301) 1) e (nI (L e))))) rc u (nI W) (nI D) (nI s) (nI e) (if L e = 0 then nI 1 else nI 0) := by
  have hS10 := ok.2.1
  have hw := (ok.2.2.2.2.2.2.1 s hs).2
  unfold bX3_place_20 bX3_place_47
  unfold pG at hrc
  by_cases c : L e = 0
  · rw [if_pos c]
    simp (disch := omega) only [hl, hx.wt, hrc, hz, hxz.wt, Nat.add_sub_cancel, bd_some, gd_true, inR_nI, nI_clamp, nI_add, pk_mul, pk_sub, leT, leF, ltT, ltF, eqT, eqF, ite_true, ite_false, reduceIte, nz_nI, oc_s, oc_n, pk_div, pk_rem, m1F, L0, L1, L2, L3, L4, L5, L6, L7, L8, L9, L10, L11, L12, L19, L20, L24, L25, L27, L28, L30, L32, L37, L39, L40, L47, L48, L50, L55, L57, L60, L61, L63, L71, L80, L97, L99, L100, L120, L122, L128, L161, L17, L600, L1000000, L1024, L1408, isB0, isB1, subdm, inT, inFl, inFh, ug_same, ug_ug, ug_ne, ga_sae, ga_san, gi_sie, gi_sin, ga_si, gi_sa, gr_si, gr_sa, ga_sr, gi_sr, gr_sre]
  · rw [if_neg c]
    simp (disch := omega) only [hl, hx.wt, hrc, hz, hxz.wt, Nat.add_sub_cancel, bd_some, gd_true, inR_nI, nI_clamp, nI_add, pk_mul, pk_sub, leT, leF, ltT, ltF, eqT, eqF, ite_true, ite_false, reduceIte, nz_nI, oc_s, oc_n, pk_div, pk_rem, m1F, L0, L1, L2, L3, L4, L5, L6, L7, L8, L9, L10, L11, L12, L19, L20, L24, L25, L27, L28, L30, L32, L37, L39, L40, L47, L48, L50, L55, L57, L60, L61, L63, L71, L80, L97, L99, L100, L120, L122, L128, L161, L17, L600, L1000000, L1024, L1408, isB0, isB1, subdm, inT, inFl, inFh, ug_same, ug_ug, ug_ne, ga_sae, ga_san, gi_sie, gi_sin, ga_si, gi_sa, gr_si, gr_sa, ga_sr, gi_sr, gr_sre]
theorem pl_true {g gz : Gs} {u : Nat} {v : Hv} (ok : HvOK v) (hx : HX (g u) v) (hu : u ≠ 301) {W D s e : Nat} {L : Nat → Nat} (hW : W ≤ 99) (hD : D ≤ 10) (hs : s < hS v) (he : e < D) (hl : ga (g 301) 1 e = nI (L e)) (hL : L e ≤ W) (h : L e + hWt v s ≤ W) {rc : Gs → Nat → Int32 → Int32 → Int32 → Option (Gs × Int32)} (hrc : rc (pG g s e (L e + hWt v s)) u (nI W) (nI D) (nI (s + 1)) = some (gz, nI 1)) : bX3_place_20 g rc u (nI W) (nI D) (nI s) (nI e) = some (.inr (gz, nI 1)) := by
  have hS10 := ok.2.1
  have hw := (ok.2.2.2.2.2.2.1 s hs).2
  unfold bX3_place_20 bX3_place_47
  unfold pG at hrc
  by_cases c : L e = 0
  · simp (disch := omega) only [hl, hx.wt, hrc, bd_some, gd_true, inR_nI, nI_clamp, nI_add, pk_mul, pk_sub, leT, leF, ltT, ltF, eqT, eqF, ite_true, ite_false, reduceIte, nz_nI, oc_s, oc_n, pk_div, pk_rem, m1F, L0, L1, L2, L3, L4, L5, L6, L7, L8, L9, L10, L11, L12, L19, L20, L24, L25, L27, L28, L30, L32, L37, L39, L40, L47, L48, L50, L55, L57, L60, L61, L63, L71, L80, L97, L99, L100, L120, L122, L128, L161, L17, L600, L1000000, L1024, L1408, isB0, isB1, subdm, inT, inFl, inFh, ug_same, ug_ug, ug_ne, ga_sae, ga_san, gi_sie, gi_sin, ga_si, gi_sa, gr_si, gr_sa, ga_sr, gi_sr, gr_sre]
  · simp (disch := omega) only [hl, hx.wt, hrc, bd_some, gd_true, inR_nI, nI_clamp, nI_add, pk_mul, pk_sub, leT, leF, ltT, ltF, eqT, eqF, ite_true, ite_false, reduceIte, nz_nI, oc_s, oc_n, pk_div, pk_rem, m1F, L0, L1, L2, L3, L4, L5, L6, L7, L8, L9, L10, L11, L12, L19, L20, L24, L25, L27, L28, L30, L32, L37, L39, L40, L47, L48, L50, L55, L57, L60, L61, L63, L71, L80, L97, L99, L100, L120, L122, L128, L161, L17, L600, L1000000, L1024, L1408, isB0, isB1, subdm, inT, inFl, inFh, ug_same, ug_ug, ug_ne, ga_sae, ga_san, gi_sie, gi_sin, ga_si, gi_sa, gr_si, gr_sa, ga_sr, gi_sr, gr_sre]
def PlC (v : Hv) (W D : Nat) (g : Gs) (L : Nat → Nat) (s : Nat) (X : Option (Gs × Int32)) : Prop :=
  (¬ Fe v W D L (tls (hS v) s) ∧ ∃ g', X = some (g', nI 0) ∧ (∀ o, o ≠ 301 → g' o = g o) ∧ (∀ e, e < 10 → ga (g' 301) 1 e = nI (L e)) ∧ ∀ j, j < s → ga (g' 301) 2 j = ga (g 301) 2 j) ∨
  (Fe v W D L (tls (hS v) s) ∧ ∃ g' row, X = some (g', nI 1) ∧ (∀ o, o ≠ 301 → g' o = g o) ∧ (∀ j, j < s → ga (g' 301) 2 j = ga (g 301) 2 j) ∧ (∀ j, s ≤ j → j < hS v → ga (g' 301) 2 j = nI (row j)) ∧ Gy v W D L s row)
theorem place_nI {u : Nat} {v : Hv} (ok : HvOK v) (hu : u ≠ 301) {W D : Nat} (hW : W ≤ 99) (hD : D ≤ 10) : ∀ (d : Nat) (g : Gs) (L : Nat → Nat) (s : Nat), hS v + 1 ≤ d + s → s ≤ hS v → HX (g u) v → (∀ e, e < 10 → ga (g 301) 1 e = nI (L e)) → (∀ e, L e ≤ W) → (∀ e e', e ≤ e' → L e = 0 → L e' = 0) → PlC v W D g L s (fpl d g u (nI W) (nI D) (nI s)) := by
  have hS10 := ok.2.1
  intro d
  induction d with
  | zero => intro g L s h1 h2; omega
  | succ d ih =>
    intro g L s h1 h2 hx hl hL hPS
    show PlC v W D g L s (fX3_place g (fpl d) u (nI W) (nI D) (nI s))
    by_cases hs : s < hS v
    · have hw := (ok.2.2.2.2.2.2.1 s hs).2
      have he : fX3_place g (fpl d) u (nI W) (nI D) (nI s) = iter (fun st : Int32 × Gs => bX3_place_20 st.2 (fpl d) u (nI W) (nI D) (nI s) st.1) (nI 0, g) := by
        unfold fX3_place
        simp (disch := omega) only [hx.S, bd_some, gd_true, inR_nI, nI_clamp, nI_add, pk_mul, pk_sub, leT, leF, ltT, ltF, eqT, eqF, ite_true, ite_false, reduceIte, nz_nI, oc_s, oc_n, pk_div, pk_rem, m1F, L0, L1, L2, L3, L4, L5, L6, L7, L8, L9, L10, L11, L12, L19, L20, L24, L25, L27, L28, L30, L32, L37, L39, L40, L47, L48, L50, L55, L57, L60, L61, L63, L71, L80, L97, L99, L100, L120, L122, L128, L161, L17, L600, L1000000, L1024, L1408, isB0, isB1, subdm, inT, inFl, inFh]
      rw [he]
      have hstep := Fe_step (v := v) (W := W) (D := D) (b := L) (tls_in hs) (show s < 10 by omega)
      rw [tls_del] at hstep
      have loop : ∀ k e (G : Gs), e + k = D → (∀ o, o ≠ 301 → G o = g o) → (∀ x, x < 10 → ga (G 301) 1 x = nI (L x)) → (∀ j, j < s → ga (G 301) 2 j = ga (g 301) 2 j) → (∀ x, x < e → L x ≠ 0 ∧ ¬ Fe v W D (ld L x (hWt v s)) (tls (hS v) (s + 1))) → PlC v W D g L s (iter (fun st : Int32 × Gs => bX3_place_20 st.2 (fpl d) u (nI W) (nI D) (nI s) st.1) (nI e, G)) := by
        intro k
        induction k with
        | zero =>
          intro e G hk a1 a2 a3 a4
          refine Or.inl ⟨fun q => ?_, G, ?_, a1, a2, a3⟩
          · obtain ⟨x, x1, x2⟩ := hstep.mp q
            exact (a4 x (by omega)).2 x2
          · refine iter_end (step := fun st : Int32 × Gs => bX3_place_20 st.2 (fpl d) u (nI W) (nI D) (nI s) st.1) (s := (nI e, G)) ?_
            show bX3_place_20 G (fpl d) u (nI W) (nI D) (nI s) (nI e) = _
            unfold bX3_place_20
            simp (disch := omega) only [bd_some, gd_true, inR_nI, nI_clamp, nI_add, pk_mul, pk_sub, leT, leF, ltT, ltF, eqT, eqF, ite_true, ite_false, reduceIte, nz_nI, oc_s, oc_n, pk_div, pk_rem, m1F, L0, L1, L2, L3, L4, L5, L6, L7, L8, L9, L10, L11, L12, L19, L20, L24, L25, L27, L28, L30, L32, L37, L39, L40, L47, L48, L50, L55, L57, L60, L61, L63, L71, L80, L97, L99, L100, L120, L122, L128, L161, L17, L600, L1000000, L1024, L1408, isB0, isB1, subdm, inT, inFl, inFh]
        | succ k ihk =>
          intro e G hk a1 a2 a3 a4
          have hxG : HX (G u) v := by rw [a1 u hu]; exact hx
          have fin : ∀ G2 : Gs, (∀ o, o ≠ 301 → G2 o = g o) → (∀ x, x < 10 → ga (G2 301) 1 x = nI (L x)) → (∀ j, j < s → ga (G2 301) 2 j = ga (g 301) 2 j) → ¬ Fe v W D (ld L e (hWt v s)) (tls (hS v) (s + 1)) → bX3_place_20 G (fpl d) u (nI W) (nI D) (nI s) (nI e) = bX3_place_117 G2 (fpl d) u (nI W) (nI D) (nI s) (nI e) (if L e = 0 then nI 1 else nI 0) → PlC v W D g L s (iter (fun st : Int32 × Gs => bX3_place_20 st.2 (fpl d) u (nI W) (nI D) (nI s) st.1) (nI e, G)) := by
            intro G2 b1 b2 b3 b4 b5
            by_cases c : L e = 0
            · refine Or.inl ⟨fun q => ?_, G2, ?_, b1, b2, b3⟩
              · obtain ⟨x, x1, x2⟩ := hstep.mp q
                by_cases c2 : x < e
                · exact (a4 x c2).2 x2
                · have c3 := hPS e x (by omega) c
                  exact b4 (Fe_swap (e1 := x) (e2 := e) x1 (by omega) (by omega) x2)
              · refine iter_end (step := fun st : Int32 × Gs => bX3_place_20 st.2 (fpl d) u (nI W) (nI D) (nI s) st.1) (s := (nI e, G)) ?_
                show bX3_place_20 G (fpl d) u (nI W) (nI D) (nI s) (nI e) = _
                rw [b5, if_pos c]
                unfold bX3_place_117
                simp (disch := omega) only [bd_some, gd_true, inR_nI, nI_clamp, nI_add, pk_mul, pk_sub, leT, leF, ltT, ltF, eqT, eqF, ite_true, ite_false, reduceIte, nz_nI, oc_s, oc_n, pk_div, pk_rem, m1F, L0, L1, L2, L3, L4, L5, L6, L7, L8, L9, L10, L11, L12, L19, L20, L24, L25, L27, L28, L30, L32, L37, L39, L40, L47, L48, L50, L55, L57, L60, L61, L63, L71, L80, L97, L99, L100, L120, L122, L128, L161, L17, L600, L1000000, L1024, L1408, isB0, isB1, subdm, inT, inFl, inFh]
            · rw [iter_step (step := fun st : Int32 × Gs => bX3_place_20 st.2 (fpl d) u (nI W) (nI D) (nI s) st.1) (s := (nI e, G)) (s' := (nI (e + 1), G2)) (by
                show bX3_place_20 G (fpl d) u (nI W) (nI D) (nI s) (nI e) = _
                rw [b5, if_neg c]
                unfold bX3_place_117
                simp (disch := omega) only [bd_some, gd_true, inR_nI, nI_clamp, nI_add, pk_mul, pk_sub, leT, leF, ltT, ltF, eqT, eqF, ite_true, ite_false, reduceIte, nz_nI, oc_s, oc_n, pk_div, pk_rem, m1F, L0, L1, L2, L3, L4, L5, L6, L7, L8, L9, L10, L11, L12, L19, L20, L24, L25, L27, L28, L30, L32, L37, L39, L40, L47, L48, L50, L55, L57, L60, L61, L63, L71, L80, L97, L99, L100, L120, L122, L128, L161, L17, L600, L1000000, L1024, L1408, isB0, isB1, subdm, inT, inFl, inFh])]
              refine ihk (e + 1) G2 (by omega) b1 b2 b3 (fun x hx => ?_)
              by_cases c2 : x = e
              · rw [c2]; exact ⟨c, b4⟩
              · exact a4 x (by omega)
          by_cases hle : L e + hWt v s ≤ W
          · have q1 : ∀ o, o ≠ 301 → pG G s e (L e + hWt v s) o = g o := fun o ho => by unfold pG; rw [ug_ne ho]; exact a1 o ho
            have q2 : ∀ x, x < 10 → ga (pG G s e (L e + hWt v s) 301) 1 x = nI (ld L e (hWt v s) x) := by
              intro x hx10
              unfold pG
              rw [ug_same, ga_sae, upd_if]
              by_cases c : x = e
              · rw [if_pos c, c, ld_e]
              · rw [if_neg c, ld_n c]; exact a2 x hx10
            have q3 : ga (pG G s e (L e + hWt v s) 301) 2 = upd (ga (G 301) 2) s (nI e) := by
              unfold pG
              rw [ug_same, ga_san (by decide), ga_sae]
            have hxP : HX (pG G s e (L e + hWt v s) u) v := by rw [q1 u hu]; exact hx
            have hne : ∀ x, x < e → L x ≠ 0 := fun x hx => (a4 x hx).1
            rcases ih (pG G s e (L e + hWt v s)) (ld L e (hWt v s)) (s + 1) (by omega) (by omega) hxP q2 (fun x => by
                by_cases c : x = e
                · rw [c, ld_e]; exact hle
                · rw [ld_n c]; exact hL x) (fun x y hxy hx0 => by
                have c1 : x ≠ e := fun q => by rw [q, ld_e] at hx0; omega
                rw [ld_n c1] at hx0
                have c2 : ¬ x < e := fun q => hne x q hx0
                rw [ld_n (by omega)]
                exact hPS x y hxy hx0) with ⟨n1, gz, z1, z2, z3, z4⟩ | ⟨n1, gz, row, z1, z2, z3, z4, z5⟩
            · have hz : ga (gz 301) 1 e = nI (L e + hWt v s) := by rw [z3 e (by omega), ld_e]
              have hxz : HX (gz u) v := by rw [z2 u hu, q1 u hu]; exact hx
              refine fin (ug gz 301 (sa (gz 301) 1 (upd (ga (gz 301) 1) e (nI (L e))))) (fun o ho => by rw [ug_ne ho, z2 o ho, q1 o ho]) (fun x hx10 => ?_) (fun j hj => ?_) n1 (pl_false ok hxG hu hW hD hs (by omega) (a2 e (by omega)) (hL e) hle z1 hz hxz)
              · rw [ug_same, ga_sae, upd_if]
                by_cases c : x = e
                · rw [if_pos c, c]
                · rw [if_neg c, z3 x hx10, ld_n c]
              · rw [ug_same, ga_san (by decide), z4 j (by omega), q3, upd_if, if_neg (by omega)]
                exact a3 j hj
            · refine Or.inr ⟨hstep.mpr ⟨e, by omega, n1⟩, gz, fun j => if j = s then e else row j, ?_, fun o ho => by rw [z2 o ho, q1 o ho], fun j hj => ?_, fun j hj1 hj2 => ?_, ?_⟩
              · refine iter_end (step := fun st : Int32 × Gs => bX3_place_20 st.2 (fpl d) u (nI W) (nI D) (nI s) st.1) (s := (nI e, G)) ?_
                exact pl_true ok hxG hu hW hD hs (by omega) (a2 e (by omega)) (hL e) hle z1
              · rw [z3 j (by omega), q3, upd_if, if_neg (by omega)]
                exact a3 j hj
              · dsimp only
                by_cases c : j = s
                · rw [if_pos c, c, z3 s (by omega), q3, upd_if, if_pos rfl]
                · rw [if_neg c]; exact z4 j (by omega) hj2
              · intro k hk
                cases k with
                | zero =>
                  show Lst v W D L s (if s = s then e else row s)
                  rw [if_pos rfl]
                  exact ⟨by omega, n1, fun x hx => (a4 x hx).2⟩
                | succ k =>
                  have hz5 := z5 k (by omega)
                  rw [lc_shift]
                  dsimp only
                  rw [if_pos rfl, if_neg (show ¬ s + (k + 1) = s by omega), lc_congr (row' := row) (fun j hj => if_neg (by omega)), show s + (k + 1) = s + 1 + k by omega]
                  exact hz5
          · refine fin G a1 a2 a3 (fun q => ?_) (pl_heavy ok hxG hW hD hs (by omega) (a2 e (by omega)) (hL e) (by omega) (fpl d))
            obtain ⟨asg, -, q2⟩ := q
            have := q2 e (by omega)
            rw [ld_e] at this
            omega
      exact loop D 0 g (by omega) (fun _ _ => rfl) hl (fun _ _ => rfl) (fun x hx => by omega)
    · have e : s = hS v := by omega
      refine Or.inr ⟨?_, g, fun _ => 0, ?_, fun _ _ => rfl, fun _ _ => rfl, fun j h1 h2 => by omega, fun k hk => by omega⟩
      · rw [e, tls_end]
        exact ⟨fun _ => 0, fun x _ h => (by rw [Nat.zero_testBit] at h; cases h), fun x hx => by rw [sumAt_0]; exact hL x⟩
      · unfold fX3_place
        simp (disch := omega) only [hx.S, bd_some, gd_true, inR_nI, nI_clamp, nI_add, pk_mul, pk_sub, leT, leF, ltT, ltF, eqT, eqF, ite_true, ite_false, reduceIte, nz_nI, oc_s, oc_n, pk_div, pk_rem, m1F, L0, L1, L2, L3, L4, L5, L6, L7, L8, L9, L10, L11, L12, L19, L20, L24, L25, L27, L28, L30, L32, L37, L39, L40, L47, L48, L50, L55, L57, L60, L61, L63, L71, L80, L97, L99, L100, L120, L122, L128, L161, L17, L600, L1000000, L1024, L1408, isB0, isB1, subdm, inT, inFl, inFh]
