theorem whenX {g : Gs} {u : Nat} {v : Hv} (ok : HvOK v) (hx : HX (g u) v) (hu : u ≠ 301) {W D s0 : Nat} (hW : W ≤ 99) (hD : D ≤ 10) (hs : s0 < hS v) (hpk : pkD v W (2 ^ hS v - 1) / 128 = D) (hFe : Fe v W D (fun _ => 0) (2 ^ hS v - 1)) : ∃ g' row, fX3_whenTold g u (nI W) (nI s0) = some (g', nI (row s0)) ∧ (∀ o, o ≠ 301 → g' o = g o) ∧ Gy v W D (fun _ => 0) 0 row := by
  have hS10 := ok.2.1
  obtain ⟨g1, x1, x2⟩ := fewX ok hx hu hW
  rw [hpk] at x1
  have h0 : ∀ o, o ≠ 301 → (ug g1 301 (sa (g1 301) 1 (fl 10 (nI 0) (ga (g1 301) 1)))) o = g o := fun o ho => by rw [ug_ne ho]; exact x2 o ho
  have hx1 : HX ((ug g1 301 (sa (g1 301) 1 (fl 10 (nI 0) (ga (g1 301) 1)))) u) v := by rw [h0 u hu]; exact hx
  rcases place_nI ok hu hW hD 12 (ug g1 301 (sa (g1 301) 1 (fl 10 (nI 0) (ga (g1 301) 1)))) (fun _ => 0) 0 (by omega) (by omega) hx1 (fun e he => by
    rw [ug_same, ga_sae]
    show (if e < 10 then nI 0 else _) = _
    rw [if_pos he]) (fun _ => Nat.zero_le _) (fun _ _ _ h => h) with ⟨n1, -⟩ | ⟨-, g', row, z1, z2, z3, z4, z5⟩
  · rw [tls_0] at n1
    exact absurd hFe n1
  · refine ⟨g', row, ?_, fun o ho => by rw [z2 o ho, h0 o ho], z5⟩
    have z6 := z4 s0 (by omega) hs
    unfold fX3_whenTold
    simp (disch := omega) only [x1, z1, z6, bd_some, gd_true, inR_nI, nI_clamp, nI_add, pk_mul, pk_sub, leT, leF, ltT, ltF, eqT, eqF, ite_true, ite_false, reduceIte, nz_nI, oc_s, oc_n, pk_div, pk_rem, m1F, L0, L1, L2, L3, L4, L5, L6, L7, L8, L9, L10, L11, L12, L19, L20, L24, L25, L27, L28, L30, L32, L37, L39, L40, L47, L48, L50, L55, L57, L60, L61, L63, L71, L80, L97, L99, L100, L120, L122, L128, L161, L17, L600, L1000000, L1024, L1408, isB0, isB1, subdm, inT, inFl, inFh]
theorem Fe_le {v : Hv} {W D T e : Nat} {b : Nat → Nat} (h : Fe v W D b T) (he : e < D) : b e ≤ W := by
  obtain ⟨asg, -, h2⟩ := h
  have := h2 e he
  omega
theorem lc_le {v : Hv} {W D : Nat} {row : Nat → Nat} (h : Gy v W D (fun _ => 0) 0 row) : ∀ i, i ≤ hS v → ∀ e, lc v row (fun _ => 0) 0 i e ≤ W
  | 0, _, e => Nat.zero_le _
  | i + 1, hi, e => by
    have hl := h i (by omega)
    rw [Nat.zero_add] at hl
    show ld (lc v row (fun _ => 0) 0 i) (row (0 + i)) (hWt v (0 + i)) e ≤ W
    rw [Nat.zero_add]
    by_cases c : e < D
    · exact Fe_le hl.2.1 c
    · rw [ld_n (by have := hl.1; omega)]
      exact lc_le h i (by omega) e
/-- one secret's evening, by the reference -/
theorem eve_in {r : Rec} {n : Nat} {v : Hv} (ok : HvOK v) (hd : Hd r n v) {W D s es : Nat} {M : Nat → Nat} (hW : W ≤ 99) (hD : D ≤ 10) (hs : s < hS v) (hb : ∀ e, e < 10 → ga r 40 e = nI (M e)) (hM : ∀ e, M e ≤ W) (hL : Lst v W D M s es) (x3 : Int32) : ∃ r', iter (fun st : Int32 × Int32 × Rec => bX10_evening_81 st.2.2 (nI W) x3 (nI D) st.1 (nI s) (nI (tls (hS v) (s + 1))) st.2.1) (-nI 1, nI 0, r) = some (.inl (nI es, nI (s + 1), r')) ∧ (∀ e, e < 10 → ga r' 40 e = nI (ld M es (hWt v s) e)) ∧ (∀ i, i ≠ 39 → i ≠ 40 → ga r' i = ga r i) ∧ ∀ i, gi r' i = gi r i := by
  have hS10 := ok.2.1
  have hw := (ok.2.2.2.2.2.2.1 s hs).2
  obtain ⟨l1, l2, l3⟩ := hL
  obtain ⟨x, h1, h2⟩ := iter_loop (step := fun st : Int32 × Int32 × Rec => bX10_evening_81 st.2.2 (nI W) x3 (nI D) st.1 (nI s) (nI (tls (hS v) (s + 1))) st.2.1) (fun e st => st.1 = (if e ≤ es then -nI 1 else nI es) ∧ st.2.1 = nI e ∧ (∀ x, x < 10 → ga st.2.2 40 x = nI (if e ≤ es then M x else ld M es (hWt v s) x)) ∧ (∀ i, i ≠ 39 → i ≠ 40 → ga st.2.2 i = ga r i) ∧ ∀ i, gi st.2.2 i = gi r i) (fun y => ∃ r', y = .inl (nI es, nI (s + 1), r') ∧ (∀ e, e < 10 → ga r' 40 e = nI (ld M es (hWt v s) e)) ∧ (∀ i, i ≠ 39 → i ≠ 40 → ga r' i = ga r i) ∧ ∀ i, gi r' i = gi r i) (es + 1) (by
    rintro e ⟨y1, y2, q⟩ he ⟨b1, b2, b3, b4, b5⟩
    dsimp only at b1 b2 b3 b4 b5
    rw [if_pos (by omega)] at b1
    subst b1
    subst b2
    have b3 : ∀ x, x < 10 → ga q 40 x = nI (M x) := fun x hx => by have := b3 x hx; rw [if_pos (by omega)] at this; exact this
    have hdq : Hd q n v := hd.to (fun i _ _ h h4 => b4 i h h4) b5
    have hwq := hdq.wt ok hs
    have hMe := hM e
    have b3e := b3 e (by omega)
    by_cases c : M e + hWt v s ≤ W
    · have hq1 : Hd (sa q 40 (upd (ga q 40) e (nI (M e + hWt v s)))) n v := hdq.to (fun i _ _ _ h4 => ga_san h4) (fun _ => rfl)
      obtain ⟨r', f1, f2, f3⟩ := fill_nI (b := ld M e (hWt v s)) (A := tls (hS v) (s + 1)) ok hq1 (fun x hx => by
        rw [ga_sae, upd_if]
        by_cases d : x = e
        · rw [if_pos d, d, ld_e]
        · rw [if_neg d, ld_n d]; exact b3 x hx) (fun x hx => by
        by_cases d : x = e
        · rw [d, ld_e]; omega
        · rw [ld_n d]; have := hM x; omega) hW (tls_lt _ _)
      have hfe := fD_Fe ok (b := ld M e (hWt v s)) (T := tls (hS v) (s + 1)) (D := D) hW (by omega) hD (fun x hx => by
        by_cases d : x = e
        · rw [d, ld_e]; exact c
        · rw [ld_n d]; exact hM x) (tls_lt _ _)
      have hfd := fD_le (v := v) (b := ld M e (hWt v s)) (T := tls (hS v) (s + 1)) hW (by
        by_cases d : 0 = e
        · rw [← d, ld_e, d]; omega
        · rw [ld_n d]; have := hM 0; omega)
      have f40 : ga r' 40 = upd (ga q 40) e (nI (M e + hWt v s)) := by rw [f2 40 (by decide), ga_sae]
      have f40e : ga r' 40 e = nI (M e + hWt v s) := by rw [f40, upd_if, if_pos rfl]
      have hdr : Hd r' n v := hq1.to (fun i _ _ h _ => f2 i h) f3
      have hwr := hdr.wt ok hs
      by_cases ce : e = es
      · have hlt := hfe.mpr (by rw [ce]; exact l2)
        refine ⟨(nI e, nI (e + 1), sa r' 40 (upd (ga r' 40) e (nI (M e + hWt v s)))), ?_, ?_, rfl, fun x hx => ?_, fun i h3 h4 => ?_, fun i => ?_⟩
        · show bX10_evening_81 q (nI W) x3 (nI D) (-nI 1) (nI s) (nI (tls (hS v) (s + 1))) (nI e) = _
          unfold bX10_evening_81 bX10_evening_156 bX10_evening_185 bX10_evening_187
          simp (disch := omega) only [hwq, b3e, f1, f40e, Nat.sub_zero, bd_some, gd_true, inR_nI, nI_clamp, nI_add, pk_mul, pk_sub, leT, leF, ltT, ltF, eqT, eqF, ite_true, ite_false, reduceIte, nz_nI, oc_s, oc_n, pk_div, pk_rem, m1F, L0, L1, L2, L3, L4, L5, L6, L7, L8, L9, L10, L11, L12, L19, L20, L24, L25, L27, L28, L30, L32, L37, L39, L40, L47, L48, L50, L55, L57, L60, L61, L63, L71, L80, L97, L99, L100, L120, L122, L128, L161, L17, L600, L1000000, L1024, L1408, isB0, isB1, subdm, inT, inFl, inFh]
        · dsimp only
          rw [if_neg (by omega), ce]
        · show ga (sa r' 40 _) 40 x = _
          rw [ga_sae, f40, upd_upd, upd_if, if_neg (show ¬ e + 1 ≤ es by omega)]
          by_cases d : x = e
          · rw [if_pos d, d, ← ce, ld_e]
          · rw [if_neg d, ← ce, ld_n d]; exact b3 x hx
        · show ga (sa r' 40 _) i = _
          rw [ga_san h4, f2 i h3, ga_san h4]; exact b4 i h3 h4
        · show gi r' i = _
          rw [f3]; exact b5 i
      · have hge : ¬ fD v (ld M e (hWt v s)) W (tls (hS v) (s + 1)) / 100 < D := fun z => l3 e (by omega) (hfe.mp z)
        refine ⟨(-nI 1, nI (e + 1), sa r' 40 (upd (ga r' 40) e (nI (M e)))), ?_, ?_, rfl, fun x hx => ?_, fun i h3 h4 => ?_, fun i => ?_⟩
        · show bX10_evening_81 q (nI W) x3 (nI D) (-nI 1) (nI s) (nI (tls (hS v) (s + 1))) (nI e) = _
          unfold bX10_evening_81 bX10_evening_156 bX10_evening_185 bX10_evening_187
          simp (disch := omega) only [hwq, b3e, f1, f40e, hwr, Nat.add_sub_cancel, bd_some, gd_true, inR_nI, nI_clamp, nI_add, pk_mul, pk_sub, leT, leF, ltT, ltF, eqT, eqF, ite_true, ite_false, reduceIte, nz_nI, oc_s, oc_n, pk_div, pk_rem, m1F, L0, L1, L2, L3, L4, L5, L6, L7, L8, L9, L10, L11, L12, L19, L20, L24, L25, L27, L28, L30, L32, L37, L39, L40, L47, L48, L50, L55, L57, L60, L61, L63, L71, L80, L97, L99, L100, L120, L122, L128, L161, L17, L600, L1000000, L1024, L1408, isB0, isB1, subdm, inT, inFl, inFh]
        · dsimp only
          rw [if_pos (by omega)]
        · show ga (sa r' 40 _) 40 x = _
          rw [ga_sae, f40, upd_upd, upd_if, if_pos (show e + 1 ≤ es by omega)]
          by_cases d : x = e
          · rw [if_pos d, d]
          · rw [if_neg d]; exact b3 x hx
        · show ga (sa r' 40 _) i = _
          rw [ga_san h4, f2 i h3, ga_san h4]; exact b4 i h3 h4
        · show gi r' i = _
          rw [f3]; exact b5 i
    · have ce : e ≠ es := fun z => by
        have := Fe_le l2 l1
        rw [ld_e, ← z] at this
        omega
      refine ⟨(-nI 1, nI (e + 1), q), ?_, ?_, rfl, fun x hx => ?_, b4, b5⟩
      · show bX10_evening_81 q (nI W) x3 (nI D) (-nI 1) (nI s) (nI (tls (hS v) (s + 1))) (nI e) = _
        unfold bX10_evening_81 bX10_evening_187
        simp (disch := omega) only [hwq, b3e, bd_some, gd_true, inR_nI, nI_clamp, nI_add, pk_mul, pk_sub, leT, leF, ltT, ltF, eqT, eqF, ite_true, ite_false, reduceIte, nz_nI, oc_s, oc_n, pk_div, pk_rem, m1F, L0, L1, L2, L3, L4, L5, L6, L7, L8, L9, L10, L11, L12, L19, L20, L24, L25, L27, L28, L30, L32, L37, L39, L40, L47, L48, L50, L55, L57, L60, L61, L63, L71, L80, L97, L99, L100, L120, L122, L128, L161, L17, L600, L1000000, L1024, L1408, isB0, isB1, subdm, inT, inFl, inFh]
      · dsimp only
        rw [if_pos (by omega)]
      · dsimp only
        rw [if_pos (by omega)]; exact b3 x hx) (by
    rintro ⟨y1, y2, q⟩ ⟨b1, b2, b3, b4, b5⟩
    dsimp only at b1 b2 b3 b4 b5
    rw [if_neg (by omega)] at b1
    subst b1
    subst b2
    refine ⟨.inl (nI es, nI (s + 1), q), ?_, q, rfl, fun e he => ?_, b4, b5⟩
    · show bX10_evening_81 q (nI W) x3 (nI D) (nI es) (nI s) (nI (tls (hS v) (s + 1))) (nI (es + 1)) = _
      unfold bX10_evening_81 bX10_evening_193
      by_cases c : D ≤ es + 1
      · simp (disch := omega) only [bd_some, gd_true, inR_nI, nI_clamp, nI_add, pk_mul, pk_sub, leT, leF, ltT, ltF, eqT, eqF, ite_true, ite_false, reduceIte, nz_nI, oc_s, oc_n, pk_div, pk_rem, m1F, L0, L1, L2, L3, L4, L5, L6, L7, L8, L9, L10, L11, L12, L19, L20, L24, L25, L27, L28, L30, L32, L37, L39, L40, L47, L48, L50, L55, L57, L60, L61, L63, L71, L80, L97, L99, L100, L120, L122, L128, L161, L17, L600, L1000000, L1024, L1408, isB0, isB1, subdm, inT, inFl, inFh]
        all_goals rfl
      · simp (disch := omega) only [bd_some, gd_true, inR_nI, nI_clamp, nI_add, pk_mul, pk_sub, leT, leF, ltT, ltF, eqT, eqF, ite_true, ite_false, reduceIte, nz_nI, oc_s, oc_n, pk_div, pk_rem, m1F, L0, L1, L2, L3, L4, L5, L6, L7, L8, L9, L10, L11, L12, L19, L20, L24, L25, L27, L28, L30, L32, L37, L39, L40, L47, L48, L50, L55, L57, L60, L61, L63, L71, L80, L97, L99, L100, L120, L122, L128, L161, L17, L600, L1000000, L1024, L1408, isB0, isB1, subdm, inT, inFl, inFh]
        all_goals rfl
    · have := b3 e he
      rw [if_neg (by omega)] at this
      exact this) (s0 := (-nI 1, nI 0, r)) ⟨by dsimp only; rw [if_pos (Nat.zero_le _)], rfl, fun x hx => by dsimp only; rw [if_pos (Nat.zero_le _)]; exact hb x hx, fun _ _ _ => rfl, fun _ => rfl⟩
  obtain ⟨r', rfl, h3⟩ := h2
  exact ⟨r', h1, h3⟩
theorem eveM {r : Rec} {n : Nat} {v : Hv} (ok : HvOK v) (hd : Hd r n v) {W D s0 : Nat} {row : Nat → Nat} (hW : W ≤ 99) (hD : D ≤ 10) (hs : s0 < hS v) (hb : ∀ e, e < 10 → ga r 40 e = nI 0) (hG : Gy v W D (fun _ => 0) 0 row) : ∃ r', iter (fun st : Int32 × Int32 × Rec => bX10_evening_46 st.2.2 (nI W) (nI s0) (nI D) st.1 st.2.1) (-nI 1, nI 0, r) = some (r', nI (row s0)) ∧ (∀ i, i ≠ 39 → i ≠ 40 → ga r' i = ga r i) := by
  have hS10 := ok.2.1
  obtain ⟨x, h1, h2⟩ := iter_loop (step := fun st : Int32 × Int32 × Rec => bX10_evening_46 st.2.2 (nI W) (nI s0) (nI D) st.1 st.2.1) (fun i st => (i = s0 + 1 → st.1 = nI (row s0)) ∧ st.2.1 = nI i ∧ (∀ x, x < 10 → ga st.2.2 40 x = nI (lc v row (fun _ => 0) 0 i x)) ∧ (∀ k, k ≠ 39 → k ≠ 40 → ga st.2.2 k = ga r k) ∧ ∀ k, gi st.2.2 k = gi r k) (fun x => x.2 = nI (row s0) ∧ (∀ i, i ≠ 39 → i ≠ 40 → ga x.1 i = ga r i)) (s0 + 1) (by
    rintro i ⟨y1, y2, q⟩ hi ⟨b1, b2, b3, b4, b5⟩
    dsimp only at b1 b2 b3 b4 b5
    subst b2
    have hdq : Hd q n v := hd.to (fun i _ _ h h4 => b4 i h h4) b5
    have hl := hG i (by omega)
    rw [Nat.zero_add] at hl
    obtain ⟨r', e1, e2, e3, e4⟩ := eve_in ok hdq hW hD (show i < hS v by omega) b3 (lc_le hG i (by omega)) hl (nI s0)
    have hp := p1 (i + 1)
    refine ⟨(nI (row i), nI (i + 1), r'), ?_, fun z => ?_, rfl, fun x hx => ?_, fun k h3 h4 => by dsimp only; rw [e3 k h3 h4]; exact b4 k h3 h4, fun k => by dsimp only; rw [e4]; exact b5 k⟩
    · show bX10_evening_46 q (nI W) (nI s0) (nI D) y1 (nI i) = _
      unfold bX10_evening_46
      simp (disch := omega) only [everything_nI ok hdq, L31, shl_T, andn_nI, bd_some, gd_true, inR_nI, nI_clamp, nI_add, pk_mul, pk_sub, leT, leF, ltT, ltF, eqT, eqF, ite_true, ite_false, reduceIte, nz_nI, oc_s, oc_n, pk_div, pk_rem, m1F, L0, L1, L2, L3, L4, L5, L6, L7, L8, L9, L10, L11, L12, L19, L20, L24, L25, L27, L28, L30, L32, L37, L39, L40, L47, L48, L50, L55, L57, L60, L61, L63, L71, L80, L97, L99, L100, L120, L122, L128, L161, L17, L600, L1000000, L1024, L1408, isB0, isB1, subdm, inT, inFl, inFh]
      exact e1
    · dsimp only
      rw [show i = s0 by omega]
    · dsimp only
      rw [e2 x hx]
      show _ = nI (ld (lc v row (fun _ => 0) 0 i) (row (0 + i)) (hWt v (0 + i)) x)
      rw [Nat.zero_add]) (by
    rintro ⟨y1, y2, q⟩ ⟨b1, b2, b3, b4, b5⟩
    dsimp only at b1 b2 b3 b4 b5
    have b1 := b1 rfl
    subst b1
    subst b2
    refine ⟨(q, nI (row s0)), ?_, rfl, b4⟩
    show bX10_evening_46 q (nI W) (nI s0) (nI D) (nI (row s0)) (nI (s0 + 1)) = _
    unfold bX10_evening_46
    simp (disch := omega) only [bd_some, gd_true, inR_nI, nI_clamp, nI_add, pk_mul, pk_sub, leT, leF, ltT, ltF, eqT, eqF, ite_true, ite_false, reduceIte, nz_nI, oc_s, oc_n, pk_div, pk_rem, m1F, L0, L1, L2, L3, L4, L5, L6, L7, L8, L9, L10, L11, L12, L19, L20, L24, L25, L27, L28, L30, L32, L37, L39, L40, L47, L48, L50, L55, L57, L60, L61, L63, L71, L80, L97, L99, L100, L120, L122, L128, L161, L17, L600, L1000000, L1024, L1408, isB0, isB1, subdm, inT, inFl, inFh]) (s0 := (-nI 1, nI 0, r)) ⟨fun z => by omega, rfl, hb, fun _ _ _ => rfl, fun _ => rfl⟩
  obtain ⟨x1, x2⟩ := x
  obtain ⟨b0, b1⟩ := h2
  dsimp only at b0 b1
  subst b0
  exact ⟨x1, h1, b1⟩
theorem ob_evening : Ob_evening Inv := by
  intro g a1 a2 a3 hI
  rcases house_cases hI a1 with ⟨h1, h2⟩ | ⟨n, v, hn, rfl, ok, hx, h1, h2, h3⟩
  · have h2 := h2 _ (m0 _)
    refine ⟨g, -1, _, ?_, ?_, rfl, hI.1, hI.keep (XP.rf hI.1) (m0 _)⟩
    · unfold fX9_evening; simp (disch := omega) only [h1, bd_some, gd_true, inR_nI, nI_clamp, nI_add, pk_mul, pk_sub, leT, leF, ltT, ltF, eqT, eqF, ite_true, ite_false, reduceIte, nz_nI, oc_s, oc_n, pk_div, pk_rem, m1F, L0, L1, L2, L3, L4, L5, L6, L7, L8, L9, L10, L11, L12, L19, L20, L24, L25, L27, L28, L30, L32, L37, L39, L40, L47, L48, L50, L55, L57, L60, L61, L63, L71, L80, L97, L99, L100, L120, L122, L128, L161, L17, L600, L1000000, L1024, L1408, isB0, isB1, subdm, inT, inFl, inFh]
    · unfold fX10_evening
      rcases in99 a2 with k | k
      · simp (disch := omega) only [k, bd_some, gd_true, inR_nI, nI_clamp, nI_add, pk_mul, pk_sub, leT, leF, ltT, ltF, eqT, eqF, ite_true, ite_false, reduceIte, nz_nI, oc_s, oc_n, pk_div, pk_rem, m1F, L0, L1, L2, L3, L4, L5, L6, L7, L8, L9, L10, L11, L12, L19, L20, L24, L25, L27, L28, L30, L32, L37, L39, L40, L47, L48, L50, L55, L57, L60, L61, L63, L71, L80, L97, L99, L100, L120, L122, L128, L161, L17, L600, L1000000, L1024, L1408, isB0, isB1, subdm, inT, inFl, inFh]
      · simp (disch := omega) only [k, h2, bd_some, gd_true, inR_nI, nI_clamp, nI_add, pk_mul, pk_sub, leT, leF, ltT, ltF, eqT, eqF, ite_true, ite_false, reduceIte, nz_nI, oc_s, oc_n, pk_div, pk_rem, m1F, L0, L1, L2, L3, L4, L5, L6, L7, L8, L9, L10, L11, L12, L19, L20, L24, L25, L27, L28, L30, L32, L37, L39, L40, L47, L48, L50, L55, L57, L60, L61, L63, L71, L80, L97, L99, L100, L120, L122, L128, L161, L17, L600, L1000000, L1024, L1408, isB0, isB1, subdm, inT, inFl, inFh]
  · obtain ⟨r', e1, hd, m1⟩ := h3 _ (m0 _)
    rcases told_cases ok hx a2 with ⟨t1, t2⟩ | ⟨W, hW1, hW, rfl, t2, tt⟩
    · refine ⟨g, -1, _, ?_, ?_, rfl, hI.1, hI.keep (XP.rf hI.1) (m0 _)⟩
      · unfold fX9_evening; simp (disch := omega) only [h1, h2, t1, bd_some, gd_true, inR_nI, nI_clamp, nI_add, pk_mul, pk_sub, leT, leF, ltT, ltF, eqT, eqF, ite_true, ite_false, reduceIte, nz_nI, oc_s, oc_n, pk_div, pk_rem, m1F, L0, L1, L2, L3, L4, L5, L6, L7, L8, L9, L10, L11, L12, L19, L20, L24, L25, L27, L28, L30, L32, L37, L39, L40, L47, L48, L50, L55, L57, L60, L61, L63, L71, L80, L97, L99, L100, L120, L122, L128, L161, L17, L600, L1000000, L1024, L1408, isB0, isB1, subdm, inT, inFl, inFh]
      · unfold fX10_evening; simp (disch := omega) only [t2, bd_some, gd_true, inR_nI, nI_clamp, nI_add, pk_mul, pk_sub, leT, leF, ltT, ltF, eqT, eqF, ite_true, ite_false, reduceIte, nz_nI, oc_s, oc_n, pk_div, pk_rem, m1F, L0, L1, L2, L3, L4, L5, L6, L7, L8, L9, L10, L11, L12, L19, L20, L24, L25, L27, L28, L30, L32, L37, L39, L40, L47, L48, L50, L55, L57, L60, L61, L63, L71, L80, L97, L99, L100, L120, L122, L128, L161, L17, L600, L1000000, L1024, L1408, isB0, isB1, subdm, inT, inFl, inFh]
    · rcases secret_cases hx.S hd.S ok.2.1 a3 with ⟨s1, s2⟩ | ⟨s0, hs0, rfl, s1, s2⟩
      · refine ⟨g, -1, r', ?_, ?_, rfl, hI.1, hI.keep (XP.rf hI.1) ((m0 _).tr m1)⟩
        · unfold fX9_evening
          rcases tt with ⟨t1, -⟩ | ⟨t1, -⟩
          · simp (disch := omega) only [h1, h2, t1, bd_some, gd_true, inR_nI, nI_clamp, nI_add, pk_mul, pk_sub, leT, leF, ltT, ltF, eqT, eqF, ite_true, ite_false, reduceIte, nz_nI, oc_s, oc_n, pk_div, pk_rem, m1F, L0, L1, L2, L3, L4, L5, L6, L7, L8, L9, L10, L11, L12, L19, L20, L24, L25, L27, L28, L30, L32, L37, L39, L40, L47, L48, L50, L55, L57, L60, L61, L63, L71, L80, L97, L99, L100, L120, L122, L128, L161, L17, L600, L1000000, L1024, L1408, isB0, isB1, subdm, inT, inFl, inFh]
          · simp (disch := omega) only [h1, h2, t1, s1, bd_some, gd_true, inR_nI, nI_clamp, nI_add, pk_mul, pk_sub, leT, leF, ltT, ltF, eqT, eqF, ite_true, ite_false, reduceIte, nz_nI, oc_s, oc_n, pk_div, pk_rem, m1F, L0, L1, L2, L3, L4, L5, L6, L7, L8, L9, L10, L11, L12, L19, L20, L24, L25, L27, L28, L30, L32, L37, L39, L40, L47, L48, L50, L55, L57, L60, L61, L63, L71, L80, L97, L99, L100, L120, L122, L128, L161, L17, L600, L1000000, L1024, L1408, isB0, isB1, subdm, inT, inFl, inFh]
        · unfold fX10_evening; simp (disch := omega) only [t2, e1, s2, bd_some, gd_true, inR_nI, nI_clamp, nI_add, pk_mul, pk_sub, leT, leF, ltT, ltF, eqT, eqF, ite_true, ite_false, reduceIte, nz_nI, oc_s, oc_n, pk_div, pk_rem, m1F, L0, L1, L2, L3, L4, L5, L6, L7, L8, L9, L10, L11, L12, L19, L20, L24, L25, L27, L28, L30, L32, L37, L39, L40, L47, L48, L50, L55, L57, L60, L61, L63, L71, L80, L97, L99, L100, L120, L122, L128, L161, L17, L600, L1000000, L1024, L1408, isB0, isB1, subdm, inT, inFl, inFh]
      · obtain ⟨r1, f1, f2, f3, f4⟩ := fewM ok hd hW
        have hd1 : Hd r1 n v := hd.to (fun i _ _ h h4 => f2 i h h4) f3
        have mp1 : MP (g 1001) r1 := ((m0 _).tr m1).tr (MP.of (fun k hk => f2 k (by omega) (by omega)))
        rcases tt with ⟨t1, s9, hs9, hh⟩ | ⟨t1, hw⟩
        · rw [fwM_heavy hs9 hh] at f1
          refine ⟨g, -1, r1, ?_, ?_, rfl, hI.1, hI.keep (XP.rf hI.1) mp1⟩
          · unfold fX9_evening; simp (disch := omega) only [h1, h2, t1, bd_some, gd_true, inR_nI, nI_clamp, nI_add, pk_mul, pk_sub, leT, leF, ltT, ltF, eqT, eqF, ite_true, ite_false, reduceIte, nz_nI, oc_s, oc_n, pk_div, pk_rem, m1F, L0, L1, L2, L3, L4, L5, L6, L7, L8, L9, L10, L11, L12, L19, L20, L24, L25, L27, L28, L30, L32, L37, L39, L40, L47, L48, L50, L55, L57, L60, L61, L63, L71, L80, L97, L99, L100, L120, L122, L128, L161, L17, L600, L1000000, L1024, L1408, isB0, isB1, subdm, inT, inFl, inFh]
          · have hS10 := ok.2.1
            unfold fX10_evening
            simp (disch := omega) only [t2, e1, s2, f1, bd_some, gd_true, inR_nI, nI_clamp, nI_add, pk_mul, pk_sub, leT, leF, ltT, ltF, eqT, eqF, ite_true, ite_false, reduceIte, nz_nI, oc_s, oc_n, pk_div, pk_rem, m1F, L0, L1, L2, L3, L4, L5, L6, L7, L8, L9, L10, L11, L12, L19, L20, L24, L25, L27, L28, L30, L32, L37, L39, L40, L47, L48, L50, L55, L57, L60, L61, L63, L71, L80, L97, L99, L100, L120, L122, L128, L161, L17, L600, L1000000, L1024, L1408, isB0, isB1, subdm, inT, inFl, inFh]
            refine iter_end (step := fun st : Int32 × Int32 × Rec => bX10_evening_46 st.2.2 (nI W) (nI s0) (-nI 1) st.1 st.2.1) (s := (-nI 1, nI 0, r1)) ?_
            show bX10_evening_46 r1 (nI W) (nI s0) (-nI 1) (-nI 1) (nI 0) = _
            unfold bX10_evening_46
            simp (disch := omega) only [bd_some, gd_true, inR_nI, nI_clamp, nI_add, pk_mul, pk_sub, leT, leF, ltT, ltF, eqT, eqF, ite_true, ite_false, reduceIte, nz_nI, oc_s, oc_n, pk_div, pk_rem, m1F, L0, L1, L2, L3, L4, L5, L6, L7, L8, L9, L10, L11, L12, L19, L20, L24, L25, L27, L28, L30, L32, L37, L39, L40, L47, L48, L50, L55, L57, L60, L61, L63, L71, L80, L97, L99, L100, L120, L122, L128, L161, L17, L600, L1000000, L1024, L1408, isB0, isB1, subdm, inT, inFl, inFh]
        · have hp1 := p1 (hS v)
          have h21 : 2 ^ 1 ≤ 2 ^ hS v := Nat.pow_le_pow_right (by decide) (by omega)
          obtain ⟨i1, i2, i3⟩ := pk_fD ok hW1 hW hw (2 ^ hS v - 1) (by omega) (by omega)
          obtain ⟨D, hDe⟩ : ∃ D, D = fD v (fun _ => 0) W (2 ^ hS v - 1) / 100 + 1 := ⟨_, rfl⟩
          have hD : D ≤ 10 := by omega
          have hpk : pkD v W (2 ^ hS v - 1) / 128 = D := by omega
          have hFe : Fe v W D (fun _ => 0) (2 ^ hS v - 1) := (fD_Fe ok hW (by omega) hD (fun _ _ => Nat.zero_le _) (by omega)).mp (by omega)
          rw [fwM_pk ok hW1 hW hw, hpk] at f1
          obtain ⟨g', row, w1, w2, w3⟩ := whenX ok hx (show 200 + n ≠ 301 by omega) hW hD hs0 hpk hFe
          obtain ⟨r2, v1, v2⟩ := eveM ok hd1 hW hD hs0 f4 w3
          have hr : g' 1001 = g 1001 := w2 _ (by decide)
          refine ⟨g', nI (row s0), r2, ?_, ?_, by rw [w2 901 (by decide)], by rw [w2 1 (by decide)]; exact hI.1, hI.keep (XP.of hI.1 w2 (Or.inr (Or.inr (Or.inl rfl)))) (mp1.tr (MP.of (fun k hk => v2 k (by omega) (by omega))))⟩
          · unfold fX9_evening; simp (disch := omega) only [h1, h2, t1, s1, w1, bd_some, gd_true, inR_nI, nI_clamp, nI_add, pk_mul, pk_sub, leT, leF, ltT, ltF, eqT, eqF, ite_true, ite_false, reduceIte, nz_nI, oc_s, oc_n, pk_div, pk_rem, m1F, L0, L1, L2, L3, L4, L5, L6, L7, L8, L9, L10, L11, L12, L19, L20, L24, L25, L27, L28, L30, L32, L37, L39, L40, L47, L48, L50, L55, L57, L60, L61, L63, L71, L80, L97, L99, L100, L120, L122, L128, L161, L17, L600, L1000000, L1024, L1408, isB0, isB1, subdm, inT, inFl, inFh]
          · rw [hr]
            unfold fX10_evening
            simp (disch := omega) only [t2, e1, s2, f1, bd_some, gd_true, inR_nI, nI_clamp, nI_add, pk_mul, pk_sub, leT, leF, ltT, ltF, eqT, eqF, ite_true, ite_false, reduceIte, nz_nI, oc_s, oc_n, pk_div, pk_rem, m1F, L0, L1, L2, L3, L4, L5, L6, L7, L8, L9, L10, L11, L12, L19, L20, L24, L25, L27, L28, L30, L32, L37, L39, L40, L47, L48, L50, L55, L57, L60, L61, L63, L71, L80, L97, L99, L100, L120, L122, L128, L161, L17, L600, L1000000, L1024, L1408, isB0, isB1, subdm, inT, inFl, inFh]
            exact v1
