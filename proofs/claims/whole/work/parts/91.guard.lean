/-! theft, guarded -/
theorem allP_lt {v : Hv} : 2 ^ hP v - 1 < 2 ^ hP v := by have := p1 (hP v); omega
theorem hm701 {n : Nat} (hn : n < 2) : 200 + n ≠ 701 := by omega
theorem XP.of {g g1 : Gs} {k : Nat} (h : isHm (gr (g 1) 0) = true) (h1 : ∀ o, o ≠ k → g1 o = g o) (hk : k = 701 ∨ k = 601 ∨ k = 301 ∨ k = 101) : XP g g1 :=
  ⟨fun o _ _ => h1 o (by omega), fun o _ _ => h1 o (by omega), fun o _ _ => h1 o (by omega), h1 _ (by omega), h1 _ (by omega), by rw [h1 1 (by omega)]; exact h⟩
theorem ob_theft : Ob_theft Inv := by
  intro g a1 a2 a3 hI h4
  rcases house_cases hI a1 with ⟨h1, h2⟩ | ⟨n, v, hn, rfl, ok, hx, h1, h2, h3⟩
  · have h2 := h2 _ (m0 _)
    refine ⟨g, -1, _, ?_, ?_, rfl, hI.1, hI.keep (XP.rf hI.1) (m0 _)⟩
    · unfold fX9_theft; simp (disch := omega) only [h1, bd_some, gd_true, inR_nI, nI_clamp, nI_add, pk_mul, pk_sub, leT, leF, ltT, ltF, eqT, eqF, ite_true, ite_false, reduceIte, nz_nI, oc_s, oc_n, pk_div, pk_rem, m1F, L0, L1, L2, L3, L4, L5, L6, L7, L8, L9, L10, L11, L12, L19, L20, L24, L25, L27, L28, L30, L32, L37, L39, L40, L47, L48, L50, L55, L57, L60, L61, L63, L71, L80, L97, L99, L100, L120, L122, L128, L161, L17, L600, L1000000, L1024, L1408, isB0, isB1, subdm, inT, inFl, inFh]
    · unfold fX10_theft
      rcases rng a2 8 with k | ⟨m, k, k2, rfl⟩ | ⟨m, k, k2, rfl⟩
      · simp (disch := omega) only [in_neg k, h2, bd_some, gd_true, inR_nI, nI_clamp, nI_add, pk_mul, pk_sub, leT, leF, ltT, ltF, eqT, eqF, ite_true, ite_false, reduceIte, nz_nI, oc_s, oc_n, pk_div, pk_rem, m1F, L0, L1, L2, L3, L4, L5, L6, L7, L8, L9, L10, L11, L12, L19, L20, L24, L25, L27, L28, L30, L32, L37, L39, L40, L47, L48, L50, L55, L57, L60, L61, L63, L71, L80, L97, L99, L100, L120, L122, L128, L161, L17, L600, L1000000, L1024, L1408, isB0, isB1, subdm, inT, inFl, inFh]
      · simp (disch := omega) only [h2, bd_some, gd_true, inR_nI, nI_clamp, nI_add, pk_mul, pk_sub, leT, leF, ltT, ltF, eqT, eqF, ite_true, ite_false, reduceIte, nz_nI, oc_s, oc_n, pk_div, pk_rem, m1F, L0, L1, L2, L3, L4, L5, L6, L7, L8, L9, L10, L11, L12, L19, L20, L24, L25, L27, L28, L30, L32, L37, L39, L40, L47, L48, L50, L55, L57, L60, L61, L63, L71, L80, L97, L99, L100, L120, L122, L128, L161, L17, L600, L1000000, L1024, L1408, isB0, isB1, subdm, inT, inFl, inFh]
      · simp (disch := omega) only [h2, bd_some, gd_true, inR_nI, nI_clamp, nI_add, pk_mul, pk_sub, leT, leF, ltT, ltF, eqT, eqF, ite_true, ite_false, reduceIte, nz_nI, oc_s, oc_n, pk_div, pk_rem, m1F, L0, L1, L2, L3, L4, L5, L6, L7, L8, L9, L10, L11, L12, L19, L20, L24, L25, L27, L28, L30, L32, L37, L39, L40, L47, L48, L50, L55, L57, L60, L61, L63, L71, L80, L97, L99, L100, L120, L122, L128, L161, L17, L600, L1000000, L1024, L1408, isB0, isB1, subdm, inT, inFl, inFh]
  · obtain ⟨r', e1, hd, m1⟩ := h3 _ (m0 _)
    rcases rng a2 8 with k | ⟨m, k, k2, rfl⟩ | ⟨m, k, k2, rfl⟩
    · refine ⟨g, -1, _, ?_, ?_, rfl, hI.1, hI.keep (XP.rf hI.1) (m0 _)⟩
      · unfold fX9_theft; simp (disch := omega) only [h1, h2, neg0 k, bd_some, gd_true, inR_nI, nI_clamp, nI_add, pk_mul, pk_sub, leT, leF, ltT, ltF, eqT, eqF, ite_true, ite_false, reduceIte, nz_nI, oc_s, oc_n, pk_div, pk_rem, m1F, L0, L1, L2, L3, L4, L5, L6, L7, L8, L9, L10, L11, L12, L19, L20, L24, L25, L27, L28, L30, L32, L37, L39, L40, L47, L48, L50, L55, L57, L60, L61, L63, L71, L80, L97, L99, L100, L120, L122, L128, L161, L17, L600, L1000000, L1024, L1408, isB0, isB1, subdm, inT, inFl, inFh]
      · unfold fX10_theft; simp (disch := omega) only [in_neg k, bd_some, gd_true, inR_nI, nI_clamp, nI_add, pk_mul, pk_sub, leT, leF, ltT, ltF, eqT, eqF, ite_true, ite_false, reduceIte, nz_nI, oc_s, oc_n, pk_div, pk_rem, m1F, L0, L1, L2, L3, L4, L5, L6, L7, L8, L9, L10, L11, L12, L19, L20, L24, L25, L27, L28, L30, L32, L37, L39, L40, L47, L48, L50, L55, L57, L60, L61, L63, L71, L80, L97, L99, L100, L120, L122, L128, L161, L17, L600, L1000000, L1024, L1408, isB0, isB1, subdm, inT, inFl, inFh]
    · refine ⟨g, -1, _, ?_, ?_, rfl, hI.1, hI.keep (XP.rf hI.1) (m0 _)⟩
      · unfold fX9_theft; simp (disch := omega) only [h1, h2, bd_some, gd_true, inR_nI, nI_clamp, nI_add, pk_mul, pk_sub, leT, leF, ltT, ltF, eqT, eqF, ite_true, ite_false, reduceIte, nz_nI, oc_s, oc_n, pk_div, pk_rem, m1F, L0, L1, L2, L3, L4, L5, L6, L7, L8, L9, L10, L11, L12, L19, L20, L24, L25, L27, L28, L30, L32, L37, L39, L40, L47, L48, L50, L55, L57, L60, L61, L63, L71, L80, L97, L99, L100, L120, L122, L128, L161, L17, L600, L1000000, L1024, L1408, isB0, isB1, subdm, inT, inFl, inFh]
      · unfold fX10_theft; simp (disch := omega) only [bd_some, gd_true, inR_nI, nI_clamp, nI_add, pk_mul, pk_sub, leT, leF, ltT, ltF, eqT, eqF, ite_true, ite_false, reduceIte, nz_nI, oc_s, oc_n, pk_div, pk_rem, m1F, L0, L1, L2, L3, L4, L5, L6, L7, L8, L9, L10, L11, L12, L19, L20, L24, L25, L27, L28, L30, L32, L37, L39, L40, L47, L48, L50, L55, L57, L60, L61, L63, L71, L80, L97, L99, L100, L120, L122, L128, L161, L17, L600, L1000000, L1024, L1408, isB0, isB1, subdm, inT, inFl, inFh]
    · obtain ⟨g1, s1, s2, s3⟩ := spoil_nI ok hx (hm701 hn)
      obtain ⟨r1, t1, t2, t3, t4⟩ := findLoot_nI ok hd
      have hx1 : HX (g1 (200 + n)) v := by rw [s2 _ (hm701 hn)]; exact hx
      have hpP := pP ok
      have hP8 := ok.1
      have hp1 := p1 (hP v)
      have hbl := bl_le (f := lo v) (o := 2 ^ hP v - 1) (n := m) (2 ^ hP v - 1 + 1)
      have x1 : XP g g1 := XP.of hI.1 s2 (Or.inl rfl)
      have q1 := bestPieces_nI (n := m) hpP s3 (lo_le ok) (allP_lt (v := v)) (by omega)
      have q2 := bestLoot_nI (n := m) ok t2 t4 (lo_le ok) (allP_lt (v := v)) (by omega)
      have hr : g1 1001 = g 1001 := s2 _ (by decide)
      rcases h4 with rfl | rfl
      · refine ⟨g1, nI (lo v (bl (lo v) (2 ^ hP v - 1) m (2 ^ hP v - 1 + 1))), r1, ?_, ?_, by rw [s2 901 (by decide)], by rw [s2 1 (by decide)]; exact hI.1, hI.keep x1 (((m0 _).tr m1).tr t3)⟩
        · unfold fX9_theft; simp (disch := omega) only [h1, h2, s1, allPieces_nI ok hx1, q1, got_nI hpP s3, bd_some, gd_true, inR_nI, nI_clamp, nI_add, pk_mul, pk_sub, leT, leF, ltT, ltF, eqT, eqF, ite_true, ite_false, reduceIte, nz_nI, oc_s, oc_n, pk_div, pk_rem, m1F, L0, L1, L2, L3, L4, L5, L6, L7, L8, L9, L10, L11, L12, L19, L20, L24, L25, L27, L28, L30, L32, L37, L39, L40, L47, L48, L50, L55, L57, L60, L61, L63, L71, L80, L97, L99, L100, L120, L122, L128, L161, L17, L600, L1000000, L1024, L1408, isB0, isB1, subdm, inT, inFl, inFh]
        · rw [hr]; unfold fX10_theft; simp (disch := omega) only [e1, t1, t2.P, L31, shl_T, q2, t4, bd_some, gd_true, inR_nI, nI_clamp, nI_add, pk_mul, pk_sub, leT, leF, ltT, ltF, eqT, eqF, ite_true, ite_false, reduceIte, nz_nI, oc_s, oc_n, pk_div, pk_rem, m1F, L0, L1, L2, L3, L4, L5, L6, L7, L8, L9, L10, L11, L12, L19, L20, L24, L25, L27, L28, L30, L32, L37, L39, L40, L47, L48, L50, L55, L57, L60, L61, L63, L71, L80, L97, L99, L100, L120, L122, L128, L161, L17, L600, L1000000, L1024, L1408, isB0, isB1, subdm, inT, inFl, inFh]
      · refine ⟨g1, nI (bl (lo v) (2 ^ hP v - 1) m (2 ^ hP v - 1 + 1)), r1, ?_, ?_, by rw [s2 901 (by decide)], by rw [s2 1 (by decide)]; exact hI.1, hI.keep x1 (((m0 _).tr m1).tr t3)⟩
        · unfold fX9_theft; simp (disch := omega) only [h1, h2, s1, allPieces_nI ok hx1, q1, bd_some, gd_true, inR_nI, nI_clamp, nI_add, pk_mul, pk_sub, leT, leF, ltT, ltF, eqT, eqF, ite_true, ite_false, reduceIte, nz_nI, oc_s, oc_n, pk_div, pk_rem, m1F, L0, L1, L2, L3, L4, L5, L6, L7, L8, L9, L10, L11, L12, L19, L20, L24, L25, L27, L28, L30, L32, L37, L39, L40, L47, L48, L50, L55, L57, L60, L61, L63, L71, L80, L97, L99, L100, L120, L122, L128, L161, L17, L600, L1000000, L1024, L1408, isB0, isB1, subdm, inT, inFl, inFh]
        · rw [hr]; unfold fX10_theft; simp (disch := omega) only [e1, t1, t2.P, L31, shl_T, q2, bd_some, gd_true, inR_nI, nI_clamp, nI_add, pk_mul, pk_sub, leT, leF, ltT, ltF, eqT, eqF, ite_true, ite_false, reduceIte, nz_nI, oc_s, oc_n, pk_div, pk_rem, m1F, L0, L1, L2, L3, L4, L5, L6, L7, L8, L9, L10, L11, L12, L19, L20, L24, L25, L27, L28, L30, L32, L37, L39, L40, L47, L48, L50, L55, L57, L60, L61, L63, L71, L80, L97, L99, L100, L120, L122, L128, L161, L17, L600, L1000000, L1024, L1408, isB0, isB1, subdm, inT, inFl, inFh]
/-- what n thieves get if some are guarded -/
noncomputable def tq (v : Hv) (n s : Nat) : Nat := lo v (bl (lo v) (andn (2 ^ hP v - 1) s) n (andn (2 ^ hP v - 1) s + 1))
theorem tq_le {v : Hv} (ok : HvOK v) (n s : Nat) : tq v n s ≤ 300 := lo_le ok _
noncomputable def gdN (v : Hv) (gg n : Nat) (k : Nat) : Nat := fo (fun k b => if pc k ≤ gg ∧ (tq v n k < tq v n b ∨ tq v n k = tq v n b ∧ pc k < pc b) then k else b) 0 k
theorem gdN_lt {v : Hv} {gg n : Nat} : ∀ k, gdN v gg n k = 0 ∨ gdN v gg n k < k
  | 0 => Or.inl rfl
  | k + 1 => by
    show (if pc k ≤ gg ∧ (tq v n k < tq v n (gdN v gg n k) ∨ tq v n k = tq v n (gdN v gg n k) ∧ pc k < pc (gdN v gg n k)) then k else gdN v gg n k) = 0 ∨ (if pc k ≤ gg ∧ (tq v n k < tq v n (gdN v gg n k) ∨ tq v n k = tq v n (gdN v gg n k) ∧ pc k < pc (gdN v gg n k)) then k else gdN v gg n k) < k + 1
    split
    · exact Or.inr (by omega)
    · rcases gdN_lt (v := v) (gg := gg) (n := n) k with h | h
      · exact Or.inl h
      · exact Or.inr (by omega)
theorem gdN_1 {v : Hv} {gg n : Nat} : gdN v gg n 1 = 0 := by
  show (if _ then 0 else 0) = 0
  split <;> rfl
theorem bp_tq {g : Gs} {v : Hv} (ok : HvOK v) (hg : ∀ t, t < 2 ^ hP v → ga (g 701) 0 t = nI (lo v t)) {s n : Nat} (hn : n ≤ 8) : (fX7_bestPieces g (nI (andn (2 ^ hP v - 1) s)) (nI n)).bind (fun z => fX7_got g z) = some (nI (tq v n s)) := by
  have hpP := pP ok
  have ha := andn_lt (b := s) (allP_lt (v := v))
  have hbl := bl_le (f := lo v) (o := andn (2 ^ hP v - 1) s) (n := n) (andn (2 ^ hP v - 1) s + 1)
  rw [bestPieces_nI hpP hg (lo_le ok) ha hn, bd_some, got_nI hpP hg (by omega)]
  rfl
theorem bp_ex {g : Gs} {v : Hv} (ok : HvOK v) (hg : ∀ t, t < 2 ^ hP v → ga (g 701) 0 t = nI (lo v t)) {s n : Nat} (hn : n ≤ 8) : ∃ b, fX7_bestPieces g (nI (andn (2 ^ hP v - 1) s)) (nI n) = some (nI b) ∧ fX7_got g (nI b) = some (nI (tq v n s)) := by
  have hpP := pP ok
  have ha := andn_lt (b := s) (allP_lt (v := v))
  have hbl := bl_le (f := lo v) (o := andn (2 ^ hP v - 1) s) (n := n) (andn (2 ^ hP v - 1) s + 1)
  exact ⟨_, bestPieces_nI hpP hg (lo_le ok) ha hn, got_nI hpP hg (by omega)⟩
theorem bl_ex {r : Rec} {m : Nat} {v : Hv} (ok : HvOK v) (hd : Hd r m v) (hg : ∀ t, t < 2 ^ hP v → ga r 38 t = nI (lo v t)) {s n : Nat} (hn : n ≤ 8) : ∃ b, b < 256 ∧ fX10_bestLoot r (nI (andn (2 ^ hP v - 1) s)) (nI n) = some (nI b) ∧ ga r 38 b = nI (tq v n s) := by
  have hpP := pP ok
  have ha := andn_lt (b := s) (allP_lt (v := v))
  have hbl := bl_le (f := lo v) (o := andn (2 ^ hP v - 1) s) (n := n) (andn (2 ^ hP v - 1) s + 1)
  exact ⟨_, by omega, bestLoot_nI ok hd hg (lo_le ok) ha hn, hg _ (by omega)⟩
theorem bestGuards_nI {g : Gs} {v : Hv} (ok : HvOK v) (hg : ∀ t, t < 2 ^ hP v → ga (g 701) 0 t = nI (lo v t)) {gg n : Nat} (hgg : gg ≤ 8) (hn : n ≤ 8) : fX7_bestGuards g (nI (2 ^ hP v - 1)) (nI gg) (nI n) = some (nI (gdN v gg n (2 ^ hP v))) := by
  have hpP := pP ok
  have hp1 := p1 (hP v)
  unfold fX7_bestGuards
  obtain ⟨b0, i1, i2⟩ := bp_ex ok hg (s := 0) hn
  rw [andn_zero] at i1
  rw [i1, bd_some, i2, bd_some]
  have e0 : ((0 : Int32), nI (tq v n 0), (1 : Int32)) = (fun i => (nI (gdN v gg n i), nI (tq v n (gdN v gg n i)), nI i)) 1 := by
    show _ = (nI (gdN v gg n 1), nI (tq v n (gdN v gg n 1)), nI 1)
    rw [gdN_1]
    rfl
  rw [e0]
  refine loopA (step := fun st : Int32 × Int32 × Int32 => bX7_bestGuards_18 g (nI (2 ^ hP v - 1)) (nI gg) (nI n) st.1 st.2.1 st.2.2) (fun i => (nI (gdN v gg n i), nI (tq v n (gdN v gg n i)), nI i)) 1 (2 ^ hP v) hp1 (fun i hi1 hi => ?_) ?_
  · show bX7_bestGuards_18 g (nI (2 ^ hP v - 1)) (nI gg) (nI n) (nI (gdN v gg n i)) (nI (tq v n (gdN v gg n i))) (nI i) = some (.inl (nI (if pc i ≤ gg ∧ (tq v n i < tq v n (gdN v gg n i) ∨ tq v n i = tq v n (gdN v gg n i) ∧ pc i < pc (gdN v gg n i)) then i else gdN v gg n i), nI (tq v n (if pc i ≤ gg ∧ (tq v n i < tq v n (gdN v gg n i) ∨ tq v n i = tq v n (gdN v gg n i) ∧ pc i < pc (gdN v gg n i)) then i else gdN v gg n i)), nI (i + 1)))
    have hlt : gdN v gg n i < 256 := by rcases gdN_lt (v := v) (gg := gg) (n := n) i with q | q <;> omega
    generalize gdN v gg n i = b at hlt ⊢
    have h1 := pc_le i
    have h2 := pc_le b
    have h3 := tq_le ok n i
    have h4 := tq_le ok n b
    obtain ⟨b1, j1, j2⟩ := bp_ex ok hg (s := i) hn
    unfold bX7_bestGuards_18 bX7_bestGuards_81 bX7_bestGuards_89
    by_cases c1 : pc i ≤ gg
    · by_cases c2 : tq v n i < tq v n b
      · have e : (if pc i ≤ gg ∧ (tq v n i < tq v n b ∨ tq v n i = tq v n b ∧ pc i < pc b) then i else b) = i := if_pos ⟨c1, Or.inl c2⟩
        simp (disch := omega) only [e, bitCount_nI, andn_nI, j1, j2, bd_some, gd_true, inR_nI, nI_clamp, nI_add, pk_mul, pk_sub, leT, leF, ltT, ltF, eqT, eqF, ite_true, ite_false, reduceIte, nz_nI, oc_s, oc_n, pk_div, pk_rem, m1F, L0, L1, L2, L3, L4, L5, L6, L7, L8, L9, L10, L11, L12, L19, L20, L24, L25, L27, L28, L30, L32, L37, L39, L40, L47, L48, L50, L55, L57, L60, L61, L63, L71, L80, L97, L99, L100, L120, L122, L128, L161, L17, L600, L1000000, L1024, L1408, isB0, isB1, subdm, inT, inFl, inFh]
      · by_cases c3 : tq v n i = tq v n b
        · by_cases c4 : pc i < pc b
          · have e : (if pc i ≤ gg ∧ (tq v n i < tq v n b ∨ tq v n i = tq v n b ∧ pc i < pc b) then i else b) = i := if_pos ⟨c1, Or.inr ⟨c3, c4⟩⟩
            simp (disch := omega) only [e, bitCount_nI, andn_nI, j1, j2, bd_some, gd_true, inR_nI, nI_clamp, nI_add, pk_mul, pk_sub, leT, leF, ltT, ltF, eqT, eqF, ite_true, ite_false, reduceIte, nz_nI, oc_s, oc_n, pk_div, pk_rem, m1F, L0, L1, L2, L3, L4, L5, L6, L7, L8, L9, L10, L11, L12, L19, L20, L24, L25, L27, L28, L30, L32, L37, L39, L40, L47, L48, L50, L55, L57, L60, L61, L63, L71, L80, L97, L99, L100, L120, L122, L128, L161, L17, L600, L1000000, L1024, L1408, isB0, isB1, subdm, inT, inFl, inFh]
          · have e : (if pc i ≤ gg ∧ (tq v n i < tq v n b ∨ tq v n i = tq v n b ∧ pc i < pc b) then i else b) = b := if_neg (fun q => q.2.elim (fun q => c2 q) (fun q => c4 q.2))
            simp (disch := omega) only [e, bitCount_nI, andn_nI, j1, j2, bd_some, gd_true, inR_nI, nI_clamp, nI_add, pk_mul, pk_sub, leT, leF, ltT, ltF, eqT, eqF, ite_true, ite_false, reduceIte, nz_nI, oc_s, oc_n, pk_div, pk_rem, m1F, L0, L1, L2, L3, L4, L5, L6, L7, L8, L9, L10, L11, L12, L19, L20, L24, L25, L27, L28, L30, L32, L37, L39, L40, L47, L48, L50, L55, L57, L60, L61, L63, L71, L80, L97, L99, L100, L120, L122, L128, L161, L17, L600, L1000000, L1024, L1408, isB0, isB1, subdm, inT, inFl, inFh]
        · have e : (if pc i ≤ gg ∧ (tq v n i < tq v n b ∨ tq v n i = tq v n b ∧ pc i < pc b) then i else b) = b := if_neg (fun q => q.2.elim (fun q => c2 q) (fun q => c3 q.1))
          simp (disch := omega) only [e, bitCount_nI, andn_nI, j1, j2, bd_some, gd_true, inR_nI, nI_clamp, nI_add, pk_mul, pk_sub, leT, leF, ltT, ltF, eqT, eqF, ite_true, ite_false, reduceIte, nz_nI, oc_s, oc_n, pk_div, pk_rem, m1F, L0, L1, L2, L3, L4, L5, L6, L7, L8, L9, L10, L11, L12, L19, L20, L24, L25, L27, L28, L30, L32, L37, L39, L40, L47, L48, L50, L55, L57, L60, L61, L63, L71, L80, L97, L99, L100, L120, L122, L128, L161, L17, L600, L1000000, L1024, L1408, isB0, isB1, subdm, inT, inFl, inFh]
    · have e : (if pc i ≤ gg ∧ (tq v n i < tq v n b ∨ tq v n i = tq v n b ∧ pc i < pc b) then i else b) = b := if_neg (fun q => c1 q.1)
      simp (disch := omega) only [e, bitCount_nI, bd_some, gd_true, inR_nI, nI_clamp, nI_add, pk_mul, pk_sub, leT, leF, ltT, ltF, eqT, eqF, ite_true, ite_false, reduceIte, nz_nI, oc_s, oc_n, pk_div, pk_rem, m1F, L0, L1, L2, L3, L4, L5, L6, L7, L8, L9, L10, L11, L12, L19, L20, L24, L25, L27, L28, L30, L32, L37, L39, L40, L47, L48, L50, L55, L57, L60, L61, L63, L71, L80, L97, L99, L100, L120, L122, L128, L161, L17, L600, L1000000, L1024, L1408, isB0, isB1, subdm, inT, inFl, inFh]
  · show bX7_bestGuards_18 g (nI (2 ^ hP v - 1)) (nI gg) (nI n) _ _ (nI (2 ^ hP v)) = _
    unfold bX7_bestGuards_18
    simp (disch := omega) only [bd_some, gd_true, inR_nI, nI_clamp, nI_add, pk_mul, pk_sub, leT, leF, ltT, ltF, eqT, eqF, ite_true, ite_false, reduceIte, nz_nI, oc_s, oc_n, pk_div, pk_rem, m1F, L0, L1, L2, L3, L4, L5, L6, L7, L8, L9, L10, L11, L12, L19, L20, L24, L25, L27, L28, L30, L32, L37, L39, L40, L47, L48, L50, L55, L57, L60, L61, L63, L71, L80, L97, L99, L100, L120, L122, L128, L161, L17, L600, L1000000, L1024, L1408, isB0, isB1, subdm, inT, inFl, inFh]
    all_goals rfl
theorem guardM {r : Rec} {m : Nat} {v : Hv} (ok : HvOK v) (hd : Hd r m v) (hg : ∀ t, t < 2 ^ hP v → ga r 38 t = nI (lo v t)) {gg n : Nat} (hgg : gg ≤ 8) (hn : n ≤ 8) (a : Int32) : iter (fun st : Int32 × Int32 × Int32 => bX10_guarded_60 r (nI gg) (nI n) a st.1 st.2.1 (nI (2 ^ hP v - 1)) st.2.2) (-nI 1, nI 1000000, nI 0) = bX10_guarded_172 r a (nI (gdN v gg n (2 ^ hP v))) (nI (tq v n (gdN v gg n (2 ^ hP v)))) := by
  have hpP := pP ok
  have hp1 := p1 (hP v)
  have hpc0 : pc 0 = 0 := by decide
  rw [iter_step (s := (-nI 1, nI 1000000, nI 0)) (s' := (nI 0, nI (tq v n 0), nI 1)) (by
    show bX10_guarded_60 r (nI gg) (nI n) a (-nI 1) (nI 1000000) (nI (2 ^ hP v - 1)) (nI 0) = _
    obtain ⟨b1, hb1, j1, j2⟩ := bl_ex ok hd hg (s := 0) hn
    have h3 := tq_le ok n 0
    unfold bX10_guarded_60 bX10_guarded_99 bX10_guarded_136 bX10_guarded_141 bX10_guarded_155
    simp (disch := omega) only [ones_nI, hpc0, andn_nI, j1, j2, ls_nI, Nat.min_eq_right, bd_some, gd_true, inR_nI, nI_clamp, nI_add, pk_mul, pk_sub, leT, leF, ltT, ltF, eqT, eqF, ite_true, ite_false, reduceIte, nz_nI, oc_s, oc_n, pk_div, pk_rem, m1F, L0, L1, L2, L3, L4, L5, L6, L7, L8, L9, L10, L11, L12, L19, L20, L24, L25, L27, L28, L30, L32, L37, L39, L40, L47, L48, L50, L55, L57, L60, L61, L63, L71, L80, L97, L99, L100, L120, L122, L128, L161, L17, L600, L1000000, L1024, L1408, isB0, isB1, subdm, inT, inFl, inFh])]
  have e0 : (nI 0, nI (tq v n 0), nI 1) = (fun i => (nI (gdN v gg n i), nI (tq v n (gdN v gg n i)), nI i)) 1 := by
    show _ = (nI (gdN v gg n 1), nI (tq v n (gdN v gg n 1)), nI 1)
    rw [gdN_1]
  rw [e0]
  refine loopA (step := fun st : Int32 × Int32 × Int32 => bX10_guarded_60 r (nI gg) (nI n) a st.1 st.2.1 (nI (2 ^ hP v - 1)) st.2.2) (fun i => (nI (gdN v gg n i), nI (tq v n (gdN v gg n i)), nI i)) 1 (2 ^ hP v) hp1 (fun i hi1 hi => ?_) ?_
  · show bX10_guarded_60 r (nI gg) (nI n) a (nI (gdN v gg n i)) (nI (tq v n (gdN v gg n i))) (nI (2 ^ hP v - 1)) (nI i) = some (.inl (nI (if pc i ≤ gg ∧ (tq v n i < tq v n (gdN v gg n i) ∨ tq v n i = tq v n (gdN v gg n i) ∧ pc i < pc (gdN v gg n i)) then i else gdN v gg n i), nI (tq v n (if pc i ≤ gg ∧ (tq v n i < tq v n (gdN v gg n i) ∨ tq v n i = tq v n (gdN v gg n i) ∧ pc i < pc (gdN v gg n i)) then i else gdN v gg n i)), nI (i + 1)))
    have hlt : gdN v gg n i < 256 := by rcases gdN_lt (v := v) (gg := gg) (n := n) i with q | q <;> omega
    generalize gdN v gg n i = b at hlt ⊢
    have h1 := pc_le i
    have h2 := pc_le b
    have h3 := tq_le ok n i
    have h4 := tq_le ok n b
    obtain ⟨b1, hb1, j1, j2⟩ := bl_ex ok hd hg (s := i) hn
    unfold bX10_guarded_60 bX10_guarded_99 bX10_guarded_136 bX10_guarded_140 bX10_guarded_141 bX10_guarded_155
    by_cases c1 : pc i ≤ gg
    · by_cases c2 : tq v n i < tq v n b
      · have e : (if pc i ≤ gg ∧ (tq v n i < tq v n b ∨ tq v n i = tq v n b ∧ pc i < pc b) then i else b) = i := if_pos ⟨c1, Or.inl c2⟩
        simp (disch := omega) only [e, ones_nI, andn_nI, j1, j2, ls_nI, Nat.min_eq_right, bd_some, gd_true, inR_nI, nI_clamp, nI_add, pk_mul, pk_sub, leT, leF, ltT, ltF, eqT, eqF, ite_true, ite_false, reduceIte, nz_nI, oc_s, oc_n, pk_div, pk_rem, m1F, L0, L1, L2, L3, L4, L5, L6, L7, L8, L9, L10, L11, L12, L19, L20, L24, L25, L27, L28, L30, L32, L37, L39, L40, L47, L48, L50, L55, L57, L60, L61, L63, L71, L80, L97, L99, L100, L120, L122, L128, L161, L17, L600, L1000000, L1024, L1408, isB0, isB1, subdm, inT, inFl, inFh]
      · by_cases c3 : tq v n i = tq v n b
        · by_cases c4 : pc i < pc b
          · have e : (if pc i ≤ gg ∧ (tq v n i < tq v n b ∨ tq v n i = tq v n b ∧ pc i < pc b) then i else b) = i := if_pos ⟨c1, Or.inr ⟨c3, c4⟩⟩
            simp (disch := omega) only [e, ones_nI, andn_nI, j1, j2, ls_nI, Nat.min_eq_right, bd_some, gd_true, inR_nI, nI_clamp, nI_add, pk_mul, pk_sub, leT, leF, ltT, ltF, eqT, eqF, ite_true, ite_false, reduceIte, nz_nI, oc_s, oc_n, pk_div, pk_rem, m1F, L0, L1, L2, L3, L4, L5, L6, L7, L8, L9, L10, L11, L12, L19, L20, L24, L25, L27, L28, L30, L32, L37, L39, L40, L47, L48, L50, L55, L57, L60, L61, L63, L71, L80, L97, L99, L100, L120, L122, L128, L161, L17, L600, L1000000, L1024, L1408, isB0, isB1, subdm, inT, inFl, inFh]
          · have e : (if pc i ≤ gg ∧ (tq v n i < tq v n b ∨ tq v n i = tq v n b ∧ pc i < pc b) then i else b) = b := if_neg (fun q => q.2.elim (fun q => c2 q) (fun q => c4 q.2))
            simp (disch := omega) only [e, ones_nI, andn_nI, j1, j2, ls_nI, Nat.min_eq_left, bd_some, gd_true, inR_nI, nI_clamp, nI_add, pk_mul, pk_sub, leT, leF, ltT, ltF, eqT, eqF, ite_true, ite_false, reduceIte, nz_nI, oc_s, oc_n, pk_div, pk_rem, m1F, L0, L1, L2, L3, L4, L5, L6, L7, L8, L9, L10, L11, L12, L19, L20, L24, L25, L27, L28, L30, L32, L37, L39, L40, L47, L48, L50, L55, L57, L60, L61, L63, L71, L80, L97, L99, L100, L120, L122, L128, L161, L17, L600, L1000000, L1024, L1408, isB0, isB1, subdm, inT, inFl, inFh]
        · have e : (if pc i ≤ gg ∧ (tq v n i < tq v n b ∨ tq v n i = tq v n b ∧ pc i < pc b) then i else b) = b := if_neg (fun q => q.2.elim (fun q => c2 q) (fun q => c3 q.1))
          simp (disch := omega) only [e, ones_nI, andn_nI, j1, j2, ls_nI, Nat.min_eq_left, bd_some, gd_true, inR_nI, nI_clamp, nI_add, pk_mul, pk_sub, leT, leF, ltT, ltF, eqT, eqF, ite_true, ite_false, reduceIte, nz_nI, oc_s, oc_n, pk_div, pk_rem, m1F, L0, L1, L2, L3, L4, L5, L6, L7, L8, L9, L10, L11, L12, L19, L20, L24, L25, L27, L28, L30, L32, L37, L39, L40, L47, L48, L50, L55, L57, L60, L61, L63, L71, L80, L97, L99, L100, L120, L122, L128, L161, L17, L600, L1000000, L1024, L1408, isB0, isB1, subdm, inT, inFl, inFh]
    · have e : (if pc i ≤ gg ∧ (tq v n i < tq v n b ∨ tq v n i = tq v n b ∧ pc i < pc b) then i else b) = b := if_neg (fun q => c1 q.1)
      simp (disch := omega) only [e, ones_nI, ls_nI, Nat.min_eq_left, bd_some, gd_true, inR_nI, nI_clamp, nI_add, pk_mul, pk_sub, leT, leF, ltT, ltF, eqT, eqF, ite_true, ite_false, reduceIte, nz_nI, oc_s, oc_n, pk_div, pk_rem, m1F, L0, L1, L2, L3, L4, L5, L6, L7, L8, L9, L10, L11, L12, L19, L20, L24, L25, L27, L28, L30, L32, L37, L39, L40, L47, L48, L50, L55, L57, L60, L61, L63, L71, L80, L97, L99, L100, L120, L122, L128, L161, L17, L600, L1000000, L1024, L1408, isB0, isB1, subdm, inT, inFl, inFh]
  · show bX10_guarded_60 r (nI gg) (nI n) a _ _ (nI (2 ^ hP v - 1)) (nI (2 ^ hP v)) = _
    unfold bX10_guarded_60
    simp (disch := omega) only [bd_some, gd_true, inR_nI, nI_clamp, nI_add, pk_mul, pk_sub, leT, leF, ltT, ltF, eqT, eqF, ite_true, ite_false, reduceIte, nz_nI, oc_s, oc_n, pk_div, pk_rem, m1F, L0, L1, L2, L3, L4, L5, L6, L7, L8, L9, L10, L11, L12, L19, L20, L24, L25, L27, L28, L30, L32, L37, L39, L40, L47, L48, L50, L55, L57, L60, L61, L63, L71, L80, L97, L99, L100, L120, L122, L128, L161, L17, L600, L1000000, L1024, L1408, isB0, isB1, subdm, inT, inFl, inFh]
theorem guardMM {r r' r1 : Rec} {n m q : Nat} {v : Hv} {x : Int32} (ok : HvOK v) (e1 : fX10_hand (si r 0 (nI 0)) x = some (r', nI 1)) (t1 : fX10_findLoot r' = some r1) (t2 : Hd r1 n v) (t4 : ∀ t, t < 2 ^ hP v → ga r1 38 t = nI (lo v t)) (hm : m ≤ 8) (hq : q ≤ 8) (a : Int32) : fX10_guarded r x (nI m) (nI q) a = bX10_guarded_172 r1 a (nI (gdN v m q (2 ^ hP v))) (nI (tq v q (gdN v m q (2 ^ hP v)))) := by
  have hP8 := ok.1
  have hp1 := p1 (hP v)
  have h1 : fX10_in (nI m) 0 8 = some (nI 1) := inT (lo := 0) (k := 8) (by omega) hm (by omega)
  have h2 : fX10_in (nI q) 0 8 = some (nI 1) := inT (lo := 0) (k := 8) (by omega) hq (by omega)
  have e2 : fX10_hand (si r 0 0) x = some (r', nI 1) := e1
  have e3 : ((1 : Int32) <<< ((gi r1 26) &&& 31)) - 1 = nI (2 ^ hP v - 1) := by rw [t2.P, shl_nI _ (by omega)]; exact pk_sub hp1
  unfold fX10_guarded
  rw [bd_some, h1, bd_some, if_neg (by decide), h2, bd_some, if_neg (by decide), e2, bd_some]
  dsimp only
  rw [if_neg (by decide), t1, bd_some, e3, bd_some]
  exact guardM ok t2 t4 hm hq a
theorem gM1 {r : Rec} {x y z a : Int32} (h : fX10_in y (nI 0) (nI 8) = some (nI 0)) : fX10_guarded r x y z a = some (si r 0 (nI 0), -1) := by
  have h : fX10_in y 0 8 = some (nI 0) := h
  unfold fX10_guarded
  rw [bd_some, h, bd_some, if_pos (show nI 0 = 0 from rfl)]
  rfl
theorem gM2 {r : Rec} {x y z a : Int32} (h : fX10_in y (nI 0) (nI 8) = some (nI 1)) (h2 : fX10_in z (nI 0) (nI 8) = some (nI 0)) : fX10_guarded r x y z a = some (si r 0 (nI 0), -1) := by
  have h : fX10_in y 0 8 = some (nI 1) := h
  have h2 : fX10_in z 0 8 = some (nI 0) := h2
  unfold fX10_guarded
  rw [bd_some, h, bd_some, if_neg (by decide), h2, bd_some, if_pos (show nI 0 = 0 from rfl)]
  rfl
theorem gM3 {r : Rec} {x y z a : Int32} (h : fX10_in y (nI 0) (nI 8) = some (nI 1)) (h2 : fX10_in z (nI 0) (nI 8) = some (nI 1)) (h3 : fX10_hand (si r 0 (nI 0)) x = some (si r 0 (nI 0), 0)) : fX10_guarded r x y z a = some (si r 0 (nI 0), -1) := by
  have h : fX10_in y 0 8 = some (nI 1) := h
  have h2 : fX10_in z 0 8 = some (nI 1) := h2
  have h3 : fX10_hand (si r 0 0) x = some (si r 0 (nI 0), 0) := h3
  unfold fX10_guarded
  rw [bd_some, h, bd_some, if_neg (by decide), h2, bd_some, if_neg (by decide), h3, bd_some]
  dsimp only
  rw [if_pos rfl]
theorem in8 {q : Nat} (hq : q ≤ 8) : fX10_in (nI q) (nI 0) (nI 8) = some (nI 1) := inT (by omega) hq (by omega)
theorem out8 {q : Nat} (hq : 8 < q) (h : q < 2 ^ 31) : fX10_in (nI q) (nI 0) (nI 8) = some (nI 0) := inFh hq h
theorem gX0 {g : Gs} {x y z a : Int32} (h : fX8_houseAt (g 800) 800 x = some none) : fX9_guarded g x y z a = some (g, -1) := by
  unfold fX9_guarded
  rw [h, bd_some]
  rfl
theorem gXu {g : Gs} {x y z a : Int32} {u : Nat} (h : fX8_houseAt (g 800) 800 x = some (some u)) (hh : isHm u = true) : fX9_guarded g x y z a = (if y < 0 then some ((g, (-1))) else if 8 < y then some ((g, (-1))) else if z < 0 then some ((g, (-1))) else if z ≤ 8 then (fX7_spoil g u).bind fun z4 => (fX2_allPieces (z4 u)).bind fun z5 => (fX7_bestGuards z4 z5 y z).bind fun z6 => if a = 0 then (fX2_allPieces (z4 u)).bind fun z7 => (fX7_bestPieces z4 (z7 &&& (z6 ^^^ (-1))) z).bind fun z8 => (fX7_got z4 z8).bind fun z9 => some ((z4, z9)) else some ((z4, z6)) else some ((g, (-1)))) := by
  unfold fX9_guarded
  rw [h, bd_some, oc_s, hh, gd_true]
theorem gX1 {g : Gs} {x y z a : Int32} {u : Nat} (h : fX8_houseAt (g 800) 800 x = some (some u)) (hh : isHm u = true) (hy : y < 0 ∨ 8 < y) : fX9_guarded g x y z a = some (g, -1) := by
  rw [gXu h hh]
  rcases hy with k | k
  · rw [if_pos k]
  · by_cases k2 : y < 0
    · rw [if_pos k2]
    · rw [if_neg k2, if_pos k]
theorem gX2 {g : Gs} {x y z a : Int32} {u : Nat} (h : fX8_houseAt (g 800) 800 x = some (some u)) (hh : isHm u = true) (hz : z < 0 ∨ ¬ z ≤ 8) : fX9_guarded g x y z a = some (g, -1) := by
  rw [gXu h hh]
  by_cases k1 : y < 0
  · rw [if_pos k1]
  · rw [if_neg k1]
    by_cases k2 : 8 < y
    · rw [if_pos k2]
    · rw [if_neg k2]
      rcases hz with k | k
      · rw [if_pos k]
      · by_cases k3 : z < 0
        · rw [if_pos k3]
        · rw [if_neg k3, if_neg k]
theorem gX3 {g g1 : Gs} {x a : Int32} {u m q : Nat} {v : Hv} (ok : HvOK v) (h : fX8_houseAt (g 800) 800 x = some (some u)) (hh : isHm u = true) (hm : m ≤ 8) (hq : q ≤ 8) (s1 : fX7_spoil g u = some g1) (hx1 : HX (g1 u) v) (s3 : ∀ t, t < 2 ^ hP v → ga (g1 701) 0 t = nI (lo v t)) (ha : a = 0 ∨ a = 1) : fX9_guarded g x (nI m) (nI q) a = some (g1, if a = 0 then nI (tq v q (gdN v m q (2 ^ hP v))) else nI (gdN v m q (2 ^ hP v))) := by
  have q1 := bestGuards_nI (gg := m) (n := q) ok s3 hm hq
  obtain ⟨b1, j1, j2⟩ := bp_ex ok s3 (s := gdN v m q (2 ^ hP v)) (n := q) hq
  have ea := allPieces_nI ok hx1
  have en : nI (2 ^ hP v - 1) &&& (nI (gdN v m q (2 ^ hP v)) ^^^ (-1)) = nI (andn (2 ^ hP v - 1) (gdN v m q (2 ^ hP v))) := andn_nI _ _
  rw [gXu h hh, if_neg (nI_nlt0 (by omega)), if_neg (show ¬ (8 : Int32) < nI m from fun k => by have := (nI_ltI (a := 8) (by decide) (by omega)).mp k; omega), if_neg (nI_nlt0 (by omega)), if_pos (show nI q ≤ 8 from (nI_leI (b := 8) (by omega) (by decide)).mpr hq), s1, bd_some, ea, bd_some, q1, bd_some]
  rcases ha with rfl | rfl
  · rw [if_pos rfl, if_pos rfl, bd_some, en, j1, bd_some, j2, bd_some]
  · rw [if_neg (by decide), if_neg (by decide)]
theorem ob_guarded : Ob_guarded Inv := by
  intro g a1 a2 a3 a4 hI h4
  rcases house_cases hI a1 with ⟨h1, h2⟩ | ⟨n, v, hn, rfl, ok, hx, h1, h2, h3⟩
  · have h2 := h2 _ (m0 _)
    refine ⟨g, -1, si (g 1001) 0 (nI 0), gX0 h1, ?_, rfl, hI.1, hI.keep (XP.rf hI.1) (m0 _)⟩
    rcases rng a2 8 with k | ⟨m, k, k2, rfl⟩ | ⟨m, k, k2, rfl⟩
    · exact gM1 (in_neg k (by decide))
    · exact gM1 (out8 k k2)
    · rcases rng a3 8 with j | ⟨m', j, j2, rfl⟩ | ⟨m', j, j2, rfl⟩
      · exact gM2 (in8 k) (in_neg j (by decide))
      · exact gM2 (in8 k) (out8 j j2)
      · exact gM3 (in8 k) (in8 j) h2
  · obtain ⟨r', e1, hd, m1⟩ := h3 _ (m0 _)
    rcases rng a2 8 with k | ⟨m, k, k2, rfl⟩ | ⟨m, k, k2, rfl⟩
    · exact ⟨g, -1, _, gX1 h1 h2 (Or.inl k), gM1 (in_neg k (by decide)), rfl, hI.1, hI.keep (XP.rf hI.1) (m0 _)⟩
    · exact ⟨g, -1, _, gX1 h1 h2 (Or.inr ((nI_ltI (a := 8) (by decide) k2).mpr k)), gM1 (out8 k k2), rfl, hI.1, hI.keep (XP.rf hI.1) (m0 _)⟩
    · rcases rng a3 8 with j | ⟨q, j, j2, rfl⟩ | ⟨q, j, j2, rfl⟩
      · exact ⟨g, -1, _, gX2 h1 h2 (Or.inl j), gM2 (in8 k) (in_neg j (by decide)), rfl, hI.1, hI.keep (XP.rf hI.1) (m0 _)⟩
      · exact ⟨g, -1, _, gX2 h1 h2 (Or.inr (fun hh => by have := (nI_leI (b := 8) j2 (by decide)).mp hh; omega)), gM2 (in8 k) (out8 j j2), rfl, hI.1, hI.keep (XP.rf hI.1) (m0 _)⟩
      · obtain ⟨g1, s1, s2, s3⟩ := spoil_nI ok hx (hm701 hn)
        obtain ⟨r1, t1, t2, t3, t4⟩ := findLoot_nI ok hd
        have hx1 : HX (g1 (200 + n)) v := by rw [s2 _ (hm701 hn)]; exact hx
        have x1 : XP g g1 := XP.of hI.1 s2 (Or.inl rfl)
        have hr : g1 1001 = g 1001 := s2 _ (by decide)
        have gx := gX3 ok h1 h2 k j s1 hx1 s3 h4
        have gm := guardMM ok e1 t1 t2 t4 k j a4
        refine ⟨g1, _, r1, gx, ?_, by rw [s2 901 (by decide)], by rw [s2 1 (by decide)]; exact hI.1, hI.keep x1 (((m0 _).tr m1).tr t3)⟩
        rw [hr, gm]
        unfold bX10_guarded_172
        rcases h4 with rfl | rfl
        · rw [if_pos rfl, if_pos rfl]
        · rw [if_neg (by decide), if_neg (by decide)]
