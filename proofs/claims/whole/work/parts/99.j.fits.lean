theorem layM {g : Gs} {x : Int32} {n m : Nat} {v : Hv} {w : Rv} (ok : HvOK v) (h3 : ∀ r, MP (g 1001) r → ∃ r', fX10_hand r x = some (r', 1) ∧ Hd r' n v ∧ MP r r' ∧ (∀ k, k ≠ 28 → ga r' k = ga r k) ∧ (∀ k, k ≠ 25 → k ≠ 26 → k ≠ 27 → gi r' k = gi r k)) (hm : m < 2) (lw : LvOK w) (lm : LM (ga (g 1001) 9) (17 * m) w) (hlog : ∀ r, MP (g 1001) r → fX10_hasLog r (nI m) = some (si r 41 (nI m), nI 1)) : (lgP v w → ∃ r', fX10_layLog (si (g 1001) 0 (nI 0)) x (nI m) = some (r', nI 1) ∧ Hd r' n v ∧ MP (g 1001) r' ∧ fiM r' (fitS v w 120).1 (fitS v w 120).2) ∧ (¬ lgP v w → ∃ r', fX10_layLog (si (g 1001) 0 (nI 0)) x (nI m) = some (r', nI 0) ∧ MP (g 1001) r') := by
  have hl := hlog _ (m0 _)
  have mp1 : MP (g 1001) (si (si (g 1001) 0 (nI 0)) 41 (nI m)) := (m0 _).tr (MP.si _ _ _)
  obtain ⟨r', e1, hd, mp2, f1, f2⟩ := h3 _ mp1
  have hd2 : Hd (si r' 43 (nI 0)) n v := hd.keep rfl rfl (gi_sin (by decide)) (gi_sin (by decide)) (gi_sin (by decide))
  have mp3 : MP (g 1001) (si r' 43 (nI 0)) := (mp1.tr mp2).tr (MP.si _ _ _)
  have lg : LgM (si r' 43 (nI 0)) m w := ⟨hm, lw, by rw [gi_sin (by decide), f2 41 (by decide) (by decide) (by decide)]; rfl, by rw [ga_si, f1 9 (by decide)]; exact lm⟩
  have e : fX10_layLog (si (g 1001) 0 (nI 0)) x (nI m) = iter (fun st : Int32 => bX10_layLog_25 (si r' 43 (nI 0)) st) (nI 0) := by
    unfold fX10_layLog
    simp (disch := omega) only [hl, e1, bd_some, gd_true, inR_nI, nI_clamp, nI_add, pk_mul, pk_sub, leT, leF, ltT, ltF, eqT, eqF, ite_true, ite_false, reduceIte, nz_nI, oc_s, oc_n, pk_div, pk_rem, m1F, L0, L1, L2, L3, L4, L5, L6, L7, L8, L9, L10, L11, L12, L19, L20, L24, L25, L27, L28, L30, L32, L37, L39, L40, L47, L48, L50, L55, L57, L60, L61, L63, L71, L80, L97, L99, L100, L120, L122, L128, L161, L17, L600, L1000000, L1024, L1408, isB0, isB1, subdm, inT, inFl, inFh]
  rw [e]
  obtain ⟨l1, l2⟩ := lay25 ok hd2 lg
  refine ⟨fun hp => ?_, fun hp => ⟨_, l2 hp, mp3⟩⟩
  rw [l1 hp]
  obtain ⟨r2, q1, q2, q3, q4⟩ := lay62 ok hd2 lg hp (gi_sie _ _ _)
  exact ⟨r2, q1, hd2.keep (q3 28 (by decide)) (q3 6 (by decide)) (q4 25 (by decide)) (q4 26 (by decide)) (q4 27 (by decide)), mp3.tr (MP.of (fun k hk => q3 k (by omega))), q2⟩
theorem lay_no {g : Gs} {x y : Int32} (hlog : ∀ r, MP (g 1001) r → fX10_hasLog r y = some (si r 41 y, nI 0)) : fX10_layLog (si (g 1001) 0 (nI 0)) x y = some (si (si (g 1001) 0 (nI 0)) 41 y, nI 0) := by
  have hl := hlog _ (m0 _)
  unfold fX10_layLog
  simp (disch := omega) only [hl, bd_some, gd_true, inR_nI, nI_clamp, nI_add, pk_mul, pk_sub, leT, leF, ltT, ltF, eqT, eqF, ite_true, ite_false, reduceIte, nz_nI, oc_s, oc_n, pk_div, pk_rem, m1F, L0, L1, L2, L3, L4, L5, L6, L7, L8, L9, L10, L11, L12, L19, L20, L24, L25, L27, L28, L30, L32, L37, L39, L40, L47, L48, L50, L55, L57, L60, L61, L63, L71, L80, L97, L99, L100, L120, L122, L128, L161, L17, L600, L1000000, L1024, L1408, isB0, isB1, subdm, inT, inFl, inFh]
theorem lay_noH {g : Gs} {x : Int32} {m : Nat} (hlog : ∀ r, MP (g 1001) r → fX10_hasLog r (nI m) = some (si r 41 (nI m), nI 1)) (h2 : ∀ r, MP (g 1001) r → fX10_hand r x = some (r, 0)) : fX10_layLog (si (g 1001) 0 (nI 0)) x (nI m) = some (si (si (g 1001) 0 (nI 0)) 41 (nI m), nI 0) := by
  have hl := hlog _ (m0 _)
  have hh := h2 (si (si (g 1001) 0 (nI 0)) 41 (nI m)) ((m0 _).tr (MP.si _ _ _))
  unfold fX10_layLog
  simp (disch := omega) only [hl, hh, bd_some, gd_true, inR_nI, nI_clamp, nI_add, pk_mul, pk_sub, leT, leF, ltT, ltF, eqT, eqF, ite_true, ite_false, reduceIte, nz_nI, oc_s, oc_n, pk_div, pk_rem, m1F, L0, L1, L2, L3, L4, L5, L6, L7, L8, L9, L10, L11, L12, L19, L20, L24, L25, L27, L28, L30, L32, L37, L39, L40, L47, L48, L50, L55, L57, L60, L61, L63, L71, L80, L97, L99, L100, L120, L122, L128, L161, L17, L600, L1000000, L1024, L1408, isB0, isB1, subdm, inT, inFl, inFh]
theorem hasFit_T {g : Gs} {N : Nat} {f : Nat → Nat} (hf : fiX g N f) {k : Nat} (hk : k < N) (hN : N ≤ 120) : fX1_hasFit g (nI k) = some (nI 1) := by
  have a1 := hf.1
  unfold fX1_hasFit
  simp (disch := omega) only [a1, bd_some, gd_true, inR_nI, nI_clamp, nI_add, pk_mul, pk_sub, leT, leF, ltT, ltF, eqT, eqF, ite_true, ite_false, reduceIte, nz_nI, oc_s, oc_n, pk_div, pk_rem, m1F, L0, L1, L2, L3, L4, L5, L6, L7, L8, L9, L10, L11, L12, L19, L20, L24, L25, L27, L28, L30, L32, L37, L39, L40, L47, L48, L50, L55, L57, L60, L61, L63, L71, L80, L97, L99, L100, L120, L122, L128, L161, L17, L600, L1000000, L1024, L1408, isB0, isB1, subdm, inT, inFl, inFh]
theorem hasFit_F {g : Gs} {N : Nat} {f : Nat → Nat} (hf : fiX g N f) {k : Nat} (hk : N ≤ k) (hk2 : k < 2 ^ 31) : fX1_hasFit g (nI k) = some (nI 0) := by
  have a1 := hf.1
  unfold fX1_hasFit
  simp (disch := omega) only [a1, bd_some, gd_true, inR_nI, nI_clamp, nI_add, pk_mul, pk_sub, leT, leF, ltT, ltF, eqT, eqF, ite_true, ite_false, reduceIte, nz_nI, oc_s, oc_n, pk_div, pk_rem, m1F, L0, L1, L2, L3, L4, L5, L6, L7, L8, L9, L10, L11, L12, L19, L20, L24, L25, L27, L28, L30, L32, L37, L39, L40, L47, L48, L50, L55, L57, L60, L61, L63, L71, L80, L97, L99, L100, L120, L122, L128, L161, L17, L600, L1000000, L1024, L1408, isB0, isB1, subdm, inT, inFl, inFh]
theorem hasFit_N {g : Gs} {x : Int32} (hx : x < 0) : fX1_hasFit g x = some (nI 0) := by
  unfold fX1_hasFit
  simp (disch := omega) only [neg0 hx, bd_some, gd_true, inR_nI, nI_clamp, nI_add, pk_mul, pk_sub, leT, leF, ltT, ltF, eqT, eqF, ite_true, ite_false, reduceIte, nz_nI, oc_s, oc_n, pk_div, pk_rem, m1F, L0, L1, L2, L3, L4, L5, L6, L7, L8, L9, L10, L11, L12, L19, L20, L24, L25, L27, L28, L30, L32, L37, L39, L40, L47, L48, L50, L55, L57, L60, L61, L63, L71, L80, L97, L99, L100, L120, L122, L128, L161, L17, L600, L1000000, L1024, L1408, isB0, isB1, subdm, inT, inFl, inFh]
theorem xp101 {g g1 : Gs} (hI : Inv g) (h : ∀ o, o ≠ 101 → g1 o = g o) : XP g g1 := XP.of hI.1 h (Or.inr (Or.inr (Or.inr rfl)))
/-- the answers of fits, where both tables are laid -/
theorem fits_at {g g1 : Gs} {r : Rec} {n : Nat} {v : Hv} {N : Nat} {f : Nat → Nat} (hI : Inv g) (ok : HvOK v) (hn : n < 2) (hx : HX (g (200 + n)) v) (hd : Hd r n v) (hmp : MP (g 1001) r) (fx : fiX g1 N f) (fm : fiM r N f) (hN : N ≤ 120) (hf2 : ∀ j, j < N → f j < 120) (hg : ∀ o, o ≠ 101 → g1 o = g o) (a3 : Int32) : ∃ (g2 : Gs) (y : Int32) (r2 : Rec), (if a3 = 0 then some ((g1, gi (g1 101) 1)) else if a3 = 1 then (fX1_sureKind g1).bind fun z16 => some ((g1, z16)) else if a3 = 2 then (fX1_sureWeight g1).bind fun z17 => some ((g1, z17)) else if a3 = 3 then (fX1_fittingSecrets g1 (200 + n)).bind fun z18 => some ((g1, z18)) else if a3 = 4 then (fX1_bestAsked g1 (200 + n)).bind fun z19 => some ((z19.1, z19.2)) else if a3 < 10 then some ((g1, (-2))) else (fX1_hasFit g1 (a3 - 10)).bind fun z12 => if z12 = 0 then some ((g1, (-2))) else gd (inR (a3 - 10) 120) (some ((g1, ga (g1 101) 0 (Int32.toNatClampNeg (a3 - 10)))))) = some (g2, y) ∧ (if a3 < 10 then if a3 = 0 then some ((r, gi r 43)) else if a3 = 1 then bX10_fits_89 r a3 else if a3 = 2 then bX10_fits_89 r a3 else if a3 = 3 then (fX10_which r).bind fun z5 => some ((r, z5)) else if a3 = 4 then (fX10_ask r).bind fun z6 => some ((z6.1, z6.2)) else some ((r, (-2))) else if (gi r 43) ≤ (a3 - 10) then some ((r, (-2))) else gd (inR (a3 - 10) 120) (some ((r, ga r 42 (Int32.toNatClampNeg (a3 - 10)))))) = some (r2, y) ∧ (∀ o, o ≠ 101 → g2 o = g o) ∧ MP (g 1001) r2 := by
  have hx1 : HX (g1 (200 + n)) v := by rw [hg _ (by omega)]; exact hx
  have a1 := fx.1
  have b1 := fm.1
  rcases i32_cases a3 with k | ⟨q, hq, rfl⟩
  · refine ⟨g1, -nI 2, r, ?_, ?_, hg, hmp⟩
    · simp (disch := omega) only [negEq k, neg1 k, bd_some, gd_true, inR_nI, nI_clamp, nI_add, pk_mul, pk_sub, leT, leF, ltT, ltF, eqT, eqF, ite_true, ite_false, reduceIte, nz_nI, oc_s, oc_n, pk_div, pk_rem, m1F, L0, L1, L2, L3, L4, L5, L6, L7, L8, L9, L10, L11, L12, L19, L20, L24, L25, L27, L28, L30, L32, L37, L39, L40, L47, L48, L50, L55, L57, L60, L61, L63, L71, L80, L97, L99, L100, L120, L122, L128, L161, L17, L600, L1000000, L1024, L1408, isB0, isB1, subdm, inT, inFl, inFh]
    · simp (disch := omega) only [negEq k, neg1 k, bd_some, gd_true, inR_nI, nI_clamp, nI_add, pk_mul, pk_sub, leT, leF, ltT, ltF, eqT, eqF, ite_true, ite_false, reduceIte, nz_nI, oc_s, oc_n, pk_div, pk_rem, m1F, L0, L1, L2, L3, L4, L5, L6, L7, L8, L9, L10, L11, L12, L19, L20, L24, L25, L27, L28, L30, L32, L37, L39, L40, L47, L48, L50, L55, L57, L60, L61, L63, L71, L80, L97, L99, L100, L120, L122, L128, L161, L17, L600, L1000000, L1024, L1408, isB0, isB1, subdm, inT, inFl, inFh]
  · by_cases h10 : q < 10
    · by_cases q0 : q = 0
      · refine ⟨g1, nI N, r, ?_, ?_, hg, hmp⟩
        · simp (disch := omega) only [a1, bd_some, gd_true, inR_nI, nI_clamp, nI_add, pk_mul, pk_sub, leT, leF, ltT, ltF, eqT, eqF, ite_true, ite_false, reduceIte, nz_nI, oc_s, oc_n, pk_div, pk_rem, m1F, L0, L1, L2, L3, L4, L5, L6, L7, L8, L9, L10, L11, L12, L19, L20, L24, L25, L27, L28, L30, L32, L37, L39, L40, L47, L48, L50, L55, L57, L60, L61, L63, L71, L80, L97, L99, L100, L120, L122, L128, L161, L17, L600, L1000000, L1024, L1408, isB0, isB1, subdm, inT, inFl, inFh]
        · simp (disch := omega) only [b1, bd_some, gd_true, inR_nI, nI_clamp, nI_add, pk_mul, pk_sub, leT, leF, ltT, ltF, eqT, eqF, ite_true, ite_false, reduceIte, nz_nI, oc_s, oc_n, pk_div, pk_rem, m1F, L0, L1, L2, L3, L4, L5, L6, L7, L8, L9, L10, L11, L12, L19, L20, L24, L25, L27, L28, L30, L32, L37, L39, L40, L47, L48, L50, L55, L57, L60, L61, L63, L71, L80, L97, L99, L100, L120, L122, L128, L161, L17, L600, L1000000, L1024, L1408, isB0, isB1, subdm, inT, inFl, inFh]
      · by_cases q1 : q = 1
        · obtain ⟨y, y1, y2⟩ := suk_both fx fm hN hf2
          refine ⟨g1, y, r, ?_, ?_, hg, hmp⟩
          · simp (disch := omega) only [y1, bd_some, gd_true, inR_nI, nI_clamp, nI_add, pk_mul, pk_sub, leT, leF, ltT, ltF, eqT, eqF, ite_true, ite_false, reduceIte, nz_nI, oc_s, oc_n, pk_div, pk_rem, m1F, L0, L1, L2, L3, L4, L5, L6, L7, L8, L9, L10, L11, L12, L19, L20, L24, L25, L27, L28, L30, L32, L37, L39, L40, L47, L48, L50, L55, L57, L60, L61, L63, L71, L80, L97, L99, L100, L120, L122, L128, L161, L17, L600, L1000000, L1024, L1408, isB0, isB1, subdm, inT, inFl, inFh]
          · unfold bX10_fits_89 bX10_fits_100
            simp (disch := omega) only [y2, bd_some, gd_true, inR_nI, nI_clamp, nI_add, pk_mul, pk_sub, leT, leF, ltT, ltF, eqT, eqF, ite_true, ite_false, reduceIte, nz_nI, oc_s, oc_n, pk_div, pk_rem, m1F, L0, L1, L2, L3, L4, L5, L6, L7, L8, L9, L10, L11, L12, L19, L20, L24, L25, L27, L28, L30, L32, L37, L39, L40, L47, L48, L50, L55, L57, L60, L61, L63, L71, L80, L97, L99, L100, L120, L122, L128, L161, L17, L600, L1000000, L1024, L1408, isB0, isB1, subdm, inT, inFl, inFh]
        · by_cases q2 : q = 2
          · obtain ⟨y, y1, y2⟩ := suw_both fx fm hN hf2
            refine ⟨g1, y, r, ?_, ?_, hg, hmp⟩
            · simp (disch := omega) only [y1, bd_some, gd_true, inR_nI, nI_clamp, nI_add, pk_mul, pk_sub, leT, leF, ltT, ltF, eqT, eqF, ite_true, ite_false, reduceIte, nz_nI, oc_s, oc_n, pk_div, pk_rem, m1F, L0, L1, L2, L3, L4, L5, L6, L7, L8, L9, L10, L11, L12, L19, L20, L24, L25, L27, L28, L30, L32, L37, L39, L40, L47, L48, L50, L55, L57, L60, L61, L63, L71, L80, L97, L99, L100, L120, L122, L128, L161, L17, L600, L1000000, L1024, L1408, isB0, isB1, subdm, inT, inFl, inFh]
            · unfold bX10_fits_89 bX10_fits_100
              simp (disch := omega) only [y2, bd_some, gd_true, inR_nI, nI_clamp, nI_add, pk_mul, pk_sub, leT, leF, ltT, ltF, eqT, eqF, ite_true, ite_false, reduceIte, nz_nI, oc_s, oc_n, pk_div, pk_rem, m1F, L0, L1, L2, L3, L4, L5, L6, L7, L8, L9, L10, L11, L12, L19, L20, L24, L25, L27, L28, L30, L32, L37, L39, L40, L47, L48, L50, L55, L57, L60, L61, L63, L71, L80, L97, L99, L100, L120, L122, L128, L161, L17, L600, L1000000, L1024, L1408, isB0, isB1, subdm, inT, inFl, inFh]
          · by_cases q3 : q = 3
            · have y1 := whichX ok hx1 fx hN hf2
              have y2 := whichM ok hd fm hN hf2
              refine ⟨g1, nI (fo (whS v f N) 0 (hS v)), r, ?_, ?_, hg, hmp⟩
              · simp (disch := omega) only [y1, bd_some, gd_true, inR_nI, nI_clamp, nI_add, pk_mul, pk_sub, leT, leF, ltT, ltF, eqT, eqF, ite_true, ite_false, reduceIte, nz_nI, oc_s, oc_n, pk_div, pk_rem, m1F, L0, L1, L2, L3, L4, L5, L6, L7, L8, L9, L10, L11, L12, L19, L20, L24, L25, L27, L28, L30, L32, L37, L39, L40, L47, L48, L50, L55, L57, L60, L61, L63, L71, L80, L97, L99, L100, L120, L122, L128, L161, L17, L600, L1000000, L1024, L1408, isB0, isB1, subdm, inT, inFl, inFh]
              · simp (disch := omega) only [y2, bd_some, gd_true, inR_nI, nI_clamp, nI_add, pk_mul, pk_sub, leT, leF, ltT, ltF, eqT, eqF, ite_true, ite_false, reduceIte, nz_nI, oc_s, oc_n, pk_div, pk_rem, m1F, L0, L1, L2, L3, L4, L5, L6, L7, L8, L9, L10, L11, L12, L19, L20, L24, L25, L27, L28, L30, L32, L37, L39, L40, L47, L48, L50, L55, L57, L60, L61, L63, L71, L80, L97, L99, L100, L120, L122, L128, L161, L17, L600, L1000000, L1024, L1408, isB0, isB1, subdm, inT, inFl, inFh]
            · by_cases q4 : q = 4
              · by_cases hN0 : N = 0
                · refine ⟨g1, -nI 1, r, ?_, ?_, hg, hmp⟩
                  · have e : fX1_bestAsked g1 (200 + n) = some (g1, -nI 1) := by
                      unfold fX1_bestAsked
                      refine iter_end (step := fun st : Int32 × Int32 × Int32 × Gs => bX1_bestAsked_8 st.2.2.2 (200 + n) st.1 st.2.1 st.2.2.1) (s := ((-1 : Int32), (121 : Int32), (0 : Int32), g1)) ?_
                      show bX1_bestAsked_8 g1 (200 + n) (-1) 121 0 = _
                      unfold bX1_bestAsked_8
                      simp (disch := omega) only [a1, bd_some, gd_true, inR_nI, nI_clamp, nI_add, pk_mul, pk_sub, leT, leF, ltT, ltF, eqT, eqF, ite_true, ite_false, reduceIte, nz_nI, oc_s, oc_n, pk_div, pk_rem, m1F, L0, L1, L2, L3, L4, L5, L6, L7, L8, L9, L10, L11, L12, L19, L20, L24, L25, L27, L28, L30, L32, L37, L39, L40, L47, L48, L50, L55, L57, L60, L61, L63, L71, L80, L97, L99, L100, L120, L122, L128, L161, L17, L600, L1000000, L1024, L1408, isB0, isB1, subdm, inT, inFl, inFh]
                    simp (disch := omega) only [e, bd_some, gd_true, inR_nI, nI_clamp, nI_add, pk_mul, pk_sub, leT, leF, ltT, ltF, eqT, eqF, ite_true, ite_false, reduceIte, nz_nI, oc_s, oc_n, pk_div, pk_rem, m1F, L0, L1, L2, L3, L4, L5, L6, L7, L8, L9, L10, L11, L12, L19, L20, L24, L25, L27, L28, L30, L32, L37, L39, L40, L47, L48, L50, L55, L57, L60, L61, L63, L71, L80, L97, L99, L100, L120, L122, L128, L161, L17, L600, L1000000, L1024, L1408, isB0, isB1, subdm, inT, inFl, inFh]
                  · have e : fX10_ask r = some (r, -nI 1) := by
                      unfold fX10_ask
                      refine iter_end (step := fun st : Int32 × Int32 × Int32 × Rec => bX10_ask_8 st.2.2.2 st.1 st.2.1 st.2.2.1) (s := ((-1 : Int32), (1000000 : Int32), (0 : Int32), r)) ?_
                      show bX10_ask_8 r (-1) 1000000 0 = _
                      have hP8 := ok.1
                      unfold bX10_ask_8
                      by_cases c : hP v = 0
                      · rw [if_pos (show gi r 26 ≤ 0 by rw [hd.P, c]; decide)]; rfl
                      · rw [if_neg (show ¬ gi r 26 ≤ 0 from fun z => by rw [hd.P] at z; have := (nI_leI (b := 0) (by omega) (by decide)).mp z; omega), if_pos (show gi r 43 ≤ 0 by rw [b1, hN0]; decide)]; rfl
                    simp (disch := omega) only [e, bd_some, gd_true, inR_nI, nI_clamp, nI_add, pk_mul, pk_sub, leT, leF, ltT, ltF, eqT, eqF, ite_true, ite_false, reduceIte, nz_nI, oc_s, oc_n, pk_div, pk_rem, m1F, L0, L1, L2, L3, L4, L5, L6, L7, L8, L9, L10, L11, L12, L19, L20, L24, L25, L27, L28, L30, L32, L37, L39, L40, L47, L48, L50, L55, L57, L60, L61, L63, L71, L80, L97, L99, L100, L120, L122, L128, L161, L17, L600, L1000000, L1024, L1408, isB0, isB1, subdm, inT, inFl, inFh]
                · obtain ⟨g2, y1, y2⟩ := askX ok hx1 (show 200 + n ≠ 101 by omega) fx (by omega) hN hf2
                  obtain ⟨r2, z1, z2⟩ := askM ok hd fm (by omega) hN hf2
                  refine ⟨g2, eBk (akS v f N (hP v)), r2, ?_, ?_, fun o ho => by rw [y2 o ho, hg o ho], hmp.tr (MP.of (fun k hk => z2 k (by omega)))⟩
                  · simp (disch := omega) only [y1, bd_some, gd_true, inR_nI, nI_clamp, nI_add, pk_mul, pk_sub, leT, leF, ltT, ltF, eqT, eqF, ite_true, ite_false, reduceIte, nz_nI, oc_s, oc_n, pk_div, pk_rem, m1F, L0, L1, L2, L3, L4, L5, L6, L7, L8, L9, L10, L11, L12, L19, L20, L24, L25, L27, L28, L30, L32, L37, L39, L40, L47, L48, L50, L55, L57, L60, L61, L63, L71, L80, L97, L99, L100, L120, L122, L128, L161, L17, L600, L1000000, L1024, L1408, isB0, isB1, subdm, inT, inFl, inFh]
                  · simp (disch := omega) only [z1, bd_some, gd_true, inR_nI, nI_clamp, nI_add, pk_mul, pk_sub, leT, leF, ltT, ltF, eqT, eqF, ite_true, ite_false, reduceIte, nz_nI, oc_s, oc_n, pk_div, pk_rem, m1F, L0, L1, L2, L3, L4, L5, L6, L7, L8, L9, L10, L11, L12, L19, L20, L24, L25, L27, L28, L30, L32, L37, L39, L40, L47, L48, L50, L55, L57, L60, L61, L63, L71, L80, L97, L99, L100, L120, L122, L128, L161, L17, L600, L1000000, L1024, L1408, isB0, isB1, subdm, inT, inFl, inFh]
              · refine ⟨g1, -nI 2, r, ?_, ?_, hg, hmp⟩
                · simp (disch := omega) only [bd_some, gd_true, inR_nI, nI_clamp, nI_add, pk_mul, pk_sub, leT, leF, ltT, ltF, eqT, eqF, ite_true, ite_false, reduceIte, nz_nI, oc_s, oc_n, pk_div, pk_rem, m1F, L0, L1, L2, L3, L4, L5, L6, L7, L8, L9, L10, L11, L12, L19, L20, L24, L25, L27, L28, L30, L32, L37, L39, L40, L47, L48, L50, L55, L57, L60, L61, L63, L71, L80, L97, L99, L100, L120, L122, L128, L161, L17, L600, L1000000, L1024, L1408, isB0, isB1, subdm, inT, inFl, inFh]
                · simp (disch := omega) only [bd_some, gd_true, inR_nI, nI_clamp, nI_add, pk_mul, pk_sub, leT, leF, ltT, ltF, eqT, eqF, ite_true, ite_false, reduceIte, nz_nI, oc_s, oc_n, pk_div, pk_rem, m1F, L0, L1, L2, L3, L4, L5, L6, L7, L8, L9, L10, L11, L12, L19, L20, L24, L25, L27, L28, L30, L32, L37, L39, L40, L47, L48, L50, L55, L57, L60, L61, L63, L71, L80, L97, L99, L100, L120, L122, L128, L161, L17, L600, L1000000, L1024, L1408, isB0, isB1, subdm, inT, inFl, inFh]
    · by_cases hk : q - 10 < N
      · have c1 := fx.2 (q - 10) hk
        have c2 := fm.2 (q - 10) hk
        have c3 := hasFit_T fx hk hN
        refine ⟨g1, nI (f (q - 10)), r, ?_, ?_, hg, hmp⟩
        · simp (disch := omega) only [c3, c1, bd_some, gd_true, inR_nI, nI_clamp, nI_add, pk_mul, pk_sub, leT, leF, ltT, ltF, eqT, eqF, ite_true, ite_false, reduceIte, nz_nI, oc_s, oc_n, pk_div, pk_rem, m1F, L0, L1, L2, L3, L4, L5, L6, L7, L8, L9, L10, L11, L12, L19, L20, L24, L25, L27, L28, L30, L32, L37, L39, L40, L47, L48, L50, L55, L57, L60, L61, L63, L71, L80, L97, L99, L100, L120, L122, L128, L161, L17, L600, L1000000, L1024, L1408, isB0, isB1, subdm, inT, inFl, inFh]
        · simp (disch := omega) only [b1, c2, bd_some, gd_true, inR_nI, nI_clamp, nI_add, pk_mul, pk_sub, leT, leF, ltT, ltF, eqT, eqF, ite_true, ite_false, reduceIte, nz_nI, oc_s, oc_n, pk_div, pk_rem, m1F, L0, L1, L2, L3, L4, L5, L6, L7, L8, L9, L10, L11, L12, L19, L20, L24, L25, L27, L28, L30, L32, L37, L39, L40, L47, L48, L50, L55, L57, L60, L61, L63, L71, L80, L97, L99, L100, L120, L122, L128, L161, L17, L600, L1000000, L1024, L1408, isB0, isB1, subdm, inT, inFl, inFh]
      · have c3 := hasFit_F fx (show N ≤ q - 10 by omega) (by omega)
        refine ⟨g1, -nI 2, r, ?_, ?_, hg, hmp⟩
        · simp (disch := omega) only [c3, bd_some, gd_true, inR_nI, nI_clamp, nI_add, pk_mul, pk_sub, leT, leF, ltT, ltF, eqT, eqF, ite_true, ite_false, reduceIte, nz_nI, oc_s, oc_n, pk_div, pk_rem, m1F, L0, L1, L2, L3, L4, L5, L6, L7, L8, L9, L10, L11, L12, L19, L20, L24, L25, L27, L28, L30, L32, L37, L39, L40, L47, L48, L50, L55, L57, L60, L61, L63, L71, L80, L97, L99, L100, L120, L122, L128, L161, L17, L600, L1000000, L1024, L1408, isB0, isB1, subdm, inT, inFl, inFh]
        · simp (disch := omega) only [b1, bd_some, gd_true, inR_nI, nI_clamp, nI_add, pk_mul, pk_sub, leT, leF, ltT, ltF, eqT, eqF, ite_true, ite_false, reduceIte, nz_nI, oc_s, oc_n, pk_div, pk_rem, m1F, L0, L1, L2, L3, L4, L5, L6, L7, L8, L9, L10, L11, L12, L19, L20, L24, L25, L27, L28, L30, L32, L37, L39, L40, L47, L48, L50, L55, L57, L60, L61, L63, L71, L80, L97, L99, L100, L120, L122, L128, L161, L17, L600, L1000000, L1024, L1408, isB0, isB1, subdm, inT, inFl, inFh]
theorem fitS_f {v : Hv} {w : Rv} : (fitS v w 120).1 ≤ 120 ∧ ∀ j, j < (fitS v w 120).1 → (fitS v w 120).2 j < 120 := fitS_ok 120
theorem ob_fits : Ob_fits Inv := by
  intro g a1 a2 a3 hI
  rcases log_cases hI a2 with ⟨k1, k2⟩ | ⟨m, w, hm, rfl, lw, lx, lm, k1, k2, k3⟩
  · have hl := lay_no (x := a1) k2
    have mp1 : MP (g 1001) (si (si (g 1001) 0 (nI 0)) 41 a2) := (m0 _).tr (MP.si _ _ _)
    refine ⟨g, -2, si (si (g 1001) 0 (nI 0)) 41 a2, ?_, ?_, rfl, hI.1, hI.keep (XP.rf hI.1) mp1⟩
    · unfold fX9_fits
      rcases house_cases hI a1 with ⟨h1, -⟩ | ⟨n, v, hn, rfl, ok, hx, h1, h2, -⟩
      · simp (disch := omega) only [h1, k1, bd_some, gd_true, inR_nI, nI_clamp, nI_add, pk_mul, pk_sub, leT, leF, ltT, ltF, eqT, eqF, ite_true, ite_false, reduceIte, nz_nI, oc_s, oc_n, pk_div, pk_rem, m1F, L0, L1, L2, L3, L4, L5, L6, L7, L8, L9, L10, L11, L12, L19, L20, L24, L25, L27, L28, L30, L32, L37, L39, L40, L47, L48, L50, L55, L57, L60, L61, L63, L71, L80, L97, L99, L100, L120, L122, L128, L161, L17, L600, L1000000, L1024, L1408, isB0, isB1, subdm, inT, inFl, inFh]
      · simp (disch := omega) only [h1, h2, k1, bd_some, gd_true, inR_nI, nI_clamp, nI_add, pk_mul, pk_sub, leT, leF, ltT, ltF, eqT, eqF, ite_true, ite_false, reduceIte, nz_nI, oc_s, oc_n, pk_div, pk_rem, m1F, L0, L1, L2, L3, L4, L5, L6, L7, L8, L9, L10, L11, L12, L19, L20, L24, L25, L27, L28, L30, L32, L37, L39, L40, L47, L48, L50, L55, L57, L60, L61, L63, L71, L80, L97, L99, L100, L120, L122, L128, L161, L17, L600, L1000000, L1024, L1408, isB0, isB1, subdm, inT, inFl, inFh]
    · unfold fX10_fits
      simp (disch := omega) only [hl, bd_some, gd_true, inR_nI, nI_clamp, nI_add, pk_mul, pk_sub, leT, leF, ltT, ltF, eqT, eqF, ite_true, ite_false, reduceIte, nz_nI, oc_s, oc_n, pk_div, pk_rem, m1F, L0, L1, L2, L3, L4, L5, L6, L7, L8, L9, L10, L11, L12, L19, L20, L24, L25, L27, L28, L30, L32, L37, L39, L40, L47, L48, L50, L55, L57, L60, L61, L63, L71, L80, L97, L99, L100, L120, L122, L128, L161, L17, L600, L1000000, L1024, L1408, isB0, isB1, subdm, inT, inFl, inFh]
  · rcases house_cases3 hI a1 with ⟨h1, h2⟩ | ⟨n, v, hn, rfl, ok, hx, h1, h2, h3⟩
    · have hl := lay_noH k3 h2
      have mp1 : MP (g 1001) (si (si (g 1001) 0 (nI 0)) 41 (nI m)) := (m0 _).tr (MP.si _ _ _)
      refine ⟨g, -2, si (si (g 1001) 0 (nI 0)) 41 (nI m), ?_, ?_, rfl, hI.1, hI.keep (XP.rf hI.1) mp1⟩
      · unfold fX9_fits
        simp (disch := omega) only [h1, k1, k2, bd_some, gd_true, inR_nI, nI_clamp, nI_add, pk_mul, pk_sub, leT, leF, ltT, ltF, eqT, eqF, ite_true, ite_false, reduceIte, nz_nI, oc_s, oc_n, pk_div, pk_rem, m1F, L0, L1, L2, L3, L4, L5, L6, L7, L8, L9, L10, L11, L12, L19, L20, L24, L25, L27, L28, L30, L32, L37, L39, L40, L47, L48, L50, L55, L57, L60, L61, L63, L71, L80, L97, L99, L100, L120, L122, L128, L161, L17, L600, L1000000, L1024, L1408, isB0, isB1, subdm, inT, inFl, inFh]
      · unfold fX10_fits
        simp (disch := omega) only [hl, bd_some, gd_true, inR_nI, nI_clamp, nI_add, pk_mul, pk_sub, leT, leF, ltT, ltF, eqT, eqF, ite_true, ite_false, reduceIte, nz_nI, oc_s, oc_n, pk_div, pk_rem, m1F, L0, L1, L2, L3, L4, L5, L6, L7, L8, L9, L10, L11, L12, L19, L20, L24, L25, L27, L28, L30, L32, L37, L39, L40, L47, L48, L50, L55, L57, L60, L61, L63, L71, L80, L97, L99, L100, L120, L122, L128, L161, L17, L600, L1000000, L1024, L1408, isB0, isB1, subdm, inT, inFl, inFh]
    · obtain ⟨l1, l2⟩ := layM ok h3 hm lw lm k3
      obtain ⟨p1, p2⟩ := hasPieces_nI ok hx (m := m) (w := w) ⟨hm, lw, lx⟩
      by_cases hp : lgP v w
      · obtain ⟨r1, e1, hd, mp1, fm⟩ := l1 hp
        obtain ⟨g1, e2, fx, hg⟩ := gather_nI ok (u := 200 + n) (m := m) (w := w) (by omega) hx ⟨hm, lw, lx⟩ hp
        have p1 := p1 hp
        obtain ⟨g2, y, r2, c1, c2, c3, c4⟩ := fits_at hI ok hn hx hd mp1 fx fm fitS_f.1 fitS_f.2 hg a3
        refine ⟨g2, y, r2, ?_, ?_, by rw [c3 901 (by decide)], by rw [c3 1 (by decide)]; exact hI.1, hI.keep (xp101 hI c3) c4⟩
        · unfold fX9_fits
          rw [h1, bd_some, oc_s, h2, gd_true, show fX8_rowsAt (g 800) 800 3 (nI m) = some (some (504 + m)) from k1, bd_some, oc_s, k2, gd_true, show fX2_hasPieces g (200 + n) (504 + m) 1 = some (nI 1) from p1, bd_some, if_neg (by decide), e2, bd_some]
          exact c1
        · rw [c3 1001 (by decide)]
          unfold fX10_fits
          rw [bd_some, show fX10_layLog (si (g 1001) 0 0) (nI n) (nI m) = some (r1, nI 1) from e1, bd_some]
          dsimp only
          rw [if_neg (by decide)]
          exact c2
      · obtain ⟨r1, e1, mp1⟩ := l2 hp
        have p2 := p2 hp
        refine ⟨g, -2, r1, ?_, ?_, rfl, hI.1, hI.keep (XP.rf hI.1) mp1⟩
        · unfold fX9_fits
          simp (disch := omega) only [h1, h2, k1, k2, p2, bd_some, gd_true, inR_nI, nI_clamp, nI_add, pk_mul, pk_sub, leT, leF, ltT, ltF, eqT, eqF, ite_true, ite_false, reduceIte, nz_nI, oc_s, oc_n, pk_div, pk_rem, m1F, L0, L1, L2, L3, L4, L5, L6, L7, L8, L9, L10, L11, L12, L19, L20, L24, L25, L27, L28, L30, L32, L37, L39, L40, L47, L48, L50, L55, L57, L60, L61, L63, L71, L80, L97, L99, L100, L120, L122, L128, L161, L17, L600, L1000000, L1024, L1408, isB0, isB1, subdm, inT, inFl, inFh]
        · unfold fX10_fits
          simp (disch := omega) only [e1, bd_some, gd_true, inR_nI, nI_clamp, nI_add, pk_mul, pk_sub, leT, leF, ltT, ltF, eqT, eqF, ite_true, ite_false, reduceIte, nz_nI, oc_s, oc_n, pk_div, pk_rem, m1F, L0, L1, L2, L3, L4, L5, L6, L7, L8, L9, L10, L11, L12, L19, L20, L24, L25, L27, L28, L30, L32, L37, L39, L40, L47, L48, L50, L55, L57, L60, L61, L63, L71, L80, L97, L99, L100, L120, L122, L128, L161, L17, L600, L1000000, L1024, L1408, isB0, isB1, subdm, inT, inFl, inFh]
theorem in_ltI {x hi : Int32} (h : x < 0) : fX10_in x (nI 0) hi = some (nI 0) := in_lt0 h
theorem in_predT {k N : Nat} (hk : k < N) (hN : N ≤ 120) : fX10_in (nI k) (nI 0) (nI N - nI 1) = some (nI 1) := by
  have h := in_pred (n := k) (c := N) (by omega) (by omega)
  rw [if_pos hk] at h
  exact h
theorem in_predF {k N : Nat} (hk : N ≤ k) (hk2 : k < 2 ^ 31) : fX10_in (nI k) (nI 0) (nI N - nI 1) = some (nI 0) := by
  have h := in_pred (n := k) (c := N) hk2 (by omega)
  rw [if_neg (by omega)] at h
  exact h
theorem ob_would : Ob_would Inv := by
  intro g a1 a2 a3 a4 hI
  rcases log_cases hI a2 with ⟨k1, k2⟩ | ⟨m, w, hm, rfl, lw, lx, lm, k1, k2, k3⟩
  · have hl := lay_no (x := a1) k2
    have mp1 : MP (g 1001) (si (si (g 1001) 0 (nI 0)) 41 a2) := (m0 _).tr (MP.si _ _ _)
    refine ⟨g, -1, si (si (g 1001) 0 (nI 0)) 41 a2, ?_, ?_, rfl, hI.1, hI.keep (XP.rf hI.1) mp1⟩
    · unfold fX9_would
      rcases house_cases hI a1 with ⟨h1, -⟩ | ⟨n, v, hn, rfl, ok, hx, h1, h2, -⟩
      · simp (disch := omega) only [h1, k1, bd_some, gd_true, inR_nI, nI_clamp, nI_add, pk_mul, pk_sub, leT, leF, ltT, ltF, eqT, eqF, ite_true, ite_false, reduceIte, nz_nI, oc_s, oc_n, pk_div, pk_rem, m1F, L0, L1, L2, L3, L4, L5, L6, L7, L8, L9, L10, L11, L12, L19, L20, L24, L25, L27, L28, L30, L32, L37, L39, L40, L47, L48, L50, L55, L57, L60, L61, L63, L71, L80, L97, L99, L100, L120, L122, L128, L161, L17, L600, L1000000, L1024, L1408, isB0, isB1, subdm, inT, inFl, inFh]
      · simp (disch := omega) only [h1, h2, k1, bd_some, gd_true, inR_nI, nI_clamp, nI_add, pk_mul, pk_sub, leT, leF, ltT, ltF, eqT, eqF, ite_true, ite_false, reduceIte, nz_nI, oc_s, oc_n, pk_div, pk_rem, m1F, L0, L1, L2, L3, L4, L5, L6, L7, L8, L9, L10, L11, L12, L19, L20, L24, L25, L27, L28, L30, L32, L37, L39, L40, L47, L48, L50, L55, L57, L60, L61, L63, L71, L80, L97, L99, L100, L120, L122, L128, L161, L17, L600, L1000000, L1024, L1408, isB0, isB1, subdm, inT, inFl, inFh]
    · unfold fX10_would
      simp (disch := omega) only [hl, bd_some, gd_true, inR_nI, nI_clamp, nI_add, pk_mul, pk_sub, leT, leF, ltT, ltF, eqT, eqF, ite_true, ite_false, reduceIte, nz_nI, oc_s, oc_n, pk_div, pk_rem, m1F, L0, L1, L2, L3, L4, L5, L6, L7, L8, L9, L10, L11, L12, L19, L20, L24, L25, L27, L28, L30, L32, L37, L39, L40, L47, L48, L50, L55, L57, L60, L61, L63, L71, L80, L97, L99, L100, L120, L122, L128, L161, L17, L600, L1000000, L1024, L1408, isB0, isB1, subdm, inT, inFl, inFh]
  · rcases house_cases3 hI a1 with ⟨h1, h2⟩ | ⟨n, v, hn, rfl, ok, hx, h1, h2, h3⟩
    · have hl := lay_noH k3 h2
      have mp1 : MP (g 1001) (si (si (g 1001) 0 (nI 0)) 41 (nI m)) := (m0 _).tr (MP.si _ _ _)
      refine ⟨g, -1, si (si (g 1001) 0 (nI 0)) 41 (nI m), ?_, ?_, rfl, hI.1, hI.keep (XP.rf hI.1) mp1⟩
      · unfold fX9_would
        simp (disch := omega) only [h1, k1, k2, bd_some, gd_true, inR_nI, nI_clamp, nI_add, pk_mul, pk_sub, leT, leF, ltT, ltF, eqT, eqF, ite_true, ite_false, reduceIte, nz_nI, oc_s, oc_n, pk_div, pk_rem, m1F, L0, L1, L2, L3, L4, L5, L6, L7, L8, L9, L10, L11, L12, L19, L20, L24, L25, L27, L28, L30, L32, L37, L39, L40, L47, L48, L50, L55, L57, L60, L61, L63, L71, L80, L97, L99, L100, L120, L122, L128, L161, L17, L600, L1000000, L1024, L1408, isB0, isB1, subdm, inT, inFl, inFh]
      · unfold fX10_would
        simp (disch := omega) only [hl, bd_some, gd_true, inR_nI, nI_clamp, nI_add, pk_mul, pk_sub, leT, leF, ltT, ltF, eqT, eqF, ite_true, ite_false, reduceIte, nz_nI, oc_s, oc_n, pk_div, pk_rem, m1F, L0, L1, L2, L3, L4, L5, L6, L7, L8, L9, L10, L11, L12, L19, L20, L24, L25, L27, L28, L30, L32, L37, L39, L40, L47, L48, L50, L55, L57, L60, L61, L63, L71, L80, L97, L99, L100, L120, L122, L128, L161, L17, L600, L1000000, L1024, L1408, isB0, isB1, subdm, inT, inFl, inFh]
    · obtain ⟨l1, l2⟩ := layM ok h3 hm lw lm k3
      obtain ⟨p1, p2⟩ := hasPieces_nI ok hx (m := m) (w := w) ⟨hm, lw, lx⟩
      by_cases hp : lgP v w
      · obtain ⟨r1, e1, hd, mp1, fm⟩ := l1 hp
        obtain ⟨g1, e2, fx, hg⟩ := gather_nI ok (u := 200 + n) (m := m) (w := w) (by omega) hx ⟨hm, lw, lx⟩ hp
        have p1 := p1 hp
        have hN := (fitS_f (v := v) (w := w)).1
        have hf2 := (fitS_f (v := v) (w := w)).2
        generalize (fitS v w 120).1 = N at fx fm hN hf2
        generalize (fitS v w 120).2 = f at fx fm hf2
        have b1 := fm.1
        have hx1 : HX (g1 (200 + n)) v := by rw [hg _ (by omega)]; exact hx
        have hr : g1 1001 = g 1001 := hg _ (by decide)
        rcases piece_cases hx.P hd.P ok.1 a4 with ⟨q1, q2⟩ | ⟨p, hpp, rfl, q1, q2⟩
        · refine ⟨g, -1, r1, ?_, ?_, rfl, hI.1, hI.keep (XP.rf hI.1) mp1⟩
          · unfold fX9_would; simp (disch := omega) only [h1, h2, k1, k2, p1, q1, bd_some, gd_true, inR_nI, nI_clamp, nI_add, pk_mul, pk_sub, leT, leF, ltT, ltF, eqT, eqF, ite_true, ite_false, reduceIte, nz_nI, oc_s, oc_n, pk_div, pk_rem, m1F, L0, L1, L2, L3, L4, L5, L6, L7, L8, L9, L10, L11, L12, L19, L20, L24, L25, L27, L28, L30, L32, L37, L39, L40, L47, L48, L50, L55, L57, L60, L61, L63, L71, L80, L97, L99, L100, L120, L122, L128, L161, L17, L600, L1000000, L1024, L1408, isB0, isB1, subdm, inT, inFl, inFh]
          · unfold fX10_would; simp (disch := omega) only [e1, q2, bd_some, gd_true, inR_nI, nI_clamp, nI_add, pk_mul, pk_sub, leT, leF, ltT, ltF, eqT, eqF, ite_true, ite_false, reduceIte, nz_nI, oc_s, oc_n, pk_div, pk_rem, m1F, L0, L1, L2, L3, L4, L5, L6, L7, L8, L9, L10, L11, L12, L19, L20, L24, L25, L27, L28, L30, L32, L37, L39, L40, L47, L48, L50, L55, L57, L60, L61, L63, L71, L80, L97, L99, L100, L120, L122, L128, L161, L17, L600, L1000000, L1024, L1408, isB0, isB1, subdm, inT, inFl, inFh]
        · have fin : ∀ y, (fX1_hasFit g1 a3 = some (nI 0) ∧ fX10_in a3 (nI 0) (nI N - nI 1) = some (nI 0) ∧ y = -nI 1) → ∃ (g1 : Gs) (v_1 : Int32) (r : Rec), fX9_would g (nI n) (nI m) a3 (nI p) = some (g1, v_1) ∧ fX10_would (g1 1001) (nI n) (nI m) a3 (nI p) = some (r, v_1) ∧ gr (g1 901) = gr (g 901) ∧ isHm (gr (g1 1) 0) = true ∧ Inv (ug g1 1001 r) := by
            rintro y ⟨c1, c2, -⟩
            refine ⟨g1, -1, r1, ?_, ?_, by rw [hg 901 (by decide)], by rw [hg 1 (by decide)]; exact hI.1, hI.keep (xp101 hI hg) mp1⟩
            · unfold fX9_would; simp (disch := omega) only [h1, h2, k1, k2, p1, q1, e2, c1, bd_some, gd_true, inR_nI, nI_clamp, nI_add, pk_mul, pk_sub, leT, leF, ltT, ltF, eqT, eqF, ite_true, ite_false, reduceIte, nz_nI, oc_s, oc_n, pk_div, pk_rem, m1F, L0, L1, L2, L3, L4, L5, L6, L7, L8, L9, L10, L11, L12, L19, L20, L24, L25, L27, L28, L30, L32, L37, L39, L40, L47, L48, L50, L55, L57, L60, L61, L63, L71, L80, L97, L99, L100, L120, L122, L128, L161, L17, L600, L1000000, L1024, L1408, isB0, isB1, subdm, inT, inFl, inFh]
            · rw [hr]
              have c2' : fX10_in a3 0 (gi r1 43 - 1) = some 0 := by rw [b1]; exact c2
              unfold fX10_would
              rw [bd_some, show fX10_layLog (si (g 1001) 0 0) (nI n) (nI m) = some (r1, nI 1) from e1, bd_some]
              dsimp only
              rw [if_neg (by decide), q2, bd_some, if_neg (by decide), c2', bd_some, if_pos rfl]
          rcases i32_cases a3 with k | ⟨k, hk, rfl⟩
          · exact fin (-nI 1) ⟨hasFit_N k, in_ltI k, rfl⟩
          · by_cases hkN : k < N
            · have c1 := fx.2 k hkN
              have c2 := fm.2 k hkN
              have c3 := hasFit_T fx hkN hN
              have c4 := hf2 k hkN
              have c5 := hoursTold_nI ok hx1 c4 hpp
              have c6 := shinesBy_nI ok hd c4 hpp
              refine ⟨g1, nI (stv v (f k) p), r1, ?_, ?_, by rw [hg 901 (by decide)], by rw [hg 1 (by decide)]; exact hI.1, hI.keep (xp101 hI hg) mp1⟩
              · unfold fX9_would; simp (disch := omega) only [h1, h2, k1, k2, p1, q1, e2, c3, c1, c5, bd_some, gd_true, inR_nI, nI_clamp, nI_add, pk_mul, pk_sub, leT, leF, ltT, ltF, eqT, eqF, ite_true, ite_false, reduceIte, nz_nI, oc_s, oc_n, pk_div, pk_rem, m1F, L0, L1, L2, L3, L4, L5, L6, L7, L8, L9, L10, L11, L12, L19, L20, L24, L25, L27, L28, L30, L32, L37, L39, L40, L47, L48, L50, L55, L57, L60, L61, L63, L71, L80, L97, L99, L100, L120, L122, L128, L161, L17, L600, L1000000, L1024, L1408, isB0, isB1, subdm, inT, inFl, inFh]
              · rw [hr]
                unfold fX10_would
                simp (disch := omega) only [e1, q2, b1, c2, c6, bd_some, gd_true, inR_nI, nI_clamp, nI_add, pk_mul, pk_sub, leT, leF, ltT, ltF, eqT, eqF, ite_true, ite_false, reduceIte, nz_nI, oc_s, oc_n, pk_div, pk_rem, m1F, L0, L1, L2, L3, L4, L5, L6, L7, L8, L9, L10, L11, L12, L19, L20, L24, L25, L27, L28, L30, L32, L37, L39, L40, L47, L48, L50, L55, L57, L60, L61, L63, L71, L80, L97, L99, L100, L120, L122, L128, L161, L17, L600, L1000000, L1024, L1408, isB0, isB1, subdm, inT, inFl, inFh]
            · exact fin (-nI 1) ⟨hasFit_F fx (by omega) hk, in_predF (by omega) hk, rfl⟩
      · obtain ⟨r1, e1, mp1⟩ := l2 hp
        have p2 := p2 hp
        refine ⟨g, -1, r1, ?_, ?_, rfl, hI.1, hI.keep (XP.rf hI.1) mp1⟩
        · unfold fX9_would
          simp (disch := omega) only [h1, h2, k1, k2, p2, bd_some, gd_true, inR_nI, nI_clamp, nI_add, pk_mul, pk_sub, leT, leF, ltT, ltF, eqT, eqF, ite_true, ite_false, reduceIte, nz_nI, oc_s, oc_n, pk_div, pk_rem, m1F, L0, L1, L2, L3, L4, L5, L6, L7, L8, L9, L10, L11, L12, L19, L20, L24, L25, L27, L28, L30, L32, L37, L39, L40, L47, L48, L50, L55, L57, L60, L61, L63, L71, L80, L97, L99, L100, L120, L122, L128, L161, L17, L600, L1000000, L1024, L1408, isB0, isB1, subdm, inT, inFl, inFh]
        · unfold fX10_would
          simp (disch := omega) only [e1, bd_some, gd_true, inR_nI, nI_clamp, nI_add, pk_mul, pk_sub, leT, leF, ltT, ltF, eqT, eqF, ite_true, ite_false, reduceIte, nz_nI, oc_s, oc_n, pk_div, pk_rem, m1F, L0, L1, L2, L3, L4, L5, L6, L7, L8, L9, L10, L11, L12, L19, L20, L24, L25, L27, L28, L30, L32, L37, L39, L40, L47, L48, L50, L55, L57, L60, L61, L63, L71, L80, L97, L99, L100, L120, L122, L128, L161, L17, L600, L1000000, L1024, L1408, isB0, isB1, subdm, inT, inFl, inFh]
