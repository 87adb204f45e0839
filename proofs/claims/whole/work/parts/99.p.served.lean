theorem table_cases {g : Gs} (hI : Inv g) (x : Int32) : (fX8_rowsAt (g 800) 800 (nI 2) x = some none ∧ ∀ r, MP (g 1001) r → fX10_hasTable r x = some (si r 35 x, nI 0)) ∨ ∃ (m : Nat) (w : Rv), m < 2 ∧ x = nI m ∧ DvOK w ∧ DX (g (502 + m)) w ∧ DM (ga (g 1001) 8) (25 * m) w ∧ fX8_rowsAt (g 800) 800 (nI 2) x = some (some (502 + m)) ∧ isRw (502 + m) = true ∧ ∀ r, MP (g 1001) r → fX10_hasTable r x = some (si r 35 (nI m), nI 1) := by
  rcases rows_cases hI (s := 2) (by decide) (by decide) x with ⟨h1, h2⟩ | ⟨m, hm, rfl, h1, h2, h3⟩
  · refine Or.inl ⟨h1, fun r hr => ?_⟩
    unfold fX10_hasTable
    simp (disch := omega) only [h2 _ (hr.tr (MP.si _ _ _)), bd_some, gd_true, inR_nI, nI_clamp, nI_add, pk_mul, pk_sub, leT, leF, ltT, ltF, eqT, eqF, ite_true, ite_false, reduceIte, nz_nI, oc_s, oc_n, pk_div, pk_rem, m1F, L0, L1, L2, L3, L4, L5, L6, L7, L8, L9, L10, L11, L12, L19, L20, L24, L25, L27, L28, L30, L32, L37, L39, L40, L47, L48, L50, L55, L57, L60, L61, L63, L71, L80, L97, L99, L100, L120, L122, L128, L161, L17, L600, L1000000, L1024, L1408, isB0, isB1, subdm, inT, inFl, inFh]
  · obtain ⟨w, ok, hx, hmm⟩ := hI.2.1.2.2.2.2.2.2.2.1 m hm
    have hmm : DM (ga (g 1001) 8) (25 * m) w := by have := hmm; rw [show 25 * (2 * 0 + m) = 25 * m by omega] at this; exact this
    refine Or.inr ⟨m, w, hm, rfl, ok, hx, hmm, h1, h2, fun r hr => ?_⟩
    unfold fX10_hasTable
    simp (disch := omega) only [h3 _ (hr.tr (MP.si _ _ _)), bd_some, gd_true, inR_nI, nI_clamp, nI_add, pk_mul, pk_sub, leT, leF, ltT, ltF, eqT, eqF, ite_true, ite_false, reduceIte, nz_nI, oc_s, oc_n, pk_div, pk_rem, m1F, L0, L1, L2, L3, L4, L5, L6, L7, L8, L9, L10, L11, L12, L19, L20, L24, L25, L27, L28, L30, L32, L37, L39, L40, L47, L48, L50, L55, L57, L60, L61, L63, L71, L80, L97, L99, L100, L120, L122, L128, L161, L17, L600, L1000000, L1024, L1408, isB0, isB1, subdm, inT, inFl, inFh]
theorem in2_T {x : Int32} {n : Nat} (hn : n ≤ 8) (h1 : -2 ≤ x.toInt) (h2 : x.toInt < n) : fX10_in x (-2) (nI n - 1) = some 1 := by
  have e : (nI n - 1 : Int32).toInt = (n : Int) - 1 := pk_sub_toInt (a := n) (b := 1) (by omega) (by omega)
  have e2 : (-2 : Int32).toInt = -2 := by decide
  unfold fX10_in
  rw [if_neg (fun q => by rw [Int32.lt_iff_toInt_lt, e2] at q; omega), if_neg (fun q => by rw [Int32.lt_iff_toInt_lt, e] at q; omega)]
theorem in2_F {x : Int32} {n : Nat} (hn : n ≤ 8) (h : x.toInt < -2 ∨ (n : Int) ≤ x.toInt) : fX10_in x (-2) (nI n - 1) = some 0 := by
  have e : (nI n - 1 : Int32).toInt = (n : Int) - 1 := pk_sub_toInt (a := n) (b := 1) (by omega) (by omega)
  have e2 : (-2 : Int32).toInt = -2 := by decide
  unfold fX10_in
  by_cases c : x < -2
  · rw [if_pos c]
  · rw [if_neg c, if_pos (show nI n - 1 < x by
      rw [Int32.lt_iff_toInt_lt] at c ⊢
      rw [e2] at c
      rw [e]
      omega)]
theorem lf_0 (v : Hv) : lf v 0 = 2 ^ hS v - 1 := andn_zero
/-- the reference: the pieces of all dinners are there, or one is not -/
theorem served41 {r : Rec} {n m : Nat} {v : Hv} {w : Rv} (ok : HvOK v) (hd : Hd r n v) (ht : Td r m w) (dw : DvOK w) (x3 : Int32) : (dnA v w → iter (fun st : Int32 => bX10_served_41 r x3 st) (nI 0) = bX10_served_72 r x3) ∧ (¬ dnA v w → iter (fun st : Int32 => bX10_served_41 r x3 st) (nI 0) = some (r, -nI 1)) := by
  have h8 := dw.1
  have key : ∀ d k, k + d = w.1 → (∀ j, j < k → dnP w j < hP v) → (dnA v w → iter (fun st : Int32 => bX10_served_41 r x3 st) (nI k) = bX10_served_72 r x3) ∧ (¬ dnA v w → iter (fun st : Int32 => bX10_served_41 r x3 st) (nI k) = some (r, -nI 1)) := by
    intro d
    induction d with
    | zero =>
      intro k hk hj
      refine ⟨fun _ => iter_out ?_, fun q => absurd (fun j hj2 => hj j (by omega)) q⟩
      show bX10_served_41 r x3 (nI k) = _
      unfold bX10_served_41
      simp (disch := omega) only [ht.n, bd_some, gd_true, inR_nI, nI_clamp, nI_add, pk_mul, pk_sub, leT, leF, ltT, ltF, eqT, eqF, ite_true, ite_false, reduceIte, nz_nI, oc_s, oc_n, pk_div, pk_rem, m1F, L0, L1, L2, L3, L4, L5, L6, L7, L8, L9, L10, L11, L12, L19, L20, L24, L25, L27, L28, L30, L32, L37, L39, L40, L47, L48, L50, L55, L57, L60, L61, L63, L71, L80, L97, L99, L100, L120, L122, L128, L161, L17, L600, L1000000, L1024, L1408, isB0, isB1, subdm, inT, inFl, inFh]
    | succ d ih =>
      intro k hk hj
      have hkw : k < w.1 := by omega
      have hp8 := (dnP_ok dw hkw).2
      have c0 := ht.P dw hkw
      by_cases c : dnP w k < hP v
      · have e : bX10_served_41 r x3 (nI k) = some (.inl (nI (k + 1))) := by
          unfold bX10_served_41
          simp (disch := omega) only [ht.n, c0, isPiece_nI ok hd, if_pos c, bd_some, gd_true, inR_nI, nI_clamp, nI_add, pk_mul, pk_sub, leT, leF, ltT, ltF, eqT, eqF, ite_true, ite_false, reduceIte, nz_nI, oc_s, oc_n, pk_div, pk_rem, m1F, L0, L1, L2, L3, L4, L5, L6, L7, L8, L9, L10, L11, L12, L19, L20, L24, L25, L27, L28, L30, L32, L37, L39, L40, L47, L48, L50, L55, L57, L60, L61, L63, L71, L80, L97, L99, L100, L120, L122, L128, L161, L17, L600, L1000000, L1024, L1408, isB0, isB1, subdm, inT, inFl, inFh]
        rw [iter_step (s := nI k) (s' := nI (k + 1)) e]
        refine ih (k + 1) (by omega) (fun j hj2 => ?_)
        by_cases e2 : j = k
        · rw [e2]; exact c
        · exact hj j (by omega)
      · refine ⟨fun q => absurd (q k hkw) c, fun _ => iter_end ?_⟩
        show bX10_served_41 r x3 (nI k) = _
        unfold bX10_served_41
        simp (disch := omega) only [ht.n, c0, isPiece_nI ok hd, if_neg c, bd_some, gd_true, inR_nI, nI_clamp, nI_add, pk_mul, pk_sub, leT, leF, ltT, ltF, eqT, eqF, ite_true, ite_false, reduceIte, nz_nI, oc_s, oc_n, pk_div, pk_rem, m1F, L0, L1, L2, L3, L4, L5, L6, L7, L8, L9, L10, L11, L12, L19, L20, L24, L25, L27, L28, L30, L32, L37, L39, L40, L47, L48, L50, L55, L57, L60, L61, L63, L71, L80, L97, L99, L100, L120, L122, L128, L161, L17, L600, L1000000, L1024, L1408, isB0, isB1, subdm, inT, inFl, inFh]
  exact key w.1 0 (by omega) (fun j hj => by omega)
theorem m2_ne {k : Nat} (hk : k < 2 ^ 31) : ¬ nI k = -2 := fun e => by
  have : (nI k).toInt = (-2 : Int32).toInt := by rw [e]
  rw [nI_toInt hk, show (-2 : Int32).toInt = -2 by decide] at this
  omega
/-- the answers, where house and dinners are there -/
theorem served_at {g : Gs} {r : Rec} {n m : Nat} {v : Hv} {w : Rv} (ok : HvOK v) (hn : n < 2) (hm : m < 2) (hx : HX (g (200 + n)) v) (dx : DX (g (502 + m)) w) (dw : DvOK w) (hd : Hd r n v) (ht : Td r m w) (ha : dnA v w) (a3 : Int32) (h3 : a3 = -2 ∨ a3 = -1 ∨ ∃ k, k < w.1 ∧ a3 = nI k) : ∃ (g2 : Gs) (y : Int32) (r2 : Rec), (if a3 = (-2) then (fX6_longestServed g (200 + n) (502 + m)).bind fun z18 => some ((z18.1, z18.2)) else bX9_served_78 g a3 (200 + n) (502 + m)) = some (g2, y) ∧ bX10_served_72 r a3 = some (r2, y) ∧ (∀ o, o ≠ 601 → g2 o = g o) ∧ MP r r2 := by
  have h8 := dw.1
  have hS10 := ok.2.1
  have hp1 := p1 (hS v)
  have hR := rc_ok (v := v) dw
  obtain ⟨r2, f1, f2, f3, f4⟩ := findT ok hd ht dw ha
  have hmp : MP r r2 := MP.of (fun k hk => f2 k (by omega) (by omega))
  have hd2 : Hd r2 n v := hd.keep (f2 28 (by decide) (by decide)) (f2 6 (by decide) (by decide)) (f3 25) (f3 26) (f3 27)
  have ht2 : Td r2 m w := ⟨ht.1, by rw [f3]; exact ht.2.1, by rw [f2 8 (by decide) (by decide)]; exact ht.2.2⟩
  obtain ⟨x, y, x1, x2, x3, y1, y2, y3⟩ := f4 0 0 (Nat.zero_le _) (by omega)
  have x1 : ga r2 36 (Int32.toNatClampNeg 0) = nI x := x1
  have y1 : ga r2 37 (Int32.toNatClampNeg 0) = nI y := y1
  rw [lf_0] at x2 y2
  rcases h3 with h3 | h3
  · obtain ⟨g2, e1, e2⟩ := longX ok hx (show 200 + n ≠ 601 by omega) (show 502 + m ≠ 601 by omega) dw dx ha
    have ey := y2.un (fLg_FV (S := hS v) hR (2 ^ hS v - 1) (by omega))
    refine ⟨g2, nI y, r2, ?_, ?_, e2, hmp⟩
    · rw [if_pos h3, e1, bd_some, ey]
    · unfold bX10_served_72
      rw [f1, bd_some, if_pos h3, y1]
  · obtain ⟨g2, e1, e2, e3, e4⟩ := fewSX ok hx (show 200 + n ≠ 601 by omega) (show 502 + m ≠ 601 by omega) dw dx ha
    have ex := x2.un (fwN_TV hR hS10)
    rw [← ex] at e1
    have hn2 : ¬ a3 = -2 := by
      rcases h3 with h3 | ⟨k, hk, h3⟩
      · rw [h3]; decide
      · rw [h3]; exact m2_ne (by omega)
    have hxc : x = 1000000 ∨ x ≤ 10 := by rw [ex]; exact fwN_c _ _ _ _
    rw [if_neg hn2]
    rcases hxc with hF | hF
    · rw [hF, eW_F] at e1
      rw [hF] at x1
      refine ⟨g2, -nI 1, r2, ?_, ?_, e2, hmp⟩
      · unfold bX9_served_78
        rw [e1, bd_some]
        dsimp only
        rw [if_pos (show -nI 1 = -1 from rfl)]
      · unfold bX10_served_72
        rw [f1, bd_some, if_neg hn2, x1, if_neg (show ¬ nI 1000000 < 1000000 by decide)]
        rfl
    · rw [eW_n hF] at e1
      have hlt : nI x < 1000000 := (nI_ltI (b := 1000000) (by omega) (by decide)).mpr (by omega)
      rcases h3 with h3 | ⟨k, hk, h3⟩
      · refine ⟨g2, nI x, r2, ?_, ?_, e2, hmp⟩
        · unfold bX9_served_78
          rw [e1, bd_some]
          dsimp only
          rw [if_neg (m1_ne (by omega)), if_pos h3]
        · unfold bX10_served_72
          rw [f1, bd_some, if_neg hn2, x1, if_pos hlt, if_pos h3]
      · have hx2 : HX (g2 (200 + n)) v := by rw [e2 _ (by omega)]; exact hx
        have dx2 : DX (g2 (502 + m)) w := by rw [e2 _ (by omega)]; exact dx
        have hxp := due_pos (show 0 < w.1 by omega) x2
        obtain ⟨z, z1, z2⟩ := ahead_both ok hx2 hd2 ht2 dw dx2 ha e3 e4 f4 hk w.1 0 0 x (-nI 1) (by omega) (Nat.zero_le _) (by omega) (by rw [lf_0]; exact x2) hF
        rw [lf_0] at z1
        have h31 : ¬ a3 = -1 := by rw [h3]; exact m1_ne (by omega)
        refine ⟨g2, z, r2, ?_, ?_, e2, hmp⟩
        · unfold bX9_served_78
          rw [e1, bd_some]
          dsimp only
          rw [if_neg (m1_ne (by omega)), if_neg h31, h3]
          unfold fX6_toldAhead
          rw [allSecrets_nI ok hx2, bd_some, show nI x - 1 = nI (x - 1) from pk_sub (b := 1) hxp]
          rw [show iter (fun st : Int32 × Int32 × Int32 => bX6_toldAhead_14 g2 (200 + n) (502 + m) (nI k) st.1 st.2.1 st.2.2) (nI (2 ^ hS v - 1), 0, nI (x - 1)) = some z from z1, bd_some]
        · unfold bX10_served_72
          rw [f1, bd_some, if_neg hn2, x1, if_pos hlt, if_neg h31, h3]
          unfold fX10_toldAhead
          rw [show iter (fun st : Int32 × Int32 × Int32 => bX10_toldAhead_7 r2 (nI k) st.1 st.2.1 st.2.2) (0, 0, -1) = some z from z2, bd_some]
theorem ob_served : Ob_served Inv := by
  intro g a1 a2 a3 hI
  rcases table_cases hI a2 with ⟨k1, k2⟩ | ⟨m, w, hm, rfl, dw, dx, dm, k1, k2, k3⟩
  · have hl := k2 _ (m0 _)
    have mp1 : MP (g 1001) (si (si (g 1001) 0 (nI 0)) 35 a2) := (m0 _).tr (MP.si _ _ _)
    refine ⟨g, -1, si (si (g 1001) 0 (nI 0)) 35 a2, ?_, ?_, rfl, hI.1, hI.keep (XP.rf hI.1) mp1⟩
    · unfold fX9_served
      rcases house_cases hI a1 with ⟨h1, -⟩ | ⟨n, v, hn, rfl, ok, hx, h1, h2, -⟩
      · simp (disch := omega) only [h1, k1, bd_some, gd_true, inR_nI, nI_clamp, nI_add, pk_mul, pk_sub, leT, leF, ltT, ltF, eqT, eqF, ite_true, ite_false, reduceIte, nz_nI, oc_s, oc_n, pk_div, pk_rem, m1F, L0, L1, L2, L3, L4, L5, L6, L7, L8, L9, L10, L11, L12, L19, L20, L24, L25, L27, L28, L30, L32, L37, L39, L40, L47, L48, L50, L55, L57, L60, L61, L63, L71, L80, L97, L99, L100, L120, L122, L128, L161, L17, L600, L1000000, L1024, L1408, isB0, isB1, subdm, inT, inFl, inFh]
      · simp (disch := omega) only [h1, h2, k1, bd_some, gd_true, inR_nI, nI_clamp, nI_add, pk_mul, pk_sub, leT, leF, ltT, ltF, eqT, eqF, ite_true, ite_false, reduceIte, nz_nI, oc_s, oc_n, pk_div, pk_rem, m1F, L0, L1, L2, L3, L4, L5, L6, L7, L8, L9, L10, L11, L12, L19, L20, L24, L25, L27, L28, L30, L32, L37, L39, L40, L47, L48, L50, L55, L57, L60, L61, L63, L71, L80, L97, L99, L100, L120, L122, L128, L161, L17, L600, L1000000, L1024, L1408, isB0, isB1, subdm, inT, inFl, inFh]
    · unfold fX10_served
      simp (disch := omega) only [hl, bd_some, gd_true, inR_nI, nI_clamp, nI_add, pk_mul, pk_sub, leT, leF, ltT, ltF, eqT, eqF, ite_true, ite_false, reduceIte, nz_nI, oc_s, oc_n, pk_div, pk_rem, m1F, L0, L1, L2, L3, L4, L5, L6, L7, L8, L9, L10, L11, L12, L19, L20, L24, L25, L27, L28, L30, L32, L37, L39, L40, L47, L48, L50, L55, L57, L60, L61, L63, L71, L80, L97, L99, L100, L120, L122, L128, L161, L17, L600, L1000000, L1024, L1408, isB0, isB1, subdm, inT, inFl, inFh]
  · have hl := k3 _ (m0 _)
    have h8 := dw.1
    have mp1 : MP (g 1001) (si (si (g 1001) 0 (nI 0)) 35 (nI m)) := (m0 _).tr (MP.si _ _ _)
    rcases house_cases3 hI a1 with ⟨h1, h2⟩ | ⟨n, v, hn, rfl, ok, hx, h1, h2, h3⟩
    · have hh := h2 _ mp1
      refine ⟨g, -1, si (si (g 1001) 0 (nI 0)) 35 (nI m), ?_, ?_, rfl, hI.1, hI.keep (XP.rf hI.1) mp1⟩
      · unfold fX9_served
        simp (disch := omega) only [h1, k1, k2, bd_some, gd_true, inR_nI, nI_clamp, nI_add, pk_mul, pk_sub, leT, leF, ltT, ltF, eqT, eqF, ite_true, ite_false, reduceIte, nz_nI, oc_s, oc_n, pk_div, pk_rem, m1F, L0, L1, L2, L3, L4, L5, L6, L7, L8, L9, L10, L11, L12, L19, L20, L24, L25, L27, L28, L30, L32, L37, L39, L40, L47, L48, L50, L55, L57, L60, L61, L63, L71, L80, L97, L99, L100, L120, L122, L128, L161, L17, L600, L1000000, L1024, L1408, isB0, isB1, subdm, inT, inFl, inFh]
      · unfold fX10_served
        simp (disch := omega) only [hl, hh, bd_some, gd_true, inR_nI, nI_clamp, nI_add, pk_mul, pk_sub, leT, leF, ltT, ltF, eqT, eqF, ite_true, ite_false, reduceIte, nz_nI, oc_s, oc_n, pk_div, pk_rem, m1F, L0, L1, L2, L3, L4, L5, L6, L7, L8, L9, L10, L11, L12, L19, L20, L24, L25, L27, L28, L30, L32, L37, L39, L40, L47, L48, L50, L55, L57, L60, L61, L63, L71, L80, L97, L99, L100, L120, L122, L128, L161, L17, L600, L1000000, L1024, L1408, isB0, isB1, subdm, inT, inFl, inFh]
    · obtain ⟨r', e1, hd, mp2, f1, f2⟩ := h3 _ mp1
      have ht : Td r' m w := ⟨hm, by rw [f2 35 (by decide) (by decide) (by decide)]; rfl, by rw [f1 8 (by decide)]; exact dm⟩
      have mp3 : MP (g 1001) r' := mp1.tr mp2
      obtain ⟨p1, p2⟩ := hasDn ok hx dw dx
      obtain ⟨q1, q2⟩ := served41 ok hd ht dw a3
      have eM : ∀ b : Int32, fX10_in a3 (-2) (nI w.1 - 1) = some b → fX10_served (g 1001) (nI n) (nI m) a3 = (if b = 0 then some (r', -1) else iter (fun st : Int32 => bX10_served_41 r' a3 st) 0) := by
        intro b hb
        unfold fX10_served
        rw [bd_some, show fX10_hasTable (si (g 1001) 0 0) (nI m) = some (si (si (g 1001) 0 (nI 0)) 35 (nI m), nI 1) from hl, bd_some]
        dsimp only
        rw [if_neg (by decide), e1, bd_some]
        dsimp only
        rw [if_neg (by decide), ht.n, bd_some, hb, bd_some]
      have eX : fX9_served g (nI n) (nI m) a3 = (fX2_hasPieces g (200 + n) (502 + m) 2).bind fun z14 => if z14 = 0 then some ((g, (-1))) else if a3 = (-2) then (fX6_longestServed g (200 + n) (502 + m)).bind fun z18 => some ((z18.1, z18.2)) else if a3 = (-1) then bX9_served_78 g a3 (200 + n) (502 + m) else (fX5_hasRow (g (502 + m)) a3).bind fun z15 => if z15 = 0 then some ((g, (-1))) else bX9_served_78 g a3 (200 + n) (502 + m) := by
        unfold fX9_served
        rw [h1, bd_some, oc_s, h2, gd_true, show fX8_rowsAt (g 800) 800 2 (nI m) = some (some (502 + m)) from k1, bd_some, oc_s, k2, gd_true]
      have no : fX9_served g (nI n) (nI m) a3 = some (g, -1) → fX10_served (g 1001) (nI n) (nI m) a3 = some (r', -1) → ∃ (g1 : Gs) (v_1 : Int32) (r : Rec), fX9_served g (nI n) (nI m) a3 = some (g1, v_1) ∧ fX10_served (g1 1001) (nI n) (nI m) a3 = some (r, v_1) ∧ gr (g1 901) = gr (g 901) ∧ isHm (gr (g1 1) 0) = true ∧ Inv (ug g1 1001 r) := fun c1 c2 => ⟨g, -1, r', c1, c2, rfl, hI.1, hI.keep (XP.rf hI.1) mp3⟩
      have cls : (fX10_in a3 (-2) (nI w.1 - 1) = some 0 ∧ ¬ a3 = -2 ∧ ¬ a3 = -1 ∧ fX5_hasRow (g (502 + m)) a3 = some 0) ∨ (fX10_in a3 (-2) (nI w.1 - 1) = some 1 ∧ (a3 = -2 ∨ a3 = -1 ∨ ∃ k, k < w.1 ∧ a3 = nI k)) := by
        by_cases c2 : a3 = -2
        · refine Or.inr ⟨in2_T h8 ?_ ?_, Or.inl c2⟩
          · rw [c2]; decide
          · rw [c2, show (-2 : Int32).toInt = -2 by decide]; omega
        · by_cases c1 : a3 = -1
          · refine Or.inr ⟨in2_T h8 ?_ ?_, Or.inr (Or.inl c1)⟩
            · rw [c1]; decide
            · rw [c1, show (-1 : Int32).toInt = -1 by decide]; omega
          · rcases i32_cases a3 with k | ⟨k, hk, rfl⟩
            · refine Or.inl ⟨in2_F h8 (Or.inl ?_), c2, c1, hasRow_neg k⟩
              rw [Int32.lt_iff_toInt_lt, show (0 : Int32).toInt = 0 by decide] at k
              have e1 : a3.toInt ≠ -1 := fun z => c1 (Int32.toInt_inj.mp (by rw [z]; decide))
              have e2 : a3.toInt ≠ -2 := fun z => c2 (Int32.toInt_inj.mp (by rw [z]; decide))
              omega
            · have hr := hasRow_nI (h := g (502 + m)) dx.2.1 (by omega) hk
              by_cases c3 : k < w.1
              · refine Or.inr ⟨in2_T h8 (by rw [nI_toInt hk]; omega) (by rw [nI_toInt hk]; omega), Or.inr (Or.inr ⟨k, c3, rfl⟩)⟩
              · rw [if_neg c3] at hr
                exact Or.inl ⟨in2_F h8 (Or.inr (by rw [nI_toInt hk]; omega)), c2, c1, hr⟩
      by_cases ha : dnA v w
      · have p1 : fX2_hasPieces g (200 + n) (502 + m) 2 = some 1 := p1 ha
        rcases cls with ⟨c1, c2, c3, c4⟩ | ⟨c1, c2⟩
        · refine no ?_ ?_
          · rw [eX, p1, bd_some, if_neg (by decide), if_neg c2, if_neg c3, c4, bd_some, if_pos rfl]
          · rw [eM 0 c1, if_pos rfl]
        · obtain ⟨g2, y, r2, d1, d2, d3, d4⟩ := served_at ok hn hm hx dx dw hd ht ha a3 c2
          refine ⟨g2, y, r2, ?_, ?_, by rw [d3 901 (by decide)], by rw [d3 1 (by decide)]; exact hI.1, hI.keep (XP.of hI.1 d3 (Or.inr (Or.inl rfl))) (mp3.tr d4)⟩
          · rw [eX, p1, bd_some, if_neg (by decide), ← d1]
            by_cases e2 : a3 = -2
            · rw [if_pos e2, if_pos e2]
            · rw [if_neg e2, if_neg e2]
              by_cases e3 : a3 = -1
              · rw [if_pos e3]
              · rw [if_neg e3]
                rcases c2 with z | z | ⟨k, hk, z⟩
                · exact absurd z e2
                · exact absurd z e3
                · have hr := hasRow_nI (h := g (502 + m)) (k := k) dx.2.1 (by omega) (by omega)
                  rw [if_pos hk] at hr
                  rw [z, hr, bd_some, if_neg (by decide)]
          · rw [d3 1001 (by decide), eM 1 c1, if_neg (by decide)]
            exact (q1 ha).trans d2
      · have p2 : fX2_hasPieces g (200 + n) (502 + m) 2 = some 0 := p2 ha
        refine no ?_ ?_
        · rw [eX, p2, bd_some, if_pos rfl]
        · rcases cls with ⟨c1, -⟩ | ⟨c1, -⟩
          · rw [eM 0 c1, if_pos rfl]
          · rw [eM 1 c1, if_neg (by decide)]
            exact q2 ha
