/-! unlike -/
theorem isSecret_T {r : Rec} {S k : Nat} (e : gi r 27 = nI S) (hS : S ≤ 10) (h : k < S) : fX10_isSecret r (nI k) = some (nI 1) := by
  unfold fX10_isSecret
  simp (disch := omega) only [e, bd_some, gd_true, inR_nI, nI_clamp, nI_add, pk_mul, pk_sub, leT, leF, ltT, ltF, eqT, eqF, ite_true, ite_false, reduceIte, nz_nI, oc_s, oc_n, pk_div, pk_rem, m1F, L0, L1, L2, L3, L4, L5, L6, L7, L8, L9, L10, L11, L12, L19, L20, L24, L25, L27, L28, L30, L32, L37, L39, L40, L47, L48, L50, L55, L57, L60, L61, L63, L71, L80, L97, L99, L100, L120, L122, L128, L161, L17, L600, L1000000, L1024, L1408, isB0, isB1, subdm, inT, inFl, inFh]
theorem isSecret_F {r : Rec} {S k : Nat} (e : gi r 27 = nI S) (hS : S ≤ 10) (h : S ≤ k) (hk : k < 2 ^ 31) : fX10_isSecret r (nI k) = some (nI 0) := by
  unfold fX10_isSecret
  rw [e, in_pred hk (by omega), if_neg (by omega)]
  rfl
theorem isPiece_T {r : Rec} {S k : Nat} (e : gi r 26 = nI S) (hS : S ≤ 8) (h : k < S) : fX10_isPiece r (nI k) = some (nI 1) := by
  unfold fX10_isPiece
  simp (disch := omega) only [e, bd_some, gd_true, inR_nI, nI_clamp, nI_add, pk_mul, pk_sub, leT, leF, ltT, ltF, eqT, eqF, ite_true, ite_false, reduceIte, nz_nI, oc_s, oc_n, pk_div, pk_rem, m1F, L0, L1, L2, L3, L4, L5, L6, L7, L8, L9, L10, L11, L12, L19, L20, L24, L25, L27, L28, L30, L32, L37, L39, L40, L47, L48, L50, L55, L57, L60, L61, L63, L71, L80, L97, L99, L100, L120, L122, L128, L161, L17, L600, L1000000, L1024, L1408, isB0, isB1, subdm, inT, inFl, inFh]
theorem isPiece_F {r : Rec} {S k : Nat} (e : gi r 26 = nI S) (hS : S ≤ 8) (h : S ≤ k) (hk : k < 2 ^ 31) : fX10_isPiece r (nI k) = some (nI 0) := by
  unfold fX10_isPiece
  rw [e, in_pred hk (by omega), if_neg (by omega)]
  rfl
def ulT (v w : Hv) (s p : Nat) : Nat := if wv v s p = wv w s p then 0 else 1
theorem ul_in {g : Gs} {n m : Nat} {v w : Hv} (ok : HvOK v) (hx : HX (g n) v) (ok2 : HvOK w) (hx2 : HX (g m) w) {s a P S : Nat} (hs : s < hS v) (hs2 : s < hS w) (hP1 : P ≤ hP v) (hP2 : P ≤ hP w) : iter (fun st : Int32 × Int32 => bX9_unlike_74 g n m (nI P) (nI S) st.1 (nI s) st.2) (nI a, nI 0) = some (.inl (nI (a + sm (ulT v w s) P), nI (s + 1))) := by
  have hP8 := ok.1
  refine loopO (step := fun st : Int32 × Int32 => bX9_unlike_74 g n m (nI P) (nI S) st.1 (nI s) st.2) (fun i => (nI (a + sm (ulT v w s) i), nI i)) P (fun i hi => ?_) ?_
  · show bX9_unlike_74 g n m (nI P) (nI S) (nI (a + sm (ulT v w s) i)) (nI s) (nI i) = some (.inl (nI (a + (sm (ulT v w s) i + ulT v w s i)), nI (i + 1)))
    have h1 := wv_le ok hs (p := i)
    have h2 := wv_le ok2 hs2 (p := i)
    unfold bX9_unlike_74 bX9_unlike_108
    by_cases c : wv v s i = wv w s i
    · have e : ulT v w s i = 0 := by unfold ulT; rw [if_pos c]
      simp (disch := omega) only [worthTo_nI ok hx, worthTo_nI ok2 hx2, e, Nat.add_zero, bd_some, gd_true, inR_nI, nI_clamp, nI_add, pk_mul, pk_sub, leT, leF, ltT, ltF, eqT, eqF, ite_true, ite_false, reduceIte, nz_nI, oc_s, oc_n, pk_div, pk_rem, m1F, L0, L1, L2, L3, L4, L5, L6, L7, L8, L9, L10, L11, L12, L19, L20, L24, L25, L27, L28, L30, L32, L37, L39, L40, L47, L48, L50, L55, L57, L60, L61, L63, L71, L80, L97, L99, L100, L120, L122, L128, L161, L17, L600, L1000000, L1024, L1408, isB0, isB1, subdm, inT, inFl, inFh]
    · have e : ulT v w s i = 1 := by unfold ulT; rw [if_neg c]
      simp (disch := omega) only [worthTo_nI ok hx, worthTo_nI ok2 hx2, e, Nat.add_assoc, bd_some, gd_true, inR_nI, nI_clamp, nI_add, pk_mul, pk_sub, leT, leF, ltT, ltF, eqT, eqF, ite_true, ite_false, reduceIte, nz_nI, oc_s, oc_n, pk_div, pk_rem, m1F, L0, L1, L2, L3, L4, L5, L6, L7, L8, L9, L10, L11, L12, L19, L20, L24, L25, L27, L28, L30, L32, L37, L39, L40, L47, L48, L50, L55, L57, L60, L61, L63, L71, L80, L97, L99, L100, L120, L122, L128, L161, L17, L600, L1000000, L1024, L1408, isB0, isB1, subdm, inT, inFl, inFh]
  · show bX9_unlike_74 g n m (nI P) (nI S) (nI (a + sm (ulT v w s) P)) (nI s) (nI P) = _
    unfold bX9_unlike_74 bX9_unlike_117
    simp (disch := omega) only [bd_some, gd_true, inR_nI, nI_clamp, nI_add, pk_mul, pk_sub, leT, leF, ltT, ltF, eqT, eqF, ite_true, ite_false, reduceIte, nz_nI, oc_s, oc_n, pk_div, pk_rem, m1F, L0, L1, L2, L3, L4, L5, L6, L7, L8, L9, L10, L11, L12, L19, L20, L24, L25, L27, L28, L30, L32, L37, L39, L40, L47, L48, L50, L55, L57, L60, L61, L63, L71, L80, L97, L99, L100, L120, L122, L128, L161, L17, L600, L1000000, L1024, L1408, isB0, isB1, subdm, inT, inFl, inFh]
    all_goals rfl
theorem ulX {g : Gs} {n m : Nat} {v w : Hv} (ok : HvOK v) (hx : HX (g n) v) (ok2 : HvOK w) (hx2 : HX (g m) w) {P S : Nat} (hP1 : P ≤ hP v) (hP2 : P ≤ hP w) (hS1 : S ≤ hS v) (hS2 : S ≤ hS w) : iter (fun st : Int32 × Int32 => bX9_unlike_64 g n m (nI P) (nI S) st.1 st.2) (nI 0, nI 0) = some (nI (sm (fun s => sm (ulT v w s) P) S)) := by
  have hS10 := ok.2.1
  refine loopO (step := fun st : Int32 × Int32 => bX9_unlike_64 g n m (nI P) (nI S) st.1 st.2) (fun i => (nI (sm (fun s => sm (ulT v w s) P) i), nI i)) S (fun i hi => ?_) ?_
  · show bX9_unlike_64 g n m (nI P) (nI S) (nI (sm (fun s => sm (ulT v w s) P) i)) (nI i) = _
    unfold bX9_unlike_64
    simp (disch := omega) only [ul_in ok hx ok2 hx2, bd_some, gd_true, inR_nI, nI_clamp, nI_add, pk_mul, pk_sub, leT, leF, ltT, ltF, eqT, eqF, ite_true, ite_false, reduceIte, nz_nI, oc_s, oc_n, pk_div, pk_rem, m1F, L0, L1, L2, L3, L4, L5, L6, L7, L8, L9, L10, L11, L12, L19, L20, L24, L25, L27, L28, L30, L32, L37, L39, L40, L47, L48, L50, L55, L57, L60, L61, L63, L71, L80, L97, L99, L100, L120, L122, L128, L161, L17, L600, L1000000, L1024, L1408, isB0, isB1, subdm, inT, inFl, inFh]
    all_goals rfl
  · show bX9_unlike_64 g n m (nI P) (nI S) _ (nI S) = _
    unfold bX9_unlike_64
    simp (disch := omega) only [bd_some, gd_true, inR_nI, nI_clamp, nI_add, pk_mul, pk_sub, leT, leF, ltT, ltF, eqT, eqF, ite_true, ite_false, reduceIte, nz_nI, oc_s, oc_n, pk_div, pk_rem, m1F, L0, L1, L2, L3, L4, L5, L6, L7, L8, L9, L10, L11, L12, L19, L20, L24, L25, L27, L28, L30, L32, L37, L39, L40, L47, L48, L50, L55, L57, L60, L61, L63, L71, L80, L97, L99, L100, L120, L122, L128, L161, L17, L600, L1000000, L1024, L1408, isB0, isB1, subdm, inT, inFl, inFh]
    all_goals rfl
/-- the first house's worths, kept -/
def fW (v : Hv) (k : Nat) : Int32 := if k / 8 < hS v ∧ k % 8 < hP v then nI (wv v (k / 8) (k % 8)) else -nI 1
theorem Hd.keep {r r' : Rec} {n : Nat} {v : Hv} (hd : Hd r n v) (h1 : ga r' 28 = ga r 28) (h2 : ga r' 6 = ga r 6) (h3 : gi r' 25 = gi r 25) (h4 : gi r' 26 = gi r 26) (h5 : gi r' 27 = gi r 27) : Hd r' n v := by
  unfold Hd
  rw [h1, h2, h3, h4, h5]
  exact hd
theorem ulM1 {r : Rec} {n : Nat} {v : Hv} (ok : HvOK v) (hd : Hd r n v) (a2 : Int32) : ∃ r', MP r r' ∧ (∀ k, k < 80 → ga r' 46 k = fW v k) ∧ iter (fun st : Int32 × Rec => bX10_unlike_26 st.2 a2 st.1) (nI 0, r) = bX10_unlike_82 r' a2 := by
  have hP8 := ok.1
  have hS10 := ok.2.1
  let st : Nat → Int32 × Rec := fun i => (nI i, fo (fun k r => sa r 46 (upd (ga r 46) k (fW v k))) r i)
  have hst : ∀ i, (∀ k, k ≠ 46 → ga (st i).2 k = ga r k) ∧ (∀ k, gi (st i).2 k = gi r k) ∧ ∀ k, k < i → ga (st i).2 46 k = fW v k := by
    intro i
    induction i with
    | zero => exact ⟨fun _ _ => rfl, fun _ => rfl, fun k hk => by omega⟩
    | succ i ih =>
      refine ⟨fun k hk => ?_, fun k => ih.2.1 k, fun k hk => ?_⟩
      · show ga (sa (st i).2 46 _) k = _
        rw [ga_sa', if_neg hk]; exact ih.1 k hk
      · show upd (ga (st i).2 46) i (fW v i) k = _
        rw [upd_if]
        by_cases e : k = i
        · rw [if_pos e, e]
        · rw [if_neg e]; exact ih.2.2 k (by omega)
  refine ⟨(st 80).2, ⟨(hst 80).1 1 (by decide), (hst 80).1 2 (by decide), (hst 80).1 3 (by decide), (hst 80).1 4 (by decide), (hst 80).1 5 (by decide), (hst 80).1 6 (by decide), (hst 80).1 7 (by decide), (hst 80).1 8 (by decide), (hst 80).1 9 (by decide), (hst 80).1 48 (by decide)⟩, (hst 80).2.2, ?_⟩
  refine loopO (step := fun st : Int32 × Rec => bX10_unlike_26 st.2 a2 st.1) st 80 (fun i hi => ?_) ?_
  · show bX10_unlike_26 (st i).2 a2 (nI i) = some (.inl (nI (i + 1), sa (st i).2 46 (upd (ga (st i).2 46) i (fW v i))))
    have hd2 : Hd (st i).2 n v := hd.keep ((hst i).1 28 (by decide)) ((hst i).1 6 (by decide)) ((hst i).2.1 25) ((hst i).2.1 26) ((hst i).2.1 27)
    generalize (st i).2 = q at hd2 ⊢
    unfold bX10_unlike_26 bX10_unlike_74 bX10_unlike_75
    by_cases c : i / 8 < hS v
    · by_cases c2 : i % 8 < hP v
      · have e : fW v i = nI (wv v (i / 8) (i % 8)) := by unfold fW; rw [if_pos ⟨c, c2⟩]
        simp (disch := omega) only [isSecret_T hd2.S hS10, isPiece_T hd2.P hP8, worthNow_nI ok hd2, e, bd_some, gd_true, inR_nI, nI_clamp, nI_add, pk_mul, pk_sub, leT, leF, ltT, ltF, eqT, eqF, ite_true, ite_false, reduceIte, nz_nI, oc_s, oc_n, pk_div, pk_rem, m1F, L0, L1, L2, L3, L4, L5, L6, L7, L8, L9, L10, L11, L12, L19, L20, L24, L25, L27, L28, L30, L32, L37, L39, L40, L47, L48, L50, L55, L57, L60, L61, L63, L71, L80, L97, L99, L100, L120, L122, L128, L161, L17, L600, L1000000, L1024, L1408, isB0, isB1, subdm, inT, inFl, inFh]
      · have e : fW v i = -nI 1 := by unfold fW; rw [if_neg (fun h => c2 h.2)]
        simp (disch := omega) only [isSecret_T hd2.S hS10, isPiece_F hd2.P hP8, e, bX10_unlike_75, bd_some, gd_true, inR_nI, nI_clamp, nI_add, pk_mul, pk_sub, leT, leF, ltT, ltF, eqT, eqF, ite_true, ite_false, reduceIte, nz_nI, oc_s, oc_n, pk_div, pk_rem, m1F, L0, L1, L2, L3, L4, L5, L6, L7, L8, L9, L10, L11, L12, L19, L20, L24, L25, L27, L28, L30, L32, L37, L39, L40, L47, L48, L50, L55, L57, L60, L61, L63, L71, L80, L97, L99, L100, L120, L122, L128, L161, L17, L600, L1000000, L1024, L1408, isB0, isB1, subdm, inT, inFl, inFh]
    · have e : fW v i = -nI 1 := by unfold fW; rw [if_neg (fun h => c h.1)]
      simp (disch := omega) only [isSecret_F hd2.S hS10, e, bX10_unlike_75, bd_some, gd_true, inR_nI, nI_clamp, nI_add, pk_mul, pk_sub, leT, leF, ltT, ltF, eqT, eqF, ite_true, ite_false, reduceIte, nz_nI, oc_s, oc_n, pk_div, pk_rem, m1F, L0, L1, L2, L3, L4, L5, L6, L7, L8, L9, L10, L11, L12, L19, L20, L24, L25, L27, L28, L30, L32, L37, L39, L40, L47, L48, L50, L55, L57, L60, L61, L63, L71, L80, L97, L99, L100, L120, L122, L128, L161, L17, L600, L1000000, L1024, L1408, isB0, isB1, subdm, inT, inFl, inFh]
  · show bX10_unlike_26 (st 80).2 a2 (nI 80) = _
    unfold bX10_unlike_26
    simp (disch := omega) only [bd_some, gd_true, inR_nI, nI_clamp, nI_add, pk_mul, pk_sub, leT, leF, ltT, ltF, eqT, eqF, ite_true, ite_false, reduceIte, nz_nI, oc_s, oc_n, pk_div, pk_rem, m1F, L0, L1, L2, L3, L4, L5, L6, L7, L8, L9, L10, L11, L12, L19, L20, L24, L25, L27, L28, L30, L32, L37, L39, L40, L47, L48, L50, L55, L57, L60, L61, L63, L71, L80, L97, L99, L100, L120, L122, L128, L161, L17, L600, L1000000, L1024, L1408, isB0, isB1, subdm, inT, inFl, inFh]
def ulK (v w : Hv) (s p : Nat) : Nat := if (s < hS v ∧ p < hP v) ∧ s < hS w ∧ p < hP w then ulT v w s p else 0
theorem ulM2 {r : Rec} {n : Nat} {v w : Hv} (ok : HvOK v) (ok2 : HvOK w) (hd : Hd r n w) (h46 : ∀ k, k < 80 → ga r 46 k = fW v k) : iter (fun st : Int32 × Int32 => bX10_unlike_93 r st.1 st.2) (nI 0, nI 0) = some (r, nI (sm (fun k => ulK v w (k / 8) (k % 8)) 80)) := by
  have hP8 := ok2.1
  have hS10 := ok2.2.1
  refine loopO (step := fun st : Int32 × Int32 => bX10_unlike_93 r st.1 st.2) (fun i => (nI (sm (fun k => ulK v w (k / 8) (k % 8)) i), nI i)) 80 (fun i hi => ?_) ?_
  · show bX10_unlike_93 r (nI (sm (fun k => ulK v w (k / 8) (k % 8)) i)) (nI i) = some (.inl (nI (sm (fun k => ulK v w (k / 8) (k % 8)) i + ulK v w (i / 8) (i % 8)), nI (i + 1)))
    generalize sm (fun k => ulK v w (k / 8) (k % 8)) i = a
    unfold bX10_unlike_93 bX10_unlike_139 bX10_unlike_140 bX10_unlike_176 bX10_unlike_177
    have e46 := h46 i hi
    by_cases c : i / 8 < hS v ∧ i % 8 < hP v
    · have e1 : fW v i = nI (wv v (i / 8) (i % 8)) := by unfold fW; rw [if_pos c]
      have k1 := wv_le ok (s := i / 8) (p := i % 8) c.1
      by_cases c2 : i / 8 < hS w
      · by_cases c3 : i % 8 < hP w
        · have k2 := wv_le ok2 (s := i / 8) (p := i % 8) c2
          by_cases c4 : wv v (i / 8) (i % 8) = wv w (i / 8) (i % 8)
          · have e : ulK v w (i / 8) (i % 8) = 0 := by unfold ulK ulT; rw [if_pos ⟨c, c2, c3⟩, if_pos c4]
            simp (disch := omega) only [e46, e1, isSecret_T hd.S hS10, isPiece_T hd.P hP8, worthNow_nI ok2 hd, e, bd_some, gd_true, inR_nI, nI_clamp, nI_add, pk_mul, pk_sub, leT, leF, ltT, ltF, eqT, eqF, ite_true, ite_false, reduceIte, nz_nI, oc_s, oc_n, pk_div, pk_rem, m1F, L0, L1, L2, L3, L4, L5, L6, L7, L8, L9, L10, L11, L12, L19, L20, L24, L25, L27, L28, L30, L32, L37, L39, L40, L47, L48, L50, L55, L57, L60, L61, L63, L71, L80, L97, L99, L100, L120, L122, L128, L161, L17, L600, L1000000, L1024, L1408, isB0, isB1, subdm, inT, inFl, inFh]
          · have e : ulK v w (i / 8) (i % 8) = 1 := by unfold ulK ulT; rw [if_pos ⟨c, c2, c3⟩, if_neg c4]
            simp (disch := omega) only [e46, e1, isSecret_T hd.S hS10, isPiece_T hd.P hP8, worthNow_nI ok2 hd, e, bd_some, gd_true, inR_nI, nI_clamp, nI_add, pk_mul, pk_sub, leT, leF, ltT, ltF, eqT, eqF, ite_true, ite_false, reduceIte, nz_nI, oc_s, oc_n, pk_div, pk_rem, m1F, L0, L1, L2, L3, L4, L5, L6, L7, L8, L9, L10, L11, L12, L19, L20, L24, L25, L27, L28, L30, L32, L37, L39, L40, L47, L48, L50, L55, L57, L60, L61, L63, L71, L80, L97, L99, L100, L120, L122, L128, L161, L17, L600, L1000000, L1024, L1408, isB0, isB1, subdm, inT, inFl, inFh]
        · have e : ulK v w (i / 8) (i % 8) = 0 := by unfold ulK; rw [if_neg (fun h => c3 h.2.2)]
          simp (disch := omega) only [e46, e1, isSecret_T hd.S hS10, isPiece_F hd.P hP8, e, bd_some, gd_true, inR_nI, nI_clamp, nI_add, pk_mul, pk_sub, leT, leF, ltT, ltF, eqT, eqF, ite_true, ite_false, reduceIte, nz_nI, oc_s, oc_n, pk_div, pk_rem, m1F, L0, L1, L2, L3, L4, L5, L6, L7, L8, L9, L10, L11, L12, L19, L20, L24, L25, L27, L28, L30, L32, L37, L39, L40, L47, L48, L50, L55, L57, L60, L61, L63, L71, L80, L97, L99, L100, L120, L122, L128, L161, L17, L600, L1000000, L1024, L1408, isB0, isB1, subdm, inT, inFl, inFh]
      · have e : ulK v w (i / 8) (i % 8) = 0 := by unfold ulK; rw [if_neg (fun h => c2 h.2.1)]
        simp (disch := omega) only [e46, e1, isSecret_F hd.S hS10, e, bd_some, gd_true, inR_nI, nI_clamp, nI_add, pk_mul, pk_sub, leT, leF, ltT, ltF, eqT, eqF, ite_true, ite_false, reduceIte, nz_nI, oc_s, oc_n, pk_div, pk_rem, m1F, L0, L1, L2, L3, L4, L5, L6, L7, L8, L9, L10, L11, L12, L19, L20, L24, L25, L27, L28, L30, L32, L37, L39, L40, L47, L48, L50, L55, L57, L60, L61, L63, L71, L80, L97, L99, L100, L120, L122, L128, L161, L17, L600, L1000000, L1024, L1408, isB0, isB1, subdm, inT, inFl, inFh]
    · have e1 : fW v i = -nI 1 := by unfold fW; rw [if_neg c]
      have e : ulK v w (i / 8) (i % 8) = 0 := by unfold ulK; rw [if_neg (fun h => c h.1)]
      simp (disch := omega) only [e46, e1, e, bd_some, gd_true, inR_nI, nI_clamp, nI_add, pk_mul, pk_sub, leT, leF, ltT, ltF, eqT, eqF, ite_true, ite_false, reduceIte, nz_nI, oc_s, oc_n, pk_div, pk_rem, m1F, L0, L1, L2, L3, L4, L5, L6, L7, L8, L9, L10, L11, L12, L19, L20, L24, L25, L27, L28, L30, L32, L37, L39, L40, L47, L48, L50, L55, L57, L60, L61, L63, L71, L80, L97, L99, L100, L120, L122, L128, L161, L17, L600, L1000000, L1024, L1408, isB0, isB1, subdm, inT, inFl, inFh]
  · show bX10_unlike_93 r _ (nI 80) = _
    unfold bX10_unlike_93
    simp (disch := omega) only [bd_some, gd_true, inR_nI, nI_clamp, nI_add, pk_mul, pk_sub, leT, leF, ltT, ltF, eqT, eqF, ite_true, ite_false, reduceIte, nz_nI, oc_s, oc_n, pk_div, pk_rem, m1F, L0, L1, L2, L3, L4, L5, L6, L7, L8, L9, L10, L11, L12, L19, L20, L24, L25, L27, L28, L30, L32, L37, L39, L40, L47, L48, L50, L55, L57, L60, L61, L63, L71, L80, L97, L99, L100, L120, L122, L128, L161, L17, L600, L1000000, L1024, L1408, isB0, isB1, subdm, inT, inFl, inFh]
    all_goals rfl
theorem ul_eq {v w : Hv} (ok : HvOK v) : sm (fun k => ulK v w (k / 8) (k % 8)) 80 = sm (fun s => sm (ulT v w s) (min (hP v) (hP w))) (min (hS v) (hS w)) := by
  have hP8 := ok.1
  have hS10 := ok.2.1
  rw [show 80 = 8 * 10 from rfl, sm_flat]
  have h1 : ∀ s, s < min (hS v) (hS w) → sm (ulK v w s) 8 = sm (ulT v w s) (min (hP v) (hP w)) := by
    intro s hs
    rw [sm_tail (n := min (hP v) (hP w)) (by omega) (fun p hp1 hp2 => by unfold ulK; rw [if_neg (by omega)])]
    exact sm_congr (fun p hp => by unfold ulK; rw [if_pos (by omega)])
  rw [sm_tail (n := min (hS v) (hS w)) (by omega) (fun s hs1 hs2 => by
    rw [show sm (ulK v w s) 8 = sm (fun _ => 0) 8 from sm_congr (fun p hp => by unfold ulK; rw [if_neg (by omega)]), sm_zero])]
  exact sm_congr h1
theorem is_cases {g : Gs} (hI : Inv g) (x : Int32) : (fX8_houseAt (g 800) 800 x = some none ∧ ∀ r, MP (g 1001) r → fX10_is r (nI 0) x = some (nI 0)) ∨ ∃ n : Nat, n < 2 ∧ x = nI n ∧ fX8_houseAt (g 800) 800 x = some (some (200 + n)) ∧ ∀ r, MP (g 1001) r → fX10_is r (nI 0) x = some (nI 1) := by
  have hb := hI.2.1
  obtain ⟨c, hc2, c1, c2⟩ := hb.2.2.2.2.1 0 (by decide)
  have c2 : ga (g 1001) 5 0 = nI c := c2
  have hr : ∀ r, MP (g 1001) r → ga r 5 0 = nI c := fun r h => by rw [h.2.2.2.2.1]; exact c2
  rcases i32_cases x with h | ⟨n, hn, rfl⟩
  · exact Or.inl ⟨houseAt_neg h, fun r _ => is_neg (by decide) h⟩
  · have e := houseAt_nI (T := g 800) c1 hn hc2
    by_cases hnc : n < c
    · rw [if_pos hnc] at e
      refine Or.inr ⟨n, by omega, rfl, e, fun r h => ?_⟩
      have e2 := is_nI (s := 0) (by decide) (hr r h) hn hc2
      rw [if_pos hnc] at e2
      exact e2
    · rw [if_neg hnc] at e
      refine Or.inl ⟨e, fun r h => ?_⟩
      have e2 := is_nI (s := 0) (by decide) (hr r h) hn hc2
      rw [if_neg hnc] at e2
      exact e2
theorem ob_unlike : Ob_unlike Inv := by
  intro g a1 a2 hI
  rcases is_cases hI a2 with ⟨i1, i2⟩ | ⟨m, hm, rfl, i1, i2⟩
  · have i2 := i2 _ (m0 _)
    refine ⟨-1, _, ?_, ?_, hI.keep (XP.rf hI.1) (m0 _)⟩
    · unfold fX9_unlike
      rcases house_cases hI a1 with ⟨h1, h2⟩ | ⟨n, v, hn, rfl, ok, hx, h1, h2, h3⟩
      · simp (disch := omega) only [h1, i1, bd_some, gd_true, inR_nI, nI_clamp, nI_add, pk_mul, pk_sub, leT, leF, ltT, ltF, eqT, eqF, ite_true, ite_false, reduceIte, nz_nI, oc_s, oc_n, pk_div, pk_rem, m1F, L0, L1, L2, L3, L4, L5, L6, L7, L8, L9, L10, L11, L12, L19, L20, L24, L25, L27, L28, L30, L32, L37, L39, L40, L47, L48, L50, L55, L57, L60, L61, L63, L71, L80, L97, L99, L100, L120, L122, L128, L161, L17, L600, L1000000, L1024, L1408, isB0, isB1, subdm, inT, inFl, inFh]
      · simp (disch := omega) only [h1, h2, i1, bd_some, gd_true, inR_nI, nI_clamp, nI_add, pk_mul, pk_sub, leT, leF, ltT, ltF, eqT, eqF, ite_true, ite_false, reduceIte, nz_nI, oc_s, oc_n, pk_div, pk_rem, m1F, L0, L1, L2, L3, L4, L5, L6, L7, L8, L9, L10, L11, L12, L19, L20, L24, L25, L27, L28, L30, L32, L37, L39, L40, L47, L48, L50, L55, L57, L60, L61, L63, L71, L80, L97, L99, L100, L120, L122, L128, L161, L17, L600, L1000000, L1024, L1408, isB0, isB1, subdm, inT, inFl, inFh]
    · unfold fX10_unlike; simp (disch := omega) only [i2, bd_some, gd_true, inR_nI, nI_clamp, nI_add, pk_mul, pk_sub, leT, leF, ltT, ltF, eqT, eqF, ite_true, ite_false, reduceIte, nz_nI, oc_s, oc_n, pk_div, pk_rem, m1F, L0, L1, L2, L3, L4, L5, L6, L7, L8, L9, L10, L11, L12, L19, L20, L24, L25, L27, L28, L30, L32, L37, L39, L40, L47, L48, L50, L55, L57, L60, L61, L63, L71, L80, L97, L99, L100, L120, L122, L128, L161, L17, L600, L1000000, L1024, L1408, isB0, isB1, subdm, inT, inFl, inFh]
  · have i2 := i2 _ (m0 _)
    rcases house_cases hI (nI m) with ⟨k1, k2⟩ | ⟨m', w, hm', em, ok2, hx2, k1, k2, k3⟩
    · rw [i1] at k1; cases k1
    · obtain rfl : m = m' := (nI_eq (by omega) (by omega)).mp em
      rcases house_cases hI a1 with ⟨h1, h2⟩ | ⟨n, v, hn, rfl, ok, hx, h1, h2, h3⟩
      · have h2 := h2 _ (m0 _)
        refine ⟨-1, _, ?_, ?_, hI.keep (XP.rf hI.1) (m0 _)⟩
        · unfold fX9_unlike
          simp (disch := omega) only [h1, i1, k2, bd_some, gd_true, inR_nI, nI_clamp, nI_add, pk_mul, pk_sub, leT, leF, ltT, ltF, eqT, eqF, ite_true, ite_false, reduceIte, nz_nI, oc_s, oc_n, pk_div, pk_rem, m1F, L0, L1, L2, L3, L4, L5, L6, L7, L8, L9, L10, L11, L12, L19, L20, L24, L25, L27, L28, L30, L32, L37, L39, L40, L47, L48, L50, L55, L57, L60, L61, L63, L71, L80, L97, L99, L100, L120, L122, L128, L161, L17, L600, L1000000, L1024, L1408, isB0, isB1, subdm, inT, inFl, inFh]
        · unfold fX10_unlike; simp (disch := omega) only [i2, h2, bd_some, gd_true, inR_nI, nI_clamp, nI_add, pk_mul, pk_sub, leT, leF, ltT, ltF, eqT, eqF, ite_true, ite_false, reduceIte, nz_nI, oc_s, oc_n, pk_div, pk_rem, m1F, L0, L1, L2, L3, L4, L5, L6, L7, L8, L9, L10, L11, L12, L19, L20, L24, L25, L27, L28, L30, L32, L37, L39, L40, L47, L48, L50, L55, L57, L60, L61, L63, L71, L80, L97, L99, L100, L120, L122, L128, L161, L17, L600, L1000000, L1024, L1408, isB0, isB1, subdm, inT, inFl, inFh]
      · obtain ⟨r', e1, hd, m1⟩ := h3 _ (m0 _)
        have p1 := ok.1
        have p2 := ok.2.1
        have p3 := ok2.1
        have p4 := ok2.2.1
        have key : ∃ r2, MP r' r2 ∧ iter (fun st : Int32 × Rec => bX10_unlike_26 st.2 (nI m) st.1) (nI 0, r') = some (r2, nI (sm (fun k => ulK v w (k / 8) (k % 8)) 80)) := by
          obtain ⟨r1, q1, q2, q3⟩ := ulM1 ok hd (nI m)
          obtain ⟨r3, f1, f2, f3⟩ := k3 r1 ((m0 _).tr (m1.tr q1))
          refine ⟨r3, q1.tr f3, ?_⟩
          rw [q3]
          unfold bX10_unlike_82
          have h46 : ga r3 46 = ga r1 46 := by
            obtain ⟨c, hc2, c1, c2⟩ := hI.2.1.2.2.2.2.1 0 (by decide)
            have c2 : ga (g 1001) 5 0 = nI c := c2
            have hmc : m < c := by
              by_cases q : m < c
              · exact q
              · have e := houseAt_nI (T := g 800) (n := m) c1 (by omega) hc2
                rw [i1, if_neg q] at e
                cases e
            have hm0 := (m0 (g 1001)).tr (m1.tr q1)
            obtain ⟨r4, z1, z2, z3, z4⟩ := hand_in2 (r := r1) (n := m) (c := c) (by rw [hm0.2.2.2.2.1]; exact c2) hc2 hmc ok2 (by rw [← f3.2.2.2.2.2.1]; exact f2.2.2.2.2.2)
            rw [f1] at z1
            have : r3 = r4 := congrArg Prod.fst (Option.some.inj z1)
            rw [this]
            exact z4 46 (by decide)
          simp (disch := omega) only [f1, ulM2 ok ok2 f2 (fun k hk => by rw [h46]; exact q2 k hk), bd_some, gd_true, inR_nI, nI_clamp, nI_add, pk_mul, pk_sub, leT, leF, ltT, ltF, eqT, eqF, ite_true, ite_false, reduceIte, nz_nI, oc_s, oc_n, pk_div, pk_rem, m1F, L0, L1, L2, L3, L4, L5, L6, L7, L8, L9, L10, L11, L12, L19, L20, L24, L25, L27, L28, L30, L32, L37, L39, L40, L47, L48, L50, L55, L57, L60, L61, L63, L71, L80, L97, L99, L100, L120, L122, L128, L161, L17, L600, L1000000, L1024, L1408, isB0, isB1, subdm, inT, inFl, inFh]
        obtain ⟨r2, m2, e2⟩ := key
        refine ⟨nI (sm (fun k => ulK v w (k / 8) (k % 8)) 80), r2, ?_, ?_, hI.keep (XP.rf hI.1) ((m0 _).tr (m1.tr m2))⟩
        · unfold fX9_unlike
          simp (disch := omega) only [h1, h2, i1, k2, hx.P, hx.S, hx2.P, hx2.S, mn_nI, ulX ok hx ok2 hx2, ul_eq ok, bd_some, gd_true, inR_nI, nI_clamp, nI_add, pk_mul, pk_sub, leT, leF, ltT, ltF, eqT, eqF, ite_true, ite_false, reduceIte, nz_nI, oc_s, oc_n, pk_div, pk_rem, m1F, L0, L1, L2, L3, L4, L5, L6, L7, L8, L9, L10, L11, L12, L19, L20, L24, L25, L27, L28, L30, L32, L37, L39, L40, L47, L48, L50, L55, L57, L60, L61, L63, L71, L80, L97, L99, L100, L120, L122, L128, L161, L17, L600, L1000000, L1024, L1408, isB0, isB1, subdm, inT, inFl, inFh]
        · unfold fX10_unlike
          simp (disch := omega) only [i2, e1, e2, bd_some, gd_true, inR_nI, nI_clamp, nI_add, pk_mul, pk_sub, leT, leF, ltT, ltF, eqT, eqF, ite_true, ite_false, reduceIte, nz_nI, oc_s, oc_n, pk_div, pk_rem, m1F, L0, L1, L2, L3, L4, L5, L6, L7, L8, L9, L10, L11, L12, L19, L20, L24, L25, L27, L28, L30, L32, L37, L39, L40, L47, L48, L50, L55, L57, L60, L61, L63, L71, L80, L97, L99, L100, L120, L122, L128, L161, L17, L600, L1000000, L1024, L1408, isB0, isB1, subdm, inT, inFl, inFh]
