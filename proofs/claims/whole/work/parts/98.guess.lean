/-! logs -/
def lp (w : Rv) (k : Nat) : Nat := (w.2 k 0).toNatClampNeg
def lh (w : Rv) (k : Nat) : Nat := (w.2 k 1).toNatClampNeg
theorem lp_ok {w : Rv} (h : LvOK w) {k : Nat} (hk : k < w.1) : w.2 k 0 = nI (lp w k) ∧ lp w k < 8 := by
  obtain ⟨p, h1, h2⟩ := (h.2 k hk).1
  unfold lp
  rw [h2, nI_clamp (by omega)]
  exact ⟨rfl, h1⟩
theorem lh_ok {w : Rv} (h : LvOK w) {k : Nat} (hk : k < w.1) : w.2 k 1 = nI (lh w k) ∧ lh w k ≤ 60 := by
  obtain ⟨p, h1, h2⟩ := (h.2 k hk).2
  unfold lh
  rw [h2, nI_clamp (by omega)]
  exact ⟨rfl, h1⟩
def LgX (g : Gs) (m : Nat) (w : Rv) : Prop := m < 2 ∧ LvOK w ∧ LX (g (504 + m)) w
def LgM (r : Rec) (m : Nat) (w : Rv) : Prop := m < 2 ∧ LvOK w ∧ gi r 41 = nI m ∧ LM (ga r 9) (17 * m) w
theorem LgX.size {g : Gs} {m : Nat} {w : Rv} (h : LgX g m w) : gi (g (504 + m)) 2 = nI w.1 := h.2.2.2.1
theorem LgX.p {g : Gs} {m : Nat} {w : Rv} (h : LgX g m w) {k : Nat} (hk : k < w.1) : fX5_cell (g (504 + m)) (nI k) (nI 1) = some (nI (lp w k)) := by
  rw [cell_nI (lim := 8) h.2.2.1 h.2.2.2.1 h.2.1.1 (by decide) hk (by decide), ← (lp_ok h.2.1 hk).1]
  exact congrArg some (h.2.2.2.2 k hk 0 (by decide))
theorem LgX.h {g : Gs} {m : Nat} {w : Rv} (h : LgX g m w) {k : Nat} (hk : k < w.1) : fX5_cell (g (504 + m)) (nI k) (nI 2) = some (nI (lh w k)) := by
  rw [cell_nI (lim := 8) h.2.2.1 h.2.2.2.1 h.2.1.1 (by decide) hk (by decide), ← (lh_ok h.2.1 hk).1]
  exact congrArg some (h.2.2.2.2 k hk 1 (by decide))
theorem LgM.size {r : Rec} {m : Nat} {w : Rv} (h : LgM r m w) : ga r 9 (17 * m) = nI w.1 := h.2.2.2.1
theorem LgM.p {r : Rec} {m : Nat} {w : Rv} (h : LgM r m w) {k : Nat} (hk : k < w.1) : fX10_factOf r (nI k) (nI 0) = some (nI (lp w k)) := by
  have hm := h.1
  have h8 := h.2.1.1
  unfold fX10_factOf
  simp (disch := omega) only [h.2.2.1, bd_some, gd_true, inR_nI, nI_clamp, nI_add, pk_mul, pk_sub, leT, leF, ltT, ltF, eqT, eqF, ite_true, ite_false, reduceIte, nz_nI, oc_s, oc_n, pk_div, pk_rem, m1F, L0, L1, L2, L3, L4, L5, L6, L7, L8, L9, L10, L11, L12, L19, L20, L24, L25, L27, L28, L30, L32, L37, L39, L40, L47, L48, L50, L55, L57, L60, L61, L63, L71, L80, L97, L99, L100, L120, L122, L128, L161, L17, L600, L1000000, L1024, L1408, isB0, isB1, subdm, inT, inFl, inFh]
  rw [← (lp_ok h.2.1 hk).1]
  exact congrArg some (h.2.2.2.2 k hk 0 (by decide))
theorem LgM.h {r : Rec} {m : Nat} {w : Rv} (h : LgM r m w) {k : Nat} (hk : k < w.1) : fX10_factOf r (nI k) (nI 1) = some (nI (lh w k)) := by
  have hm := h.1
  have h8 := h.2.1.1
  unfold fX10_factOf
  simp (disch := omega) only [h.2.2.1, bd_some, gd_true, inR_nI, nI_clamp, nI_add, pk_mul, pk_sub, leT, leF, ltT, ltF, eqT, eqF, ite_true, ite_false, reduceIte, nz_nI, oc_s, oc_n, pk_div, pk_rem, m1F, L0, L1, L2, L3, L4, L5, L6, L7, L8, L9, L10, L11, L12, L19, L20, L24, L25, L27, L28, L30, L32, L37, L39, L40, L47, L48, L50, L55, L57, L60, L61, L63, L71, L80, L97, L99, L100, L120, L122, L128, L161, L17, L600, L1000000, L1024, L1408, isB0, isB1, subdm, inT, inFl, inFh]
  rw [← (lh_ok h.2.1 hk).1]
  exact congrArg some (h.2.2.2.2 k hk 1 (by decide))
theorem log_cases {g : Gs} (hI : Inv g) (x : Int32) : (fX8_rowsAt (g 800) 800 (nI 3) x = some none ∧ ∀ r, MP (g 1001) r → fX10_hasLog r x = some (si r 41 x, nI 0)) ∨ ∃ (m : Nat) (w : Rv), m < 2 ∧ x = nI m ∧ LvOK w ∧ LX (g (504 + m)) w ∧ LM (ga (g 1001) 9) (17 * m) w ∧ fX8_rowsAt (g 800) 800 (nI 3) x = some (some (504 + m)) ∧ isRw (504 + m) = true ∧ ∀ r, MP (g 1001) r → fX10_hasLog r x = some (si r 41 (nI m), nI 1) := by
  rcases rows_cases hI (s := 3) (by decide) (by decide) x with ⟨h1, h2⟩ | ⟨m, hm, rfl, h1, h2, h3⟩
  · refine Or.inl ⟨h1, fun r hr => ?_⟩
    unfold fX10_hasLog
    simp (disch := omega) only [h2 _ (hr.tr (MP.si _ _ _)), bd_some, gd_true, inR_nI, nI_clamp, nI_add, pk_mul, pk_sub, leT, leF, ltT, ltF, eqT, eqF, ite_true, ite_false, reduceIte, nz_nI, oc_s, oc_n, pk_div, pk_rem, m1F, L0, L1, L2, L3, L4, L5, L6, L7, L8, L9, L10, L11, L12, L19, L20, L24, L25, L27, L28, L30, L32, L37, L39, L40, L47, L48, L50, L55, L57, L60, L61, L63, L71, L80, L97, L99, L100, L120, L122, L128, L161, L17, L600, L1000000, L1024, L1408, isB0, isB1, subdm, inT, inFl, inFh]
  · obtain ⟨w, ok, hx, hmm⟩ := hI.2.1.2.2.2.2.2.2.2.2 m hm
    have hmm : LM (ga (g 1001) 9) (17 * m) w := by have := hmm; rw [show 17 * (2 * 0 + m) = 17 * m by omega] at this; exact this
    refine Or.inr ⟨m, w, hm, rfl, ok, hx, hmm, h1, h2, fun r hr => ?_⟩
    unfold fX10_hasLog
    simp (disch := omega) only [h3 _ (hr.tr (MP.si _ _ _)), bd_some, gd_true, inR_nI, nI_clamp, nI_add, pk_mul, pk_sub, leT, leF, ltT, ltF, eqT, eqF, ite_true, ite_false, reduceIte, nz_nI, oc_s, oc_n, pk_div, pk_rem, m1F, L0, L1, L2, L3, L4, L5, L6, L7, L8, L9, L10, L11, L12, L19, L20, L24, L25, L27, L28, L30, L32, L37, L39, L40, L47, L48, L50, L55, L57, L60, L61, L63, L71, L80, L97, L99, L100, L120, L122, L128, L161, L17, L600, L1000000, L1024, L1408, isB0, isB1, subdm, inT, inFl, inFh]
/-! what fits -/
def stv (v : Hv) (c p : Nat) : Nat := hl (if c / 30 = hTa v p then (c % 30 + 1) * 2 else c % 30 + 1) (hWe v p)
theorem stv_le (v : Hv) (c p : Nat) : stv v c p ≤ 60 := hl_le _ _
theorem hoursTold_nI {h : Rec} {v : Hv} (ok : HvOK v) (hx : HX h v) {c p : Nat} (hc : c < 120) (hp : p < hP v) : fX2_hoursTold h (nI c) (nI p) = some (nI (stv v c p)) := by
  have hP8 := ok.1
  have ht := (ok.2.2.2.1 p hp).1
  have hw := we_le ok hp
  have hq : c / 30 ≤ c := Nat.div_le_self _ _
  have hr : c % 30 < 30 := Nat.mod_lt _ (by decide)
  have e2 : 2 * (c % 30 + 1) = (c % 30 + 1) * 2 := Nat.mul_comm _ _
  unfold fX2_hoursTold bX2_hoursTold_32 fX2_hasPiece fX9_weightOfCode fX9_kindOfCode fX9_worthOf bX9_worthOf_11 stv
  by_cases e : c / 30 = hTa v p
  · rw [if_pos e]
    simp (disch := omega) only [hx.P, hx.ta, hx.we, e2, hoursLeft_nI, bd_some, gd_true, inR_nI, nI_clamp, nI_add, pk_mul, pk_sub, leT, leF, ltT, ltF, eqT, eqF, ite_true, ite_false, reduceIte, nz_nI, oc_s, oc_n, pk_div, pk_rem, m1F, L0, L1, L2, L3, L4, L5, L6, L7, L8, L9, L10, L11, L12, L19, L20, L24, L25, L27, L28, L30, L32, L37, L39, L40, L47, L48, L50, L55, L57, L60, L61, L63, L71, L80, L97, L99, L100, L120, L122, L128, L161, L17, L600, L1000000, L1024, L1408, isB0, isB1, subdm, inT, inFl, inFh]
  · rw [if_neg e]
    simp (disch := omega) only [hx.P, hx.ta, hx.we, hoursLeft_nI, bd_some, gd_true, inR_nI, nI_clamp, nI_add, pk_mul, pk_sub, leT, leF, ltT, ltF, eqT, eqF, ite_true, ite_false, reduceIte, nz_nI, oc_s, oc_n, pk_div, pk_rem, m1F, L0, L1, L2, L3, L4, L5, L6, L7, L8, L9, L10, L11, L12, L19, L20, L24, L25, L27, L28, L30, L32, L37, L39, L40, L47, L48, L50, L55, L57, L60, L61, L63, L71, L80, L97, L99, L100, L120, L122, L128, L161, L17, L600, L1000000, L1024, L1408, isB0, isB1, subdm, inT, inFl, inFh]
theorem shinesBy_nI {r : Rec} {n : Nat} {v : Hv} (ok : HvOK v) (hd : Hd r n v) {c p : Nat} (hc : c < 120) (hp : p < hP v) : fX10_shinesBy r (nI c) (nI p) = some (nI (stv v c p)) := by
  have hP8 := ok.1
  have ht := (ok.2.2.2.1 p hp).1
  have hw := we_le ok hp
  have hq : c / 30 ≤ c := Nat.div_le_self _ _
  have hr : c % 30 < 30 := Nat.mod_lt _ (by decide)
  unfold fX10_shinesBy bX10_shinesBy_26 stv
  by_cases e : c / 30 = hTa v p
  · rw [if_pos e]
    simp (disch := omega) only [hd.ta ok, wear_nI hd, lastsFor_nI, bd_some, gd_true, inR_nI, nI_clamp, nI_add, pk_mul, pk_sub, leT, leF, ltT, ltF, eqT, eqF, ite_true, ite_false, reduceIte, nz_nI, oc_s, oc_n, pk_div, pk_rem, m1F, L0, L1, L2, L3, L4, L5, L6, L7, L8, L9, L10, L11, L12, L19, L20, L24, L25, L27, L28, L30, L32, L37, L39, L40, L47, L48, L50, L55, L57, L60, L61, L63, L71, L80, L97, L99, L100, L120, L122, L128, L161, L17, L600, L1000000, L1024, L1408, isB0, isB1, subdm, inT, inFl, inFh]
  · rw [if_neg e]
    simp (disch := omega) only [hd.ta ok, wear_nI hd, lastsFor_nI, Nat.mul_one, bd_some, gd_true, inR_nI, nI_clamp, nI_add, pk_mul, pk_sub, leT, leF, ltT, ltF, eqT, eqF, ite_true, ite_false, reduceIte, nz_nI, oc_s, oc_n, pk_div, pk_rem, m1F, L0, L1, L2, L3, L4, L5, L6, L7, L8, L9, L10, L11, L12, L19, L20, L24, L25, L27, L28, L30, L32, L37, L39, L40, L47, L48, L50, L55, L57, L60, L61, L63, L71, L80, L97, L99, L100, L120, L122, L128, L161, L17, L600, L1000000, L1024, L1408, isB0, isB1, subdm, inT, inFl, inFh]
/-- the first k lines fit -/
def ftK (v : Hv) (w : Rv) (c k : Nat) : Prop := ∀ j, j < k → stv v c (lp w j) = lh w j
noncomputable def fitS (v : Hv) (w : Rv) : Nat → Nat × (Nat → Nat)
  | 0 => (0, fun _ => 0)
  | k + 1 => @ite _ (ftK v w k w.1) (Classical.propDecidable _) ((fitS v w k).1 + 1, fun j => if j = (fitS v w k).1 then k else (fitS v w k).2 j) (fitS v w k)
theorem fitS_pos {v : Hv} {w : Rv} {k : Nat} (h : ftK v w k w.1) : fitS v w (k + 1) = ((fitS v w k).1 + 1, fun j => if j = (fitS v w k).1 then k else (fitS v w k).2 j) := if_pos h
theorem fitS_neg {v : Hv} {w : Rv} {k : Nat} (h : ¬ ftK v w k w.1) : fitS v w (k + 1) = fitS v w k := if_neg h
theorem fitS_ok {v : Hv} {w : Rv} : ∀ k, (fitS v w k).1 ≤ k ∧ ∀ j, j < (fitS v w k).1 → (fitS v w k).2 j < k
  | 0 => ⟨Nat.le_refl _, fun j hj => absurd hj (Nat.not_lt_zero j)⟩
  | k + 1 => by
    obtain ⟨h1, h2⟩ := fitS_ok (v := v) (w := w) k
    by_cases c : ftK v w k w.1
    · rw [fitS_pos c]
      refine ⟨by show _ + 1 ≤ _; omega, fun j hj => ?_⟩
      show (if j = (fitS v w k).1 then k else (fitS v w k).2 j) < k + 1
      by_cases e : j = (fitS v w k).1
      · rw [if_pos e]; omega
      · rw [if_neg e]
        have hj : j < (fitS v w k).1 + 1 := hj
        have := h2 j (by omega)
        omega
    · rw [fitS_neg c]
      exact ⟨by omega, fun j hj => by have := h2 j hj; omega⟩
/-- all pieces of a log are there -/
def lgP (v : Hv) (w : Rv) : Prop := ∀ k, k < w.1 → lp w k < hP v
theorem hasPiece_T {h : Rec} {v : Hv} (ok : HvOK v) (hx : HX h v) {p : Nat} (hp : p < hP v) : fX2_hasPiece h (nI p) = some (nI 1) := by
  have hP8 := ok.1
  unfold fX2_hasPiece
  simp (disch := omega) only [hx.P, bd_some, gd_true, inR_nI, nI_clamp, nI_add, pk_mul, pk_sub, leT, leF, ltT, ltF, eqT, eqF, ite_true, ite_false, reduceIte, nz_nI, oc_s, oc_n, pk_div, pk_rem, m1F, L0, L1, L2, L3, L4, L5, L6, L7, L8, L9, L10, L11, L12, L19, L20, L24, L25, L27, L28, L30, L32, L37, L39, L40, L47, L48, L50, L55, L57, L60, L61, L63, L71, L80, L97, L99, L100, L120, L122, L128, L161, L17, L600, L1000000, L1024, L1408, isB0, isB1, subdm, inT, inFl, inFh]
theorem hasPiece_F {h : Rec} {v : Hv} (hx : HX h v) {p : Nat} (hp : ¬ p < hP v) (hp2 : p < 2 ^ 31) : fX2_hasPiece h (nI p) = some (nI 0) := by
  unfold fX2_hasPiece
  simp (disch := omega) only [hx.P, bd_some, gd_true, inR_nI, nI_clamp, nI_add, pk_mul, pk_sub, leT, leF, ltT, ltF, eqT, eqF, ite_true, ite_false, reduceIte, nz_nI, oc_s, oc_n, pk_div, pk_rem, m1F, L0, L1, L2, L3, L4, L5, L6, L7, L8, L9, L10, L11, L12, L19, L20, L24, L25, L27, L28, L30, L32, L37, L39, L40, L47, L48, L50, L55, L57, L60, L61, L63, L71, L80, L97, L99, L100, L120, L122, L128, L161, L17, L600, L1000000, L1024, L1408, isB0, isB1, subdm, inT, inFl, inFh]
theorem isPiece_nI {r : Rec} {n : Nat} {v : Hv} (ok : HvOK v) (hd : Hd r n v) {p : Nat} (hp2 : p < 2 ^ 31) : fX10_isPiece r (nI p) = some (if p < hP v then nI 1 else nI 0) := by
  have hP8 := ok.1
  unfold fX10_isPiece
  rw [hd.P, in_pred hp2 (by omega), bd_some]
  by_cases c : p < hP v
  · rw [if_pos c, if_pos c]; rfl
  · rw [if_neg c, if_neg c]; rfl
theorem hasPieces_nI {g : Gs} {u m : Nat} {v : Hv} {w : Rv} (ok : HvOK v) (hx : HX (g u) v) (hl : LgX g m w) : (lgP v w → fX2_hasPieces g u (504 + m) (nI 1) = some (nI 1)) ∧ (¬ lgP v w → fX2_hasPieces g u (504 + m) (nI 1) = some (nI 0)) := by
  have h8 := hl.2.1.1
  have key : ∀ d k, k + d = w.1 → (∀ j, j < k → lp w j < hP v) → (lgP v w → iter (fun st : Int32 => bX2_hasPieces_2 g u (504 + m) (nI 1) st) (nI k) = some (nI 1)) ∧ (¬ lgP v w → iter (fun st : Int32 => bX2_hasPieces_2 g u (504 + m) (nI 1) st) (nI k) = some (nI 0)) := by
    intro d
    induction d with
    | zero =>
      intro k hk hj
      have hk2 : k = w.1 := by omega
      refine ⟨fun _ => iter_end ?_, fun q => absurd (fun j hj2 => hj j (by omega)) q⟩
      show bX2_hasPieces_2 g u (504 + m) (nI 1) (nI k) = _
      unfold bX2_hasPieces_2
      simp (disch := omega) only [hl.size, bd_some, gd_true, inR_nI, nI_clamp, nI_add, pk_mul, pk_sub, leT, leF, ltT, ltF, eqT, eqF, ite_true, ite_false, reduceIte, nz_nI, oc_s, oc_n, pk_div, pk_rem, m1F, L0, L1, L2, L3, L4, L5, L6, L7, L8, L9, L10, L11, L12, L19, L20, L24, L25, L27, L28, L30, L32, L37, L39, L40, L47, L48, L50, L55, L57, L60, L61, L63, L71, L80, L97, L99, L100, L120, L122, L128, L161, L17, L600, L1000000, L1024, L1408, isB0, isB1, subdm, inT, inFl, inFh]
    | succ d ih =>
      intro k hk hj
      have hkw : k < w.1 := by omega
      have hp8 := (lp_ok hl.2.1 hkw).2
      by_cases c : lp w k < hP v
      · have e : bX2_hasPieces_2 g u (504 + m) (nI 1) (nI k) = some (.inl (nI (k + 1))) := by
          unfold bX2_hasPieces_2
          simp (disch := omega) only [hl.size, hl.p, hasPiece_T ok hx, bd_some, gd_true, inR_nI, nI_clamp, nI_add, pk_mul, pk_sub, leT, leF, ltT, ltF, eqT, eqF, ite_true, ite_false, reduceIte, nz_nI, oc_s, oc_n, pk_div, pk_rem, m1F, L0, L1, L2, L3, L4, L5, L6, L7, L8, L9, L10, L11, L12, L19, L20, L24, L25, L27, L28, L30, L32, L37, L39, L40, L47, L48, L50, L55, L57, L60, L61, L63, L71, L80, L97, L99, L100, L120, L122, L128, L161, L17, L600, L1000000, L1024, L1408, isB0, isB1, subdm, inT, inFl, inFh]
        rw [iter_step (s := nI k) (s' := nI (k + 1)) e]
        refine ih (k + 1) (by omega) (fun j hj2 => ?_)
        by_cases e2 : j = k
        · rw [e2]; exact c
        · exact hj j (by omega)
      · refine ⟨fun q => absurd (q k hkw) c, fun _ => iter_end ?_⟩
        show bX2_hasPieces_2 g u (504 + m) (nI 1) (nI k) = _
        unfold bX2_hasPieces_2
        simp (disch := omega) only [hl.size, hl.p, hasPiece_F hx c, bd_some, gd_true, inR_nI, nI_clamp, nI_add, pk_mul, pk_sub, leT, leF, ltT, ltF, eqT, eqF, ite_true, ite_false, reduceIte, nz_nI, oc_s, oc_n, pk_div, pk_rem, m1F, L0, L1, L2, L3, L4, L5, L6, L7, L8, L9, L10, L11, L12, L19, L20, L24, L25, L27, L28, L30, L32, L37, L39, L40, L47, L48, L50, L55, L57, L60, L61, L63, L71, L80, L97, L99, L100, L120, L122, L128, L161, L17, L600, L1000000, L1024, L1408, isB0, isB1, subdm, inT, inFl, inFh]
  exact key w.1 0 (by omega) (fun j hj => by omega)
theorem isFit_nI {g : Gs} {u m : Nat} {v : Hv} {w : Rv} (ok : HvOK v) (hx : HX (g u) v) (hl : LgX g m w) (hp : lgP v w) {c : Nat} (hc : c < 120) : (ftK v w c w.1 → fX1_isFit g u (504 + m) (nI c) = some (nI 1)) ∧ (¬ ftK v w c w.1 → fX1_isFit g u (504 + m) (nI c) = some (nI 0)) := by
  have h8 := hl.2.1.1
  have key : ∀ d k, k + d = w.1 → ftK v w c k → (ftK v w c w.1 → iter (fun st : Int32 => bX1_isFit_2 g u (504 + m) (nI c) st) (nI k) = some (nI 1)) ∧ (¬ ftK v w c w.1 → iter (fun st : Int32 => bX1_isFit_2 g u (504 + m) (nI c) st) (nI k) = some (nI 0)) := by
    intro d
    induction d with
    | zero =>
      intro k hk hj
      have hk2 : k = w.1 := by omega
      subst hk2
      refine ⟨fun _ => iter_end ?_, fun q => absurd hj q⟩
      show bX1_isFit_2 g u (504 + m) (nI c) (nI w.1) = _
      unfold bX1_isFit_2
      simp (disch := omega) only [hl.size, bd_some, gd_true, inR_nI, nI_clamp, nI_add, pk_mul, pk_sub, leT, leF, ltT, ltF, eqT, eqF, ite_true, ite_false, reduceIte, nz_nI, oc_s, oc_n, pk_div, pk_rem, m1F, L0, L1, L2, L3, L4, L5, L6, L7, L8, L9, L10, L11, L12, L19, L20, L24, L25, L27, L28, L30, L32, L37, L39, L40, L47, L48, L50, L55, L57, L60, L61, L63, L71, L80, L97, L99, L100, L120, L122, L128, L161, L17, L600, L1000000, L1024, L1408, isB0, isB1, subdm, inT, inFl, inFh]
    | succ d ih =>
      intro k hk hj
      have hkw : k < w.1 := by omega
      have hp8 := hp k hkw
      have hh := (lh_ok hl.2.1 hkw).2
      have hs := stv_le v c (lp w k)
      by_cases cc : stv v c (lp w k) = lh w k
      · have e : bX1_isFit_2 g u (504 + m) (nI c) (nI k) = some (.inl (nI (k + 1))) := by
          unfold bX1_isFit_2
          simp (disch := omega) only [hl.size, hl.p, hl.h, hoursTold_nI ok hx, bd_some, gd_true, inR_nI, nI_clamp, nI_add, pk_mul, pk_sub, leT, leF, ltT, ltF, eqT, eqF, ite_true, ite_false, reduceIte, nz_nI, oc_s, oc_n, pk_div, pk_rem, m1F, L0, L1, L2, L3, L4, L5, L6, L7, L8, L9, L10, L11, L12, L19, L20, L24, L25, L27, L28, L30, L32, L37, L39, L40, L47, L48, L50, L55, L57, L60, L61, L63, L71, L80, L97, L99, L100, L120, L122, L128, L161, L17, L600, L1000000, L1024, L1408, isB0, isB1, subdm, inT, inFl, inFh]
        rw [iter_step (s := nI k) (s' := nI (k + 1)) e]
        refine ih (k + 1) (by omega) (fun j hj2 => ?_)
        by_cases e2 : j = k
        · rw [e2]; exact cc
        · exact hj j (by omega)
      · refine ⟨fun q => absurd (q k hkw) cc, fun _ => iter_end ?_⟩
        show bX1_isFit_2 g u (504 + m) (nI c) (nI k) = _
        unfold bX1_isFit_2
        simp (disch := omega) only [hl.size, hl.p, hl.h, hoursTold_nI ok hx, bd_some, gd_true, inR_nI, nI_clamp, nI_add, pk_mul, pk_sub, leT, leF, ltT, ltF, eqT, eqF, ite_true, ite_false, reduceIte, nz_nI, oc_s, oc_n, pk_div, pk_rem, m1F, L0, L1, L2, L3, L4, L5, L6, L7, L8, L9, L10, L11, L12, L19, L20, L24, L25, L27, L28, L30, L32, L37, L39, L40, L47, L48, L50, L55, L57, L60, L61, L63, L71, L80, L97, L99, L100, L120, L122, L128, L161, L17, L600, L1000000, L1024, L1408, isB0, isB1, subdm, inT, inFl, inFh]
  exact key w.1 0 (by omega) (fun j hj => by omega)
def fiX (g : Gs) (n : Nat) (f : Nat → Nat) : Prop := gi (g 101) 1 = nI n ∧ ∀ j, j < n → ga (g 101) 0 j = nI (f j)
def fiM (r : Rec) (n : Nat) (f : Nat → Nat) : Prop := gi r 43 = nI n ∧ ∀ j, j < n → ga r 42 j = nI (f j)
theorem gather_nI {g : Gs} {u m : Nat} {v : Hv} {w : Rv} (ok : HvOK v) (hu : u < 210 ∧ 101 < u) (hx : HX (g u) v) (hl : LgX g m w) (hp : lgP v w) : ∃ g', fX1_gather g u (504 + m) = some g' ∧ fiX g' (fitS v w 120).1 (fitS v w 120).2 ∧ ∀ o, o ≠ 101 → g' o = g o := by
  unfold fX1_gather
  rw [bd_some]
  obtain ⟨x, h1, h2⟩ := iter_loop (step := fun st : Int32 × Gs => bX1_gather_7 st.2 u (504 + m) st.1) (fun i st => st.1 = nI i ∧ fiX st.2 (fitS v w i).1 (fitS v w i).2 ∧ ∀ o, o ≠ 101 → st.2 o = g o) (fun x => fiX x (fitS v w 120).1 (fitS v w 120).2 ∧ ∀ o, o ≠ 101 → x o = g o) 120 (by
    rintro i ⟨k, q⟩ hi ⟨e, ⟨a1, a2⟩, a3⟩
    dsimp only at e a1 a2 a3
    subst e
    have hx2 : HX (q u) v := by rw [a3 u (by omega)]; exact hx
    have hl2 : LgX q m w := ⟨hl.1, hl.2.1, by rw [a3 _ (by omega)]; exact hl.2.2⟩
    have hn := (fitS_ok (v := v) (w := w) i).1
    have hf := isFit_nI ok hx2 hl2 hp hi
    by_cases c : ftK v w i w.1
    · rw [fitS_pos c]
      have hf := hf.1 c
      refine ⟨(nI (i + 1), ug q 101 (si (sa (q 101) 0 (upd (ga (q 101) 0) (fitS v w i).1 (nI i))) 1 (nI ((fitS v w i).1 + 1)))), ?_, rfl, ⟨?_, fun j hj => ?_⟩, fun o ho => by dsimp only; rw [ug_ne ho]; exact a3 o ho⟩
      · show bX1_gather_7 q u (504 + m) (nI i) = _
        unfold bX1_gather_7 bX1_gather_42
        simp (disch := omega) only [hf, a1, bd_some, gd_true, inR_nI, nI_clamp, nI_add, pk_mul, pk_sub, leT, leF, ltT, ltF, eqT, eqF, ite_true, ite_false, reduceIte, nz_nI, oc_s, oc_n, pk_div, pk_rem, m1F, L0, L1, L2, L3, L4, L5, L6, L7, L8, L9, L10, L11, L12, L19, L20, L24, L25, L27, L28, L30, L32, L37, L39, L40, L47, L48, L50, L55, L57, L60, L61, L63, L71, L80, L97, L99, L100, L120, L122, L128, L161, L17, L600, L1000000, L1024, L1408, isB0, isB1, subdm, inT, inFl, inFh, ug_same, ug_ug, ug_ne, ga_sae, ga_san, gi_sie, gi_sin, ga_si, gi_sa, gr_si, gr_sa, ga_sr, gi_sr, gr_sre]
      · dsimp only
        rw [ug_same]; rfl
      · dsimp only
        rw [ug_same]
        show upd (ga (q 101) 0) (fitS v w i).1 (nI i) j = nI (if j = (fitS v w i).1 then i else (fitS v w i).2 j)
        rw [upd_if]
        by_cases e : j = (fitS v w i).1
        · rw [if_pos e, if_pos e]
        · rw [if_neg e, if_neg e]
          have hj : j < (fitS v w i).1 + 1 := hj
          exact a2 j (by omega)
    · rw [fitS_neg c]
      have hf := hf.2 c
      refine ⟨(nI (i + 1), q), ?_, rfl, ⟨a1, a2⟩, a3⟩
      show bX1_gather_7 q u (504 + m) (nI i) = _
      unfold bX1_gather_7 bX1_gather_42
      simp (disch := omega) only [hf, bd_some, gd_true, inR_nI, nI_clamp, nI_add, pk_mul, pk_sub, leT, leF, ltT, ltF, eqT, eqF, ite_true, ite_false, reduceIte, nz_nI, oc_s, oc_n, pk_div, pk_rem, m1F, L0, L1, L2, L3, L4, L5, L6, L7, L8, L9, L10, L11, L12, L19, L20, L24, L25, L27, L28, L30, L32, L37, L39, L40, L47, L48, L50, L55, L57, L60, L61, L63, L71, L80, L97, L99, L100, L120, L122, L128, L161, L17, L600, L1000000, L1024, L1408, isB0, isB1, subdm, inT, inFl, inFh]) (by
    rintro ⟨k, q⟩ ⟨e, a1, a3⟩
    dsimp only at e a1 a3
    subst e
    refine ⟨q, ?_, a1, a3⟩
    show bX1_gather_7 q u (504 + m) (nI 120) = _
    unfold bX1_gather_7
    simp (disch := omega) only [bd_some, gd_true, inR_nI, nI_clamp, nI_add, pk_mul, pk_sub, leT, leF, ltT, ltF, eqT, eqF, ite_true, ite_false, reduceIte, nz_nI, oc_s, oc_n, pk_div, pk_rem, m1F, L0, L1, L2, L3, L4, L5, L6, L7, L8, L9, L10, L11, L12, L19, L20, L24, L25, L27, L28, L30, L32, L37, L39, L40, L47, L48, L50, L55, L57, L60, L61, L63, L71, L80, L97, L99, L100, L120, L122, L128, L161, L17, L600, L1000000, L1024, L1408, isB0, isB1, subdm, inT, inFl, inFh]) (s0 := (0, ug g 101 (si (g 101) 1 0))) ⟨rfl, ⟨by dsimp only; rw [ug_same]; rfl, fun j hj => absurd hj (Nat.not_lt_zero j)⟩, fun o ho => ug_ne ho⟩
  exact ⟨x, h1, h2⟩
/-- the reference's rows of what fits -/
theorem layK {r : Rec} {n m : Nat} {v : Hv} {w : Rv} (ok : HvOK v) (hd : Hd r n v) (hl : LgM r m w) (hp : lgP v w) {c : Nat} (hc : c < 120) : (ftK v w c w.1 → iter (fun st : Int32 × Int32 => bX10_layLog_76 r (nI c) st.1 st.2) (nI 1, nI 0) = bX10_layLog_133 r (nI c) (nI 1)) ∧ (¬ ftK v w c w.1 → iter (fun st : Int32 × Int32 => bX10_layLog_76 r (nI c) st.1 st.2) (nI 1, nI 0) = bX10_layLog_133 r (nI c) (nI 0)) := by
  have hm := hl.1
  have h8 := hl.2.1.1
  have bad : ∀ d k, k + d = w.1 → iter (fun st : Int32 × Int32 => bX10_layLog_76 r (nI c) st.1 st.2) (nI 0, nI k) = bX10_layLog_133 r (nI c) (nI 0) := by
    intro d
    induction d with
    | zero =>
      intro k hk
      refine iter_out ?_
      show bX10_layLog_76 r (nI c) (nI 0) (nI k) = _
      unfold bX10_layLog_76
      simp (disch := omega) only [hl.2.2.1, hl.size, bd_some, gd_true, inR_nI, nI_clamp, nI_add, pk_mul, pk_sub, leT, leF, ltT, ltF, eqT, eqF, ite_true, ite_false, reduceIte, nz_nI, oc_s, oc_n, pk_div, pk_rem, m1F, L0, L1, L2, L3, L4, L5, L6, L7, L8, L9, L10, L11, L12, L19, L20, L24, L25, L27, L28, L30, L32, L37, L39, L40, L47, L48, L50, L55, L57, L60, L61, L63, L71, L80, L97, L99, L100, L120, L122, L128, L161, L17, L600, L1000000, L1024, L1408, isB0, isB1, subdm, inT, inFl, inFh]
    | succ d ih =>
      intro k hk
      rw [iter_step (s := (nI 0, nI k)) (s' := (nI 0, nI (k + 1))) (by
        show bX10_layLog_76 r (nI c) (nI 0) (nI k) = _
        unfold bX10_layLog_76 bX10_layLog_124 bX10_layLog_125
        simp (disch := omega) only [hl.2.2.1, hl.size, bd_some, gd_true, inR_nI, nI_clamp, nI_add, pk_mul, pk_sub, leT, leF, ltT, ltF, eqT, eqF, ite_true, ite_false, reduceIte, nz_nI, oc_s, oc_n, pk_div, pk_rem, m1F, L0, L1, L2, L3, L4, L5, L6, L7, L8, L9, L10, L11, L12, L19, L20, L24, L25, L27, L28, L30, L32, L37, L39, L40, L47, L48, L50, L55, L57, L60, L61, L63, L71, L80, L97, L99, L100, L120, L122, L128, L161, L17, L600, L1000000, L1024, L1408, isB0, isB1, subdm, inT, inFl, inFh])]
      exact ih (k + 1) (by omega)
  have key : ∀ d k, k + d = w.1 → ftK v w c k → (ftK v w c w.1 → iter (fun st : Int32 × Int32 => bX10_layLog_76 r (nI c) st.1 st.2) (nI 1, nI k) = bX10_layLog_133 r (nI c) (nI 1)) ∧ (¬ ftK v w c w.1 → iter (fun st : Int32 × Int32 => bX10_layLog_76 r (nI c) st.1 st.2) (nI 1, nI k) = bX10_layLog_133 r (nI c) (nI 0)) := by
    intro d
    induction d with
    | zero =>
      intro k hk hj
      have hk2 : k = w.1 := by omega
      subst hk2
      refine ⟨fun _ => iter_out ?_, fun q => absurd hj q⟩
      show bX10_layLog_76 r (nI c) (nI 1) (nI w.1) = _
      unfold bX10_layLog_76
      simp (disch := omega) only [hl.2.2.1, hl.size, bd_some, gd_true, inR_nI, nI_clamp, nI_add, pk_mul, pk_sub, leT, leF, ltT, ltF, eqT, eqF, ite_true, ite_false, reduceIte, nz_nI, oc_s, oc_n, pk_div, pk_rem, m1F, L0, L1, L2, L3, L4, L5, L6, L7, L8, L9, L10, L11, L12, L19, L20, L24, L25, L27, L28, L30, L32, L37, L39, L40, L47, L48, L50, L55, L57, L60, L61, L63, L71, L80, L97, L99, L100, L120, L122, L128, L161, L17, L600, L1000000, L1024, L1408, isB0, isB1, subdm, inT, inFl, inFh]
    | succ d ih =>
      intro k hk hj
      have hkw : k < w.1 := by omega
      have hp8 := hp k hkw
      have hh := (lh_ok hl.2.1 hkw).2
      have hs := stv_le v c (lp w k)
      by_cases cc : stv v c (lp w k) = lh w k
      · have e : bX10_layLog_76 r (nI c) (nI 1) (nI k) = some (.inl (nI 1, nI (k + 1))) := by
          unfold bX10_layLog_76 bX10_layLog_125
          simp (disch := omega) only [hl.2.2.1, hl.size, hl.p, hl.h, shinesBy_nI ok hd, bd_some, gd_true, inR_nI, nI_clamp, nI_add, pk_mul, pk_sub, leT, leF, ltT, ltF, eqT, eqF, ite_true, ite_false, reduceIte, nz_nI, oc_s, oc_n, pk_div, pk_rem, m1F, L0, L1, L2, L3, L4, L5, L6, L7, L8, L9, L10, L11, L12, L19, L20, L24, L25, L27, L28, L30, L32, L37, L39, L40, L47, L48, L50, L55, L57, L60, L61, L63, L71, L80, L97, L99, L100, L120, L122, L128, L161, L17, L600, L1000000, L1024, L1408, isB0, isB1, subdm, inT, inFl, inFh]
        rw [iter_step (s := (nI 1, nI k)) (s' := (nI 1, nI (k + 1))) e]
        refine ih (k + 1) (by omega) (fun j hj2 => ?_)
        by_cases e2 : j = k
        · rw [e2]; exact cc
        · exact hj j (by omega)
      · have e : bX10_layLog_76 r (nI c) (nI 1) (nI k) = some (.inl (nI 0, nI (k + 1))) := by
          unfold bX10_layLog_76 bX10_layLog_124 bX10_layLog_125
          simp (disch := omega) only [hl.2.2.1, hl.size, hl.p, hl.h, shinesBy_nI ok hd, bd_some, gd_true, inR_nI, nI_clamp, nI_add, pk_mul, pk_sub, leT, leF, ltT, ltF, eqT, eqF, ite_true, ite_false, reduceIte, nz_nI, oc_s, oc_n, pk_div, pk_rem, m1F, L0, L1, L2, L3, L4, L5, L6, L7, L8, L9, L10, L11, L12, L19, L20, L24, L25, L27, L28, L30, L32, L37, L39, L40, L47, L48, L50, L55, L57, L60, L61, L63, L71, L80, L97, L99, L100, L120, L122, L128, L161, L17, L600, L1000000, L1024, L1408, isB0, isB1, subdm, inT, inFl, inFh]
        rw [iter_step (s := (nI 1, nI k)) (s' := (nI 0, nI (k + 1))) e]
        exact ⟨fun q => absurd (q k hkw) cc, fun _ => bad d (k + 1) (by omega)⟩
  exact key w.1 0 (by omega) (fun j hj => by omega)
theorem lay62 {r : Rec} {n m : Nat} {v : Hv} {w : Rv} (ok : HvOK v) (hd : Hd r n v) (hl : LgM r m w) (hp : lgP v w) (h43 : gi r 43 = nI 0) : ∃ r', bX10_layLog_62 r = some (r', nI 1) ∧ fiM r' (fitS v w 120).1 (fitS v w 120).2 ∧ (∀ k, k ≠ 42 → ga r' k = ga r k) ∧ (∀ k, k ≠ 43 → gi r' k = gi r k) := by
  unfold bX10_layLog_62
  obtain ⟨x, h1, h2⟩ := iter_loop (step := fun st : Int32 × Rec => bX10_layLog_64 st.2 st.1) (fun i st => st.1 = nI i ∧ fiM st.2 (fitS v w i).1 (fitS v w i).2 ∧ (∀ k, k ≠ 42 → ga st.2 k = ga r k) ∧ (∀ k, k ≠ 43 → gi st.2 k = gi r k)) (fun x => x.2 = nI 1 ∧ fiM x.1 (fitS v w 120).1 (fitS v w 120).2 ∧ (∀ k, k ≠ 42 → ga x.1 k = ga r k) ∧ (∀ k, k ≠ 43 → gi x.1 k = gi r k)) 120 (by
    rintro i ⟨k, q⟩ hi ⟨e, ⟨a1, a2⟩, a3, a4⟩
    dsimp only at e a1 a2 a3 a4
    subst e
    have hd2 : Hd q n v := hd.keep (a3 28 (by decide)) (a3 6 (by decide)) (a4 25 (by decide)) (a4 26 (by decide)) (a4 27 (by decide))
    have hl2 : LgM q m w := ⟨hl.1, hl.2.1, by rw [a4 41 (by decide)]; exact hl.2.2.1, by rw [a3 9 (by decide)]; exact hl.2.2.2⟩
    have hn := (fitS_ok (v := v) (w := w) i).1
    have hf := layK ok hd2 hl2 hp hi
    by_cases c : ftK v w i w.1
    · rw [fitS_pos c]
      have hf := hf.1 c
      refine ⟨(nI (i + 1), si (sa q 42 (upd (ga q 42) (fitS v w i).1 (nI i))) 43 (nI ((fitS v w i).1 + 1))), ?_, rfl, ⟨rfl, fun j hj => ?_⟩, fun k hk => ?_, fun k hk => ?_⟩
      · show bX10_layLog_64 q (nI i) = _
        unfold bX10_layLog_64
        simp (disch := omega) only [bd_some, gd_true, inR_nI, nI_clamp, nI_add, pk_mul, pk_sub, leT, leF, ltT, ltF, eqT, eqF, ite_true, ite_false, reduceIte, nz_nI, oc_s, oc_n, pk_div, pk_rem, m1F, L0, L1, L2, L3, L4, L5, L6, L7, L8, L9, L10, L11, L12, L19, L20, L24, L25, L27, L28, L30, L32, L37, L39, L40, L47, L48, L50, L55, L57, L60, L61, L63, L71, L80, L97, L99, L100, L120, L122, L128, L161, L17, L600, L1000000, L1024, L1408, isB0, isB1, subdm, inT, inFl, inFh]
        refine Eq.trans hf ?_
        unfold bX10_layLog_133 bX10_layLog_151 bX10_layLog_167
        simp (disch := omega) only [a1, bd_some, gd_true, inR_nI, nI_clamp, nI_add, pk_mul, pk_sub, leT, leF, ltT, ltF, eqT, eqF, ite_true, ite_false, reduceIte, nz_nI, oc_s, oc_n, pk_div, pk_rem, m1F, L0, L1, L2, L3, L4, L5, L6, L7, L8, L9, L10, L11, L12, L19, L20, L24, L25, L27, L28, L30, L32, L37, L39, L40, L47, L48, L50, L55, L57, L60, L61, L63, L71, L80, L97, L99, L100, L120, L122, L128, L161, L17, L600, L1000000, L1024, L1408, isB0, isB1, subdm, inT, inFl, inFh, ug_same, ug_ug, ug_ne, ga_sae, ga_san, gi_sie, gi_sin, ga_si, gi_sa, gr_si, gr_sa, ga_sr, gi_sr, gr_sre]
      · show upd (ga q 42) (fitS v w i).1 (nI i) j = nI (if j = (fitS v w i).1 then i else (fitS v w i).2 j)
        rw [upd_if]
        by_cases e : j = (fitS v w i).1
        · rw [if_pos e, if_pos e]
        · rw [if_neg e, if_neg e]
          have hj : j < (fitS v w i).1 + 1 := hj
          exact a2 j (by omega)
      · show ga (sa q 42 _) k = _
        rw [ga_san hk]; exact a3 k hk
      · show gi (si _ 43 _) k = _
        rw [gi_sin hk]; exact a4 k hk
    · rw [fitS_neg c]
      have hf := hf.2 c
      refine ⟨(nI (i + 1), si (sa q 42 (upd (ga q 42) (fitS v w i).1 (nI 0))) 43 (nI ((fitS v w i).1 + 0))), ?_, rfl, ⟨rfl, fun j hj => ?_⟩, fun k hk => ?_, fun k hk => ?_⟩
      · show bX10_layLog_64 q (nI i) = _
        unfold bX10_layLog_64
        simp (disch := omega) only [bd_some, gd_true, inR_nI, nI_clamp, nI_add, pk_mul, pk_sub, leT, leF, ltT, ltF, eqT, eqF, ite_true, ite_false, reduceIte, nz_nI, oc_s, oc_n, pk_div, pk_rem, m1F, L0, L1, L2, L3, L4, L5, L6, L7, L8, L9, L10, L11, L12, L19, L20, L24, L25, L27, L28, L30, L32, L37, L39, L40, L47, L48, L50, L55, L57, L60, L61, L63, L71, L80, L97, L99, L100, L120, L122, L128, L161, L17, L600, L1000000, L1024, L1408, isB0, isB1, subdm, inT, inFl, inFh]
        refine Eq.trans hf ?_
        unfold bX10_layLog_133 bX10_layLog_151 bX10_layLog_167
        simp (disch := omega) only [a1, bd_some, gd_true, inR_nI, nI_clamp, nI_add, pk_mul, pk_sub, leT, leF, ltT, ltF, eqT, eqF, ite_true, ite_false, reduceIte, nz_nI, oc_s, oc_n, pk_div, pk_rem, m1F, L0, L1, L2, L3, L4, L5, L6, L7, L8, L9, L10, L11, L12, L19, L20, L24, L25, L27, L28, L30, L32, L37, L39, L40, L47, L48, L50, L55, L57, L60, L61, L63, L71, L80, L97, L99, L100, L120, L122, L128, L161, L17, L600, L1000000, L1024, L1408, isB0, isB1, subdm, inT, inFl, inFh, ug_same, ug_ug, ug_ne, ga_sae, ga_san, gi_sie, gi_sin, ga_si, gi_sa, gr_si, gr_sa, ga_sr, gi_sr, gr_sre]
      · show upd (ga q 42) (fitS v w i).1 (nI 0) j = nI ((fitS v w i).2 j)
        rw [upd_if, if_neg (by omega)]; exact a2 j hj
      · show ga (sa q 42 _) k = _
        rw [ga_san hk]; exact a3 k hk
      · show gi (si _ 43 _) k = _
        rw [gi_sin hk]; exact a4 k hk) (by
    rintro ⟨k, q⟩ ⟨e, a1, a3, a4⟩
    dsimp only at e a1 a3 a4
    subst e
    refine ⟨(q, nI 1), ?_, rfl, a1, a3, a4⟩
    show bX10_layLog_64 q (nI 120) = _
    unfold bX10_layLog_64
    simp (disch := omega) only [bd_some, gd_true, inR_nI, nI_clamp, nI_add, pk_mul, pk_sub, leT, leF, ltT, ltF, eqT, eqF, ite_true, ite_false, reduceIte, nz_nI, oc_s, oc_n, pk_div, pk_rem, m1F, L0, L1, L2, L3, L4, L5, L6, L7, L8, L9, L10, L11, L12, L19, L20, L24, L25, L27, L28, L30, L32, L37, L39, L40, L47, L48, L50, L55, L57, L60, L61, L63, L71, L80, L97, L99, L100, L120, L122, L128, L161, L17, L600, L1000000, L1024, L1408, isB0, isB1, subdm, inT, inFl, inFh]) (s0 := (0, r)) ⟨rfl, ⟨h43, fun j hj => absurd hj (Nat.not_lt_zero j)⟩, fun _ _ => rfl, fun _ _ => rfl⟩
  obtain ⟨x1, x2⟩ := x
  obtain ⟨b0, b1⟩ := h2
  dsimp only at b0 b1
  subst b0
  exact ⟨x1, h1, b1⟩
theorem lay25 {r : Rec} {n m : Nat} {v : Hv} {w : Rv} (ok : HvOK v) (hd : Hd r n v) (hl : LgM r m w) : (lgP v w → iter (fun st : Int32 => bX10_layLog_25 r st) (nI 0) = bX10_layLog_62 r) ∧ (¬ lgP v w → iter (fun st : Int32 => bX10_layLog_25 r st) (nI 0) = some (r, nI 0)) := by
  have hm := hl.1
  have h8 := hl.2.1.1
  have key : ∀ d k, k + d = w.1 → (∀ j, j < k → lp w j < hP v) → (lgP v w → iter (fun st : Int32 => bX10_layLog_25 r st) (nI k) = bX10_layLog_62 r) ∧ (¬ lgP v w → iter (fun st : Int32 => bX10_layLog_25 r st) (nI k) = some (r, nI 0)) := by
    intro d
    induction d with
    | zero =>
      intro k hk hj
      have hk2 : k = w.1 := by omega
      refine ⟨fun _ => iter_out ?_, fun q => absurd (fun j hj2 => hj j (by omega)) q⟩
      show bX10_layLog_25 r (nI k) = _
      unfold bX10_layLog_25
      simp (disch := omega) only [hl.2.2.1, hl.size, bd_some, gd_true, inR_nI, nI_clamp, nI_add, pk_mul, pk_sub, leT, leF, ltT, ltF, eqT, eqF, ite_true, ite_false, reduceIte, nz_nI, oc_s, oc_n, pk_div, pk_rem, m1F, L0, L1, L2, L3, L4, L5, L6, L7, L8, L9, L10, L11, L12, L19, L20, L24, L25, L27, L28, L30, L32, L37, L39, L40, L47, L48, L50, L55, L57, L60, L61, L63, L71, L80, L97, L99, L100, L120, L122, L128, L161, L17, L600, L1000000, L1024, L1408, isB0, isB1, subdm, inT, inFl, inFh]
    | succ d ih =>
      intro k hk hj
      have hkw : k < w.1 := by omega
      have hp8 := (lp_ok hl.2.1 hkw).2
      by_cases c : lp w k < hP v
      · have e : bX10_layLog_25 r (nI k) = some (.inl (nI (k + 1))) := by
          unfold bX10_layLog_25
          simp (disch := omega) only [hl.2.2.1, hl.size, hl.p, isPiece_nI ok hd, if_pos c, bd_some, gd_true, inR_nI, nI_clamp, nI_add, pk_mul, pk_sub, leT, leF, ltT, ltF, eqT, eqF, ite_true, ite_false, reduceIte, nz_nI, oc_s, oc_n, pk_div, pk_rem, m1F, L0, L1, L2, L3, L4, L5, L6, L7, L8, L9, L10, L11, L12, L19, L20, L24, L25, L27, L28, L30, L32, L37, L39, L40, L47, L48, L50, L55, L57, L60, L61, L63, L71, L80, L97, L99, L100, L120, L122, L128, L161, L17, L600, L1000000, L1024, L1408, isB0, isB1, subdm, inT, inFl, inFh]
        rw [iter_step (s := nI k) (s' := nI (k + 1)) e]
        refine ih (k + 1) (by omega) (fun j hj2 => ?_)
        by_cases e2 : j = k
        · rw [e2]; exact c
        · exact hj j (by omega)
      · refine ⟨fun q => absurd (q k hkw) c, fun _ => iter_end ?_⟩
        show bX10_layLog_25 r (nI k) = _
        unfold bX10_layLog_25
        simp (disch := omega) only [hl.2.2.1, hl.size, hl.p, isPiece_nI ok hd, if_neg c, bd_some, gd_true, inR_nI, nI_clamp, nI_add, pk_mul, pk_sub, leT, leF, ltT, ltF, eqT, eqF, ite_true, ite_false, reduceIte, nz_nI, oc_s, oc_n, pk_div, pk_rem, m1F, L0, L1, L2, L3, L4, L5, L6, L7, L8, L9, L10, L11, L12, L19, L20, L24, L25, L27, L28, L30, L32, L37, L39, L40, L47, L48, L50, L55, L57, L60, L61, L63, L71, L80, L97, L99, L100, L120, L122, L128, L161, L17, L600, L1000000, L1024, L1408, isB0, isB1, subdm, inT, inFl, inFh]
  exact key w.1 0 (by omega) (fun j hj => by omega)
