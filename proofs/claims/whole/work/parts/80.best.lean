/-- the first of the greatest so far: number and worth -/
def stp (c : Option (Nat × Nat)) (k y : Nat) : Option (Nat × Nat) := match c with
  | none => some (k, y)
  | some (b, m) => if m < y then some (k, y) else some (b, m)
def eB : Option (Nat × Nat) → Int32
  | none => -nI 1
  | some x => nI x.1
def eM : Option (Nat × Nat) → Int32
  | none => -nI 1
  | some x => nI x.2
/-! dusky -/
def dk (v : Hv) (s p q : Nat) : Nat := min (hl (wv v s p / 2) (hWe v p)) (hl (wv v s q / 2) (hWe v q))
theorem dk_le (v : Hv) (s p q : Nat) : dk v s p q ≤ 60 := by unfold dk; have := hl_le (wv v s p / 2) (hWe v p); omega
def dkI (v : Hv) (s p : Nat) (c : Option (Nat × Nat)) (i : Nat) : Option (Nat × Nat) := fo (fun j c => stp c (10 * p + (p + 1 + j)) (dk v s p (p + 1 + j))) c i
def dkO (v : Hv) (s : Nat) (n : Nat) : Option (Nat × Nat) := fo (fun p c => dkI v s p c (hP v - (p + 1))) none n
def dkG (v : Hv) (s : Nat) (c : Option (Nat × Nat)) : Prop := ∀ x, c = some x → ∃ p q, p < hP v ∧ q < hP v ∧ x = (10 * p + q, dk v s p q)
theorem dkG_stp {v : Hv} {s p q : Nat} {c : Option (Nat × Nat)} (h : dkG v s c) (hp : p < hP v) (hq : q < hP v) : dkG v s (stp c (10 * p + q) (dk v s p q)) := by
  intro x hx
  rcases c with _ | ⟨b, m⟩
  · exact ⟨p, q, hp, hq, (Option.some.inj hx).symm⟩
  · unfold stp at hx
    dsimp only at hx
    by_cases c : m < dk v s p q
    · rw [if_pos c] at hx
      exact ⟨p, q, hp, hq, (Option.some.inj hx).symm⟩
    · rw [if_neg c] at hx
      exact h x hx
theorem dkG_I {v : Hv} {s p : Nat} {c : Option (Nat × Nat)} (h : dkG v s c) (hp : p < hP v) : ∀ i, p + 1 + i ≤ hP v → dkG v s (dkI v s p c i)
  | 0, _ => h
  | i + 1, hi => dkG_stp (dkG_I h hp i (by omega)) hp (by omega)
theorem dkG_O {v : Hv} {s : Nat} : ∀ i, i ≤ hP v → dkG v s (dkO v s i)
  | 0, _ => fun x hx => by cases hx
  | i + 1, hi => dkG_I (dkG_O i (by omega)) (by omega) _ (by omega)
theorem dkG_b {v : Hv} (ok : HvOK v) {s : Nat} {b m : Nat} (h : dkG v s (some (b, m))) : b < 80 ∧ m ≤ 60 := by
  have hP8 := ok.1
  obtain ⟨p, q, hp, hq, e⟩ := h _ rfl
  have e1 : b = 10 * p + q := congrArg Prod.fst e
  have e2 : m = dk v s p q := congrArg Prod.snd e
  have := dk_le v s p q
  omega
theorem duskHours_nI {h : Rec} {v : Hv} (ok : HvOK v) (hx : HX h v) {s p q : Nat} (hs : s < hS v) (hp : p < hP v) (hq : q < hP v) : fX2_duskHours h (nI s) (nI p) (nI q) = some (nI (dk v s p q)) := by
  have hP8 := ok.1
  have h1 := wv_le ok hs (p := p)
  have h2 := wv_le ok hs (p := q)
  have h3 := we_le ok hp
  have h4 := we_le ok hq
  have h5 := hl_le (wv v s p / 2) (hWe v p)
  have h6 := hl_le (wv v s q / 2) (hWe v q)
  unfold fX2_duskHours fX2_hasPiece
  simp (disch := omega) only [hx.P, hx.we, worthTo_nI ok hx, hoursLeft_nI, mn_nI, dk, bd_some, gd_true, inR_nI, nI_clamp, nI_add, pk_mul, pk_sub, leT, leF, ltT, ltF, eqT, eqF, ite_true, ite_false, reduceIte, nz_nI, oc_s, oc_n, pk_div, pk_rem, m1F, L0, L1, L2, L3, L4, L5, L6, L7, L8, L9, L10, L11, L12, L19, L20, L24, L25, L27, L28, L30, L32, L37, L39, L40, L47, L48, L50, L55, L57, L60, L61, L63, L71, L80, L97, L99, L100, L120, L122, L128, L161, L17, L600, L1000000, L1024, L1408, isB0, isB1, subdm, inT, inFl, inFh]
theorem dkX_in {h : Rec} {v : Hv} (ok : HvOK v) (hx : HX h v) {s p : Nat} (hs : s < hS v) (hp : p < hP v) {c : Option (Nat × Nat)} (hc : dkG v s c) : iter (fun st : Int32 × Int32 × Int32 => bX2_duskiestCouple_22 h (nI s) st.1 st.2.1 (nI p) st.2.2) (eB c, eM c, nI (p + 1)) = some (.inl (eB (dkI v s p c (hP v - (p + 1))), eM (dkI v s p c (hP v - (p + 1))), nI (p + 1))) := by
  have hP8 := ok.1
  refine loopO (step := fun st : Int32 × Int32 × Int32 => bX2_duskiestCouple_22 h (nI s) st.1 st.2.1 (nI p) st.2.2) (fun i => (eB (dkI v s p c i), eM (dkI v s p c i), nI (p + 1 + i))) (hP v - (p + 1)) (fun i hi => ?_) ?_
  · show bX2_duskiestCouple_22 h (nI s) (eB (dkI v s p c i)) (eM (dkI v s p c i)) (nI p) (nI (p + 1 + i)) = some (.inl (eB (stp (dkI v s p c i) (10 * p + (p + 1 + i)) (dk v s p (p + 1 + i))), eM (stp (dkI v s p c i) (10 * p + (p + 1 + i)) (dk v s p (p + 1 + i))), nI (p + 1 + i + 1)))
    have hg := dkG_I hc hp i (by omega)
    have h1 := dk_le v s p (p + 1 + i)
    unfold bX2_duskiestCouple_22 bX2_duskiestCouple_60
    generalize dkI v s p c i = d at hg ⊢
    rcases d with _ | ⟨b, m⟩
    · simp (disch := omega) only [hx.P, duskHours_nI ok hx, eB, eM, stp, m1le, bd_some, gd_true, inR_nI, nI_clamp, nI_add, pk_mul, pk_sub, leT, leF, ltT, ltF, eqT, eqF, ite_true, ite_false, reduceIte, nz_nI, oc_s, oc_n, pk_div, pk_rem, m1F, L0, L1, L2, L3, L4, L5, L6, L7, L8, L9, L10, L11, L12, L19, L20, L24, L25, L27, L28, L30, L32, L37, L39, L40, L47, L48, L50, L55, L57, L60, L61, L63, L71, L80, L97, L99, L100, L120, L122, L128, L161, L17, L600, L1000000, L1024, L1408, isB0, isB1, subdm, inT, inFl, inFh]
    · have h2 := dkG_b ok hg
      by_cases k : m < dk v s p (p + 1 + i)
      · simp (disch := omega) only [hx.P, duskHours_nI ok hx, eB, eM, stp, k, bd_some, gd_true, inR_nI, nI_clamp, nI_add, pk_mul, pk_sub, leT, leF, ltT, ltF, eqT, eqF, ite_true, ite_false, reduceIte, nz_nI, oc_s, oc_n, pk_div, pk_rem, m1F, L0, L1, L2, L3, L4, L5, L6, L7, L8, L9, L10, L11, L12, L19, L20, L24, L25, L27, L28, L30, L32, L37, L39, L40, L47, L48, L50, L55, L57, L60, L61, L63, L71, L80, L97, L99, L100, L120, L122, L128, L161, L17, L600, L1000000, L1024, L1408, isB0, isB1, subdm, inT, inFl, inFh]
      · simp (disch := omega) only [hx.P, duskHours_nI ok hx, eB, eM, stp, k, bd_some, gd_true, inR_nI, nI_clamp, nI_add, pk_mul, pk_sub, leT, leF, ltT, ltF, eqT, eqF, ite_true, ite_false, reduceIte, nz_nI, oc_s, oc_n, pk_div, pk_rem, m1F, L0, L1, L2, L3, L4, L5, L6, L7, L8, L9, L10, L11, L12, L19, L20, L24, L25, L27, L28, L30, L32, L37, L39, L40, L47, L48, L50, L55, L57, L60, L61, L63, L71, L80, L97, L99, L100, L120, L122, L128, L161, L17, L600, L1000000, L1024, L1408, isB0, isB1, subdm, inT, inFl, inFh]
  · show bX2_duskiestCouple_22 h (nI s) _ _ (nI p) (nI (p + 1 + (hP v - (p + 1)))) = _
    rw [show p + 1 + (hP v - (p + 1)) = hP v by omega]
    unfold bX2_duskiestCouple_22 bX2_duskiestCouple_66
    simp (disch := omega) only [hx.P, bd_some, gd_true, inR_nI, nI_clamp, nI_add, pk_mul, pk_sub, leT, leF, ltT, ltF, eqT, eqF, ite_true, ite_false, reduceIte, nz_nI, oc_s, oc_n, pk_div, pk_rem, m1F, L0, L1, L2, L3, L4, L5, L6, L7, L8, L9, L10, L11, L12, L19, L20, L24, L25, L27, L28, L30, L32, L37, L39, L40, L47, L48, L50, L55, L57, L60, L61, L63, L71, L80, L97, L99, L100, L120, L122, L128, L161, L17, L600, L1000000, L1024, L1408, isB0, isB1, subdm, inT, inFl, inFh]
    all_goals rfl
theorem duskiestCouple_nI {h : Rec} {v : Hv} (ok : HvOK v) (hx : HX h v) {s : Nat} (hs : s < hS v) : fX2_duskiestCouple h (nI s) = some (eB (dkO v s (hP v))) := by
  have hP8 := ok.1
  unfold fX2_duskiestCouple
  refine loopO (step := fun st : Int32 × Int32 × Int32 => bX2_duskiestCouple_7 h (nI s) st.1 st.2.1 st.2.2) (fun i => (eB (dkO v s i), eM (dkO v s i), nI i)) (hP v) (fun i hi => ?_) ?_
  · show bX2_duskiestCouple_7 h (nI s) (eB (dkO v s i)) (eM (dkO v s i)) (nI i) = _
    unfold bX2_duskiestCouple_7
    simp (disch := omega) only [hx.P, dkX_in ok hx hs hi (dkG_O i (by omega)), bd_some, gd_true, inR_nI, nI_clamp, nI_add, pk_mul, pk_sub, leT, leF, ltT, ltF, eqT, eqF, ite_true, ite_false, reduceIte, nz_nI, oc_s, oc_n, pk_div, pk_rem, m1F, L0, L1, L2, L3, L4, L5, L6, L7, L8, L9, L10, L11, L12, L19, L20, L24, L25, L27, L28, L30, L32, L37, L39, L40, L47, L48, L50, L55, L57, L60, L61, L63, L71, L80, L97, L99, L100, L120, L122, L128, L161, L17, L600, L1000000, L1024, L1408, isB0, isB1, subdm, inT, inFl, inFh]
    all_goals rfl
  · show bX2_duskiestCouple_7 h (nI s) _ _ (nI (hP v)) = _
    unfold bX2_duskiestCouple_7
    simp (disch := omega) only [hx.P, bd_some, gd_true, inR_nI, nI_clamp, nI_add, pk_mul, pk_sub, leT, leF, ltT, ltF, eqT, eqF, ite_true, ite_false, reduceIte, nz_nI, oc_s, oc_n, pk_div, pk_rem, m1F, L0, L1, L2, L3, L4, L5, L6, L7, L8, L9, L10, L11, L12, L19, L20, L24, L25, L27, L28, L30, L32, L37, L39, L40, L47, L48, L50, L55, L57, L60, L61, L63, L71, L80, L97, L99, L100, L120, L122, L128, L161, L17, L600, L1000000, L1024, L1408, isB0, isB1, subdm, inT, inFl, inFh]
    all_goals rfl
theorem dkM_in {r : Rec} {n : Nat} {v : Hv} (ok : HvOK v) (hd : Hd r n v) {s p : Nat} (hs : s < hS v) (hp : p < hP v) (a3 : Int32) {c : Option (Nat × Nat)} (hc : dkG v s c) : iter (fun st : Int32 × Int32 × Int32 => bX10_dusky_55 r (nI s) a3 st.1 st.2.1 (nI p) st.2.2) (eB c, eM c, nI (p + 1)) = some (.inl (eB (dkI v s p c (hP v - (p + 1))), eM (dkI v s p c (hP v - (p + 1))), nI (p + 1))) := by
  have hP8 := ok.1
  refine loopO (step := fun st : Int32 × Int32 × Int32 => bX10_dusky_55 r (nI s) a3 st.1 st.2.1 (nI p) st.2.2) (fun i => (eB (dkI v s p c i), eM (dkI v s p c i), nI (p + 1 + i))) (hP v - (p + 1)) (fun i hi => ?_) ?_
  · show bX10_dusky_55 r (nI s) a3 (eB (dkI v s p c i)) (eM (dkI v s p c i)) (nI p) (nI (p + 1 + i)) = some (.inl (eB (stp (dkI v s p c i) (10 * p + (p + 1 + i)) (dk v s p (p + 1 + i))), eM (stp (dkI v s p c i) (10 * p + (p + 1 + i)) (dk v s p (p + 1 + i))), nI (p + 1 + i + 1)))
    have hg := dkG_I hc hp i (by omega)
    have h1 := dk_le v s p (p + 1 + i)
    have k1 := wv_le ok hs (p := p)
    have k2 := wv_le ok hs (p := p + 1 + i)
    have k3 := we_le ok hp
    have k4 := we_le ok (p := p + 1 + i) (by omega)
    have k5 := hl_le (wv v s p / 2) (hWe v p)
    have k6 := hl_le (wv v s (p + 1 + i) / 2) (hWe v (p + 1 + i))
    have e : ∀ q, min (hl (wv v s p / 2) (hWe v p)) (hl (wv v s q / 2) (hWe v q)) = dk v s p q := fun _ => rfl
    unfold bX10_dusky_55 bX10_dusky_127
    generalize dkI v s p c i = d at hg ⊢
    rcases d with _ | ⟨b, m⟩
    · simp (disch := omega) only [hd.P, worthNow_nI ok hd, wear_nI hd, lastsFor_nI, ls_nI, e, eB, eM, stp, m1le, gr_m1, bd_some, gd_true, inR_nI, nI_clamp, nI_add, pk_mul, pk_sub, leT, leF, ltT, ltF, eqT, eqF, ite_true, ite_false, reduceIte, nz_nI, oc_s, oc_n, pk_div, pk_rem, m1F, L0, L1, L2, L3, L4, L5, L6, L7, L8, L9, L10, L11, L12, L19, L20, L24, L25, L27, L28, L30, L32, L37, L39, L40, L47, L48, L50, L55, L57, L60, L61, L63, L71, L80, L97, L99, L100, L120, L122, L128, L161, L17, L600, L1000000, L1024, L1408, isB0, isB1, subdm, inT, inFl, inFh]
    · have h2 := dkG_b ok hg
      by_cases k : m < dk v s p (p + 1 + i)
      · simp (disch := omega) only [hd.P, worthNow_nI ok hd, wear_nI hd, lastsFor_nI, ls_nI, e, eB, eM, stp, k, gr_nI, Nat.max_eq_right, bd_some, gd_true, inR_nI, nI_clamp, nI_add, pk_mul, pk_sub, leT, leF, ltT, ltF, eqT, eqF, ite_true, ite_false, reduceIte, nz_nI, oc_s, oc_n, pk_div, pk_rem, m1F, L0, L1, L2, L3, L4, L5, L6, L7, L8, L9, L10, L11, L12, L19, L20, L24, L25, L27, L28, L30, L32, L37, L39, L40, L47, L48, L50, L55, L57, L60, L61, L63, L71, L80, L97, L99, L100, L120, L122, L128, L161, L17, L600, L1000000, L1024, L1408, isB0, isB1, subdm, inT, inFl, inFh]
      · simp (disch := omega) only [hd.P, worthNow_nI ok hd, wear_nI hd, lastsFor_nI, ls_nI, e, eB, eM, stp, k, gr_nI, Nat.max_eq_left, bd_some, gd_true, inR_nI, nI_clamp, nI_add, pk_mul, pk_sub, leT, leF, ltT, ltF, eqT, eqF, ite_true, ite_false, reduceIte, nz_nI, oc_s, oc_n, pk_div, pk_rem, m1F, L0, L1, L2, L3, L4, L5, L6, L7, L8, L9, L10, L11, L12, L19, L20, L24, L25, L27, L28, L30, L32, L37, L39, L40, L47, L48, L50, L55, L57, L60, L61, L63, L71, L80, L97, L99, L100, L120, L122, L128, L161, L17, L600, L1000000, L1024, L1408, isB0, isB1, subdm, inT, inFl, inFh]
  · show bX10_dusky_55 r (nI s) a3 _ _ (nI p) (nI (p + 1 + (hP v - (p + 1)))) = _
    rw [show p + 1 + (hP v - (p + 1)) = hP v by omega]
    unfold bX10_dusky_55 bX10_dusky_144
    simp (disch := omega) only [hd.P, bd_some, gd_true, inR_nI, nI_clamp, nI_add, pk_mul, pk_sub, leT, leF, ltT, ltF, eqT, eqF, ite_true, ite_false, reduceIte, nz_nI, oc_s, oc_n, pk_div, pk_rem, m1F, L0, L1, L2, L3, L4, L5, L6, L7, L8, L9, L10, L11, L12, L19, L20, L24, L25, L27, L28, L30, L32, L37, L39, L40, L47, L48, L50, L55, L57, L60, L61, L63, L71, L80, L97, L99, L100, L120, L122, L128, L161, L17, L600, L1000000, L1024, L1408, isB0, isB1, subdm, inT, inFl, inFh]
    all_goals rfl
theorem dkM {r : Rec} {n : Nat} {v : Hv} (ok : HvOK v) (hd : Hd r n v) {s : Nat} (hs : s < hS v) (a3 : Int32) : iter (fun st : Int32 × Int32 × Int32 => bX10_dusky_40 r (nI s) a3 st.1 st.2.1 st.2.2) (-nI 1, -nI 1, nI 0) = bX10_dusky_150 r a3 (eB (dkO v s (hP v))) (eM (dkO v s (hP v))) := by
  have hP8 := ok.1
  refine loopO (step := fun st : Int32 × Int32 × Int32 => bX10_dusky_40 r (nI s) a3 st.1 st.2.1 st.2.2) (fun i => (eB (dkO v s i), eM (dkO v s i), nI i)) (hP v) (fun i hi => ?_) ?_
  · show bX10_dusky_40 r (nI s) a3 (eB (dkO v s i)) (eM (dkO v s i)) (nI i) = _
    unfold bX10_dusky_40
    simp (disch := omega) only [hd.P, dkM_in ok hd hs hi a3 (dkG_O i (by omega)), bd_some, gd_true, inR_nI, nI_clamp, nI_add, pk_mul, pk_sub, leT, leF, ltT, ltF, eqT, eqF, ite_true, ite_false, reduceIte, nz_nI, oc_s, oc_n, pk_div, pk_rem, m1F, L0, L1, L2, L3, L4, L5, L6, L7, L8, L9, L10, L11, L12, L19, L20, L24, L25, L27, L28, L30, L32, L37, L39, L40, L47, L48, L50, L55, L57, L60, L61, L63, L71, L80, L97, L99, L100, L120, L122, L128, L161, L17, L600, L1000000, L1024, L1408, isB0, isB1, subdm, inT, inFl, inFh]
    all_goals rfl
  · show bX10_dusky_40 r (nI s) a3 _ _ (nI (hP v)) = _
    unfold bX10_dusky_40
    simp (disch := omega) only [hd.P, bd_some, gd_true, inR_nI, nI_clamp, nI_add, pk_mul, pk_sub, leT, leF, ltT, ltF, eqT, eqF, ite_true, ite_false, reduceIte, nz_nI, oc_s, oc_n, pk_div, pk_rem, m1F, L0, L1, L2, L3, L4, L5, L6, L7, L8, L9, L10, L11, L12, L19, L20, L24, L25, L27, L28, L30, L32, L37, L39, L40, L47, L48, L50, L55, L57, L60, L61, L63, L71, L80, L97, L99, L100, L120, L122, L128, L161, L17, L600, L1000000, L1024, L1408, isB0, isB1, subdm, inT, inFl, inFh]
theorem dkO_some {v : Hv} {s : Nat} (h : 2 ≤ hP v) : ∃ p q, p < hP v ∧ q < hP v ∧ dkO v s (hP v) = some (10 * p + q, dk v s p q) := by
  have stp_some : ∀ c k y, stp c k y ≠ none := by
    intro c k y
    rcases c with _ | ⟨b, m⟩
    · intro h; cases h
    · unfold stp
      dsimp only
      split <;> (intro h; cases h)
  have hI : ∀ c p i, (c ≠ none ∨ 0 < i) → dkI v s p c i ≠ none := by
    intro c p i hi
    cases i with
    | zero => exact hi.elim id (fun h => by omega)
    | succ i => exact stp_some _ _ _
  have hO : ∀ i, 0 < i → i ≤ hP v → dkO v s i ≠ none := by
    intro i
    induction i with
    | zero => intro h; omega
    | succ i ih =>
      intro _ h2
      by_cases e : i = 0
      · subst e; exact hI none 0 (hP v - (0 + 1)) (Or.inr (by omega))
      · exact hI _ _ _ (Or.inl (ih (by omega) (by omega)))
  cases e : dkO v s (hP v) with
  | none => exact absurd e (hO _ (by omega) (Nat.le_refl _))
  | some x =>
    obtain ⟨p, q, hp, hq, e2⟩ := dkG_O (v := v) (s := s) (hP v) (Nat.le_refl _) x e
    exact ⟨p, q, hp, hq, by rw [e2]⟩
theorem ob_dusky : Ob_dusky Inv := by
  intro g a1 a2 a3 hI h4
  rcases house_cases hI a1 with ⟨h1, h2⟩ | ⟨n, v, hn, rfl, ok, hx, h1, h2, h3⟩
  · have h2 := h2 _ (m0 _)
    refine ⟨-1, _, ?_, ?_, hI.keep (XP.rf hI.1) (m0 _)⟩
    · unfold fX9_dusky; simp (disch := omega) only [h1, bd_some, gd_true, inR_nI, nI_clamp, nI_add, pk_mul, pk_sub, leT, leF, ltT, ltF, eqT, eqF, ite_true, ite_false, reduceIte, nz_nI, oc_s, oc_n, pk_div, pk_rem, m1F, L0, L1, L2, L3, L4, L5, L6, L7, L8, L9, L10, L11, L12, L19, L20, L24, L25, L27, L28, L30, L32, L37, L39, L40, L47, L48, L50, L55, L57, L60, L61, L63, L71, L80, L97, L99, L100, L120, L122, L128, L161, L17, L600, L1000000, L1024, L1408, isB0, isB1, subdm, inT, inFl, inFh]
    · unfold fX10_dusky; simp (disch := omega) only [h2, bd_some, gd_true, inR_nI, nI_clamp, nI_add, pk_mul, pk_sub, leT, leF, ltT, ltF, eqT, eqF, ite_true, ite_false, reduceIte, nz_nI, oc_s, oc_n, pk_div, pk_rem, m1F, L0, L1, L2, L3, L4, L5, L6, L7, L8, L9, L10, L11, L12, L19, L20, L24, L25, L27, L28, L30, L32, L37, L39, L40, L47, L48, L50, L55, L57, L60, L61, L63, L71, L80, L97, L99, L100, L120, L122, L128, L161, L17, L600, L1000000, L1024, L1408, isB0, isB1, subdm, inT, inFl, inFh]
  · obtain ⟨r', e1, hd, m1⟩ := h3 _ (m0 _)
    have hP8 := ok.1
    have hS10 := ok.2.1
    rcases secret_cases hx.S hd.S hS10 a2 with ⟨s1, s2⟩ | ⟨s, hs, rfl, s1, s2⟩
    · refine ⟨-1, r', ?_, ?_, hI.keep (XP.rf hI.1) ((m0 _).tr m1)⟩
      · unfold fX9_dusky; simp (disch := omega) only [h1, h2, s1, bd_some, gd_true, inR_nI, nI_clamp, nI_add, pk_mul, pk_sub, leT, leF, ltT, ltF, eqT, eqF, ite_true, ite_false, reduceIte, nz_nI, oc_s, oc_n, pk_div, pk_rem, m1F, L0, L1, L2, L3, L4, L5, L6, L7, L8, L9, L10, L11, L12, L19, L20, L24, L25, L27, L28, L30, L32, L37, L39, L40, L47, L48, L50, L55, L57, L60, L61, L63, L71, L80, L97, L99, L100, L120, L122, L128, L161, L17, L600, L1000000, L1024, L1408, isB0, isB1, subdm, inT, inFl, inFh]
      · unfold fX10_dusky; simp (disch := omega) only [e1, s2, bd_some, gd_true, inR_nI, nI_clamp, nI_add, pk_mul, pk_sub, leT, leF, ltT, ltF, eqT, eqF, ite_true, ite_false, reduceIte, nz_nI, oc_s, oc_n, pk_div, pk_rem, m1F, L0, L1, L2, L3, L4, L5, L6, L7, L8, L9, L10, L11, L12, L19, L20, L24, L25, L27, L28, L30, L32, L37, L39, L40, L47, L48, L50, L55, L57, L60, L61, L63, L71, L80, L97, L99, L100, L120, L122, L128, L161, L17, L600, L1000000, L1024, L1408, isB0, isB1, subdm, inT, inFl, inFh]
    · by_cases c : hP v < 2
      · refine ⟨-1, r', ?_, ?_, hI.keep (XP.rf hI.1) ((m0 _).tr m1)⟩
        · unfold fX9_dusky; simp (disch := omega) only [h1, h2, s1, hx.P, bd_some, gd_true, inR_nI, nI_clamp, nI_add, pk_mul, pk_sub, leT, leF, ltT, ltF, eqT, eqF, ite_true, ite_false, reduceIte, nz_nI, oc_s, oc_n, pk_div, pk_rem, m1F, L0, L1, L2, L3, L4, L5, L6, L7, L8, L9, L10, L11, L12, L19, L20, L24, L25, L27, L28, L30, L32, L37, L39, L40, L47, L48, L50, L55, L57, L60, L61, L63, L71, L80, L97, L99, L100, L120, L122, L128, L161, L17, L600, L1000000, L1024, L1408, isB0, isB1, subdm, inT, inFl, inFh]
        · unfold fX10_dusky; simp (disch := omega) only [e1, s2, hd.P, bd_some, gd_true, inR_nI, nI_clamp, nI_add, pk_mul, pk_sub, leT, leF, ltT, ltF, eqT, eqF, ite_true, ite_false, reduceIte, nz_nI, oc_s, oc_n, pk_div, pk_rem, m1F, L0, L1, L2, L3, L4, L5, L6, L7, L8, L9, L10, L11, L12, L19, L20, L24, L25, L27, L28, L30, L32, L37, L39, L40, L47, L48, L50, L55, L57, L60, L61, L63, L71, L80, L97, L99, L100, L120, L122, L128, L161, L17, L600, L1000000, L1024, L1408, isB0, isB1, subdm, inT, inFl, inFh]
      · obtain ⟨p, q, hp, hq, e⟩ := dkO_some (v := v) (s := s) (by omega)
        refine ⟨if a3 = 0 then nI (10 * p + q) else nI (dk v s p q), r', ?_, ?_, hI.keep (XP.rf hI.1) ((m0 _).tr m1)⟩
        · unfold fX9_dusky
          rcases h4 with rfl | rfl
          · simp (disch := omega) only [h1, h2, s1, hx.P, duskiestCouple_nI ok hx, e, eB, bd_some, gd_true, inR_nI, nI_clamp, nI_add, pk_mul, pk_sub, leT, leF, ltT, ltF, eqT, eqF, ite_true, ite_false, reduceIte, nz_nI, oc_s, oc_n, pk_div, pk_rem, m1F, L0, L1, L2, L3, L4, L5, L6, L7, L8, L9, L10, L11, L12, L19, L20, L24, L25, L27, L28, L30, L32, L37, L39, L40, L47, L48, L50, L55, L57, L60, L61, L63, L71, L80, L97, L99, L100, L120, L122, L128, L161, L17, L600, L1000000, L1024, L1408, isB0, isB1, subdm, inT, inFl, inFh]
          · simp (disch := omega) only [h1, h2, s1, hx.P, duskiestCouple_nI ok hx, e, eB, show (10 * p + q) / 10 = p by omega, show 10 * p + q - p * 10 = q by omega, duskHours_nI ok hx, bd_some, gd_true, inR_nI, nI_clamp, nI_add, pk_mul, pk_sub, leT, leF, ltT, ltF, eqT, eqF, ite_true, ite_false, reduceIte, nz_nI, oc_s, oc_n, pk_div, pk_rem, m1F, L0, L1, L2, L3, L4, L5, L6, L7, L8, L9, L10, L11, L12, L19, L20, L24, L25, L27, L28, L30, L32, L37, L39, L40, L47, L48, L50, L55, L57, L60, L61, L63, L71, L80, L97, L99, L100, L120, L122, L128, L161, L17, L600, L1000000, L1024, L1408, isB0, isB1, subdm, inT, inFl, inFh]
        · unfold fX10_dusky
          rcases h4 with rfl | rfl
          · simp (disch := omega) only [e1, s2, hd.P, dkM ok hd, e, eB, eM, bX10_dusky_150, bd_some, gd_true, inR_nI, nI_clamp, nI_add, pk_mul, pk_sub, leT, leF, ltT, ltF, eqT, eqF, ite_true, ite_false, reduceIte, nz_nI, oc_s, oc_n, pk_div, pk_rem, m1F, L0, L1, L2, L3, L4, L5, L6, L7, L8, L9, L10, L11, L12, L19, L20, L24, L25, L27, L28, L30, L32, L37, L39, L40, L47, L48, L50, L55, L57, L60, L61, L63, L71, L80, L97, L99, L100, L120, L122, L128, L161, L17, L600, L1000000, L1024, L1408, isB0, isB1, subdm, inT, inFl, inFh]
          · simp (disch := omega) only [e1, s2, hd.P, dkM ok hd, e, eB, eM, bX10_dusky_150, bd_some, gd_true, inR_nI, nI_clamp, nI_add, pk_mul, pk_sub, leT, leF, ltT, ltF, eqT, eqF, ite_true, ite_false, reduceIte, nz_nI, oc_s, oc_n, pk_div, pk_rem, m1F, L0, L1, L2, L3, L4, L5, L6, L7, L8, L9, L10, L11, L12, L19, L20, L24, L25, L27, L28, L30, L32, L37, L39, L40, L47, L48, L50, L55, L57, L60, L61, L63, L71, L80, L97, L99, L100, L120, L122, L128, L161, L17, L600, L1000000, L1024, L1408, isB0, isB1, subdm, inT, inFl, inFh]
