theorem L121 : (121 : Int32) = nI 121 := rfl
def akC (v : Hv) (f : Nat → Nat) (p N x : Nat) : Nat := sm (fun k => if stv v (f k) p = x then 1 else 0) N
def akM (v : Hv) (f : Nat → Nat) (p : Nat) : Nat → Nat
  | 0 => 0
  | N + 1 => max (akM v f p N) (akC v f p (N + 1) (stv v (f N) p))
theorem akC_le (v : Hv) (f : Nat → Nat) (p N x : Nat) : akC v f p N x ≤ N := by
  have := sm_le (f := fun k => if stv v (f k) p = x then 1 else 0) (c := 1) (n := N) (fun i _ => by split <;> omega)
  unfold akC
  omega
theorem akM_le (v : Hv) (f : Nat → Nat) (p : Nat) : ∀ N, akM v f p N ≤ N
  | 0 => Nat.le_refl _
  | N + 1 => by
    have h1 := akM_le v f p N
    have h2 := akC_le v f p (N + 1) (stv v (f N) p)
    show max (akM v f p N) (akC v f p (N + 1) (stv v (f N) p)) ≤ N + 1
    omega
theorem akC_s (v : Hv) (f : Nat → Nat) (p i : Nat) : akC v f p (i + 1) (stv v (f i) p) = akC v f p i (stv v (f i) p) + 1 := by
  show sm _ i + (if stv v (f i) p = stv v (f i) p then 1 else 0) = _
  rw [if_pos rfl]
  rfl
theorem akC_n {v : Hv} {f : Nat → Nat} {p i x : Nat} (h : x ≠ stv v (f i) p) : akC v f p (i + 1) x = akC v f p i x := by
  show sm _ i + (if stv v (f i) p = x then 1 else 0) = _
  rw [if_neg (fun q => h q.symm)]
  rfl
theorem mostAlike_nI {g : Gs} {u : Nat} {v : Hv} (ok : HvOK v) (hx : HX (g u) v) (hu : u ≠ 101) {N p : Nat} {f : Nat → Nat} (hf : fiX g N f) (hN : N ≤ 120) (hf2 : ∀ j, j < N → f j < 120) (hp : p < hP v) : ∃ g', fX1_mostAlike g u (nI p) = some (g', nI (akM v f p N)) ∧ (∀ o, o ≠ 101 → g' o = g o) ∧ fiX g' N f := by
  have hP8 := ok.1
  obtain ⟨a1, a2⟩ := hf
  unfold fX1_mostAlike
  rw [bd_some]
  obtain ⟨x, h1, h2⟩ := iter_loop (step := fun st : Int32 × Int32 × Gs => bX1_mostAlike_13 st.2.2 u (nI p) st.1 st.2.1) (fun i st => st.1 = nI (akM v f p i) ∧ st.2.1 = nI i ∧ (∀ o, o ≠ 101 → st.2.2 o = g o) ∧ fiX st.2.2 N f ∧ ∀ x, x ≤ 60 → ga (st.2.2 101) 2 x = nI (akC v f p i x)) (fun x => x.2 = nI (akM v f p N) ∧ (∀ o, o ≠ 101 → x.1 o = g o) ∧ fiX x.1 N f) N (by
    rintro i ⟨y1, y2, G⟩ hi ⟨b1, b2, b3, ⟨b4, b5⟩, b6⟩
    dsimp only at b1 b2 b3 b4 b5 b6
    subst b1
    subst b2
    have hxG : HX (G u) v := by rw [b3 u hu]; exact hx
    have hc := hf2 i hi
    have hfi := b5 i hi
    have hst := stv_le v (f i) p
    have hct := b6 _ hst
    have hl1 := akC_le v f p i (stv v (f i) p)
    have hl2 := akM_le v f p i
    have hht := hoursTold_nI ok hxG hc hp
    have emo : akM v f p (i + 1) = max (akM v f p i) (akC v f p i (stv v (f i) p) + 1) := by
      show max (akM v f p i) (akC v f p (i + 1) (stv v (f i) p)) = _
      rw [akC_s]
    refine ⟨(nI (akM v f p (i + 1)), nI (i + 1), ug G 101 (sa (G 101) 2 (upd (ga (G 101) 2) (stv v (f i) p) (nI (akC v f p i (stv v (f i) p) + 1))))), ?_, rfl, rfl, fun o ho => ?_, ⟨?_, fun j hj => ?_⟩, fun x hx60 => ?_⟩
    · show bX1_mostAlike_13 G u (nI p) (nI (akM v f p i)) (nI i) = _
      rw [emo]
      unfold bX1_mostAlike_13 bX1_mostAlike_71
      simp (disch := omega) only [b4, hfi, hht, hct, pk_us, mx_nI, bd_some, gd_true, inR_nI, nI_clamp, nI_add, pk_mul, pk_sub, leT, leF, ltT, ltF, eqT, eqF, ite_true, ite_false, reduceIte, nz_nI, oc_s, oc_n, pk_div, pk_rem, m1F, L0, L1, L2, L3, L4, L5, L6, L7, L8, L9, L10, L11, L12, L19, L20, L24, L25, L27, L28, L30, L32, L37, L39, L40, L47, L48, L50, L55, L57, L60, L61, L63, L71, L80, L97, L99, L100, L120, L122, L128, L161, L17, L600, L1000000, L1024, L1408, isB0, isB1, subdm, inT, inFl, inFh, ug_same, ug_ug, ug_ne, ga_sae, ga_san, gi_sie, gi_sin, ga_si, gi_sa, gr_si, gr_sa, ga_sr, gi_sr, gr_sre]
    · dsimp only
      rw [ug_ne ho]; exact b3 o ho
    · dsimp only
      rw [ug_same]; exact b4
    · dsimp only
      rw [ug_same, ga_san (by decide)]; exact b5 j hj
    · dsimp only
      rw [ug_same, ga_sae, upd_if]
      by_cases c : x = stv v (f i) p
      · rw [if_pos c, c, akC_s]
      · rw [if_neg c, akC_n c]; exact b6 x hx60) (by
    rintro ⟨y1, y2, G⟩ ⟨b1, b2, b3, ⟨b4, b5⟩, b6⟩
    dsimp only at b1 b2 b3 b4 b5 b6
    subst b1
    subst b2
    refine ⟨(G, nI (akM v f p N)), ?_, rfl, b3, b4, b5⟩
    show bX1_mostAlike_13 G u (nI p) (nI (akM v f p N)) (nI N) = _
    unfold bX1_mostAlike_13
    simp (disch := omega) only [b4, bd_some, gd_true, inR_nI, nI_clamp, nI_add, pk_mul, pk_sub, leT, leF, ltT, ltF, eqT, eqF, ite_true, ite_false, reduceIte, nz_nI, oc_s, oc_n, pk_div, pk_rem, m1F, L0, L1, L2, L3, L4, L5, L6, L7, L8, L9, L10, L11, L12, L19, L20, L24, L25, L27, L28, L30, L32, L37, L39, L40, L47, L48, L50, L55, L57, L60, L61, L63, L71, L80, L97, L99, L100, L120, L122, L128, L161, L17, L600, L1000000, L1024, L1408, isB0, isB1, subdm, inT, inFl, inFh]) (s0 := ((0 : Int32), (0 : Int32), ug g 101 (sa (g 101) 2 (fl 61 0 (ga (g 101) 2))))) ⟨rfl, rfl, fun o ho => ug_ne ho, ⟨by dsimp only; rw [ug_same]; exact a1, fun j hj => by dsimp only; rw [ug_same, ga_san (by decide)]; exact a2 j hj⟩, fun x hx60 => by
      dsimp only
      rw [ug_same, ga_sae]
      show (if x < 61 then (0 : Int32) else _) = _
      rw [if_pos (by omega)]
      rfl⟩
  obtain ⟨x1, x2⟩ := x
  obtain ⟨b0, b1⟩ := h2
  dsimp only at b0 b1
  subst b0
  exact ⟨x1, h1, b1⟩
def stm (c : Option (Nat × Nat)) (p y : Nat) : Option (Nat × Nat) := match c with
  | none => some (p, y)
  | some (b, l) => if y < l then some (p, y) else some (b, l)
def akS (v : Hv) (f : Nat → Nat) (N : Nat) (n : Nat) : Option (Nat × Nat) := fo (fun p c => stm c p (akM v f p N)) none n
def eL (L : Nat) : Option (Nat × Nat) → Int32
  | none => nI L
  | some (_, l) => nI l
def eBk : Option (Nat × Nat) → Int32
  | none => -nI 1
  | some (b, _) => nI b
theorem akS_b {v : Hv} {f : Nat → Nat} {N : Nat} : ∀ n b l, akS v f N n = some (b, l) → b < n ∧ l ≤ N
  | 0, b, l, h => by cases h
  | n + 1, b, l, h => by
    have h : stm (akS v f N n) n (akM v f n N) = some (b, l) := h
    have hm := akM_le v f n N
    cases c : akS v f N n with
    | none =>
      rw [c] at h
      have h : some (n, akM v f n N) = some (b, l) := h
      cases h
      exact ⟨by omega, hm⟩
    | some x =>
      obtain ⟨b', l'⟩ := x
      have ih := akS_b n b' l' c
      rw [c] at h
      have h : (if akM v f n N < l' then some (n, akM v f n N) else some (b', l')) = some (b, l) := h
      by_cases q : akM v f n N < l'
      · rw [if_pos q] at h
        cases h
        exact ⟨by omega, hm⟩
      · rw [if_neg q] at h
        cases h
        exact ⟨by omega, ih.2⟩
theorem askX {g : Gs} {u : Nat} {v : Hv} (ok : HvOK v) (hx : HX (g u) v) (hu : u ≠ 101) {N : Nat} {f : Nat → Nat} (hf : fiX g N f) (hN0 : 0 < N) (hN : N ≤ 120) (hf2 : ∀ j, j < N → f j < 120) : ∃ g', fX1_bestAsked g u = some (g', eBk (akS v f N (hP v))) ∧ ∀ o, o ≠ 101 → g' o = g o := by
  have hP8 := ok.1
  unfold fX1_bestAsked
  obtain ⟨x, h1, h2⟩ := iter_loop (step := fun st : Int32 × Int32 × Int32 × Gs => bX1_bestAsked_8 st.2.2.2 u st.1 st.2.1 st.2.2.1) (fun i st => st.1 = eBk (akS v f N i) ∧ st.2.1 = eL 121 (akS v f N i) ∧ st.2.2.1 = nI i ∧ (∀ o, o ≠ 101 → st.2.2.2 o = g o) ∧ fiX st.2.2.2 N f) (fun x => x.2 = eBk (akS v f N (hP v)) ∧ ∀ o, o ≠ 101 → x.1 o = g o) (hP v) (by
    rintro i ⟨y1, y2, y3, G⟩ hi ⟨b1, b2, b3, b4, b5⟩
    dsimp only at b1 b2 b3 b4 b5
    subst b1
    subst b2
    subst b3
    have hxG : HX (G u) v := by rw [b4 u hu]; exact hx
    obtain ⟨G', c1, c2, c3⟩ := mostAlike_nI ok hxG hu b5 hN hf2 hi
    have hm := akM_le v f i N
    refine ⟨(eBk (akS v f N (i + 1)), eL 121 (akS v f N (i + 1)), nI (i + 1), G'), ?_, rfl, rfl, rfl, fun o ho => by dsimp only; rw [c2 o ho, b4 o ho], c3⟩
    show bX1_bestAsked_8 G u (eBk (akS v f N i)) (eL 121 (akS v f N i)) (nI i) = some (.inl (eBk (stm (akS v f N i) i (akM v f i N)), eL 121 (stm (akS v f N i) i (akM v f i N)), nI (i + 1), G'))
    have b51 := b5.1
    cases c : akS v f N i with
    | none =>
      show bX1_bestAsked_8 G u (-nI 1) (nI 121) (nI i) = some (.inl (nI i, nI (akM v f i N), nI (i + 1), G'))
      unfold bX1_bestAsked_8 bX1_bestAsked_45
      simp (disch := omega) only [b51, hxG.P, c1, bd_some, gd_true, inR_nI, nI_clamp, nI_add, pk_mul, pk_sub, leT, leF, ltT, ltF, eqT, eqF, ite_true, ite_false, reduceIte, nz_nI, oc_s, oc_n, pk_div, pk_rem, m1F, L0, L1, L2, L3, L4, L5, L6, L7, L8, L9, L10, L11, L12, L19, L20, L24, L25, L27, L28, L30, L32, L37, L39, L40, L47, L48, L50, L55, L57, L60, L61, L63, L71, L80, L97, L99, L100, L120, L122, L128, L161, L17, L600, L1000000, L1024, L1408, isB0, isB1, subdm, inT, inFl, inFh]
    | some x =>
      obtain ⟨b, l⟩ := x
      have hbl := akS_b i b l c
      by_cases q : akM v f i N < l
      · have e : stm (some (b, l)) i (akM v f i N) = some (i, akM v f i N) := if_pos q
        rw [e]
        show bX1_bestAsked_8 G u (nI b) (nI l) (nI i) = some (.inl (nI i, nI (akM v f i N), nI (i + 1), G'))
        unfold bX1_bestAsked_8 bX1_bestAsked_45
        simp (disch := omega) only [b51, hxG.P, c1, bd_some, gd_true, inR_nI, nI_clamp, nI_add, pk_mul, pk_sub, leT, leF, ltT, ltF, eqT, eqF, ite_true, ite_false, reduceIte, nz_nI, oc_s, oc_n, pk_div, pk_rem, m1F, L0, L1, L2, L3, L4, L5, L6, L7, L8, L9, L10, L11, L12, L19, L20, L24, L25, L27, L28, L30, L32, L37, L39, L40, L47, L48, L50, L55, L57, L60, L61, L63, L71, L80, L97, L99, L100, L120, L122, L128, L161, L17, L600, L1000000, L1024, L1408, isB0, isB1, subdm, inT, inFl, inFh]
      · have e : stm (some (b, l)) i (akM v f i N) = some (b, l) := if_neg q
        rw [e]
        show bX1_bestAsked_8 G u (nI b) (nI l) (nI i) = some (.inl (nI b, nI l, nI (i + 1), G'))
        unfold bX1_bestAsked_8 bX1_bestAsked_45
        simp (disch := omega) only [b51, hxG.P, c1, bd_some, gd_true, inR_nI, nI_clamp, nI_add, pk_mul, pk_sub, leT, leF, ltT, ltF, eqT, eqF, ite_true, ite_false, reduceIte, nz_nI, oc_s, oc_n, pk_div, pk_rem, m1F, L0, L1, L2, L3, L4, L5, L6, L7, L8, L9, L10, L11, L12, L19, L20, L24, L25, L27, L28, L30, L32, L37, L39, L40, L47, L48, L50, L55, L57, L60, L61, L63, L71, L80, L97, L99, L100, L120, L122, L128, L161, L17, L600, L1000000, L1024, L1408, isB0, isB1, subdm, inT, inFl, inFh]) (by
    rintro ⟨y1, y2, y3, G⟩ ⟨b1, b2, b3, b4, b5⟩
    dsimp only at b1 b2 b3 b4 b5
    subst b1
    subst b2
    subst b3
    have hxG : HX (G u) v := by rw [b4 u hu]; exact hx
    have b51 := b5.1
    refine ⟨(G, eBk (akS v f N (hP v))), ?_, rfl, b4⟩
    show bX1_bestAsked_8 G u (eBk (akS v f N (hP v))) (eL 121 (akS v f N (hP v))) (nI (hP v)) = _
    unfold bX1_bestAsked_8
    simp (disch := omega) only [b51, hxG.P, bd_some, gd_true, inR_nI, nI_clamp, nI_add, pk_mul, pk_sub, leT, leF, ltT, ltF, eqT, eqF, ite_true, ite_false, reduceIte, nz_nI, oc_s, oc_n, pk_div, pk_rem, m1F, L0, L1, L2, L3, L4, L5, L6, L7, L8, L9, L10, L11, L12, L19, L20, L24, L25, L27, L28, L30, L32, L37, L39, L40, L47, L48, L50, L55, L57, L60, L61, L63, L71, L80, L97, L99, L100, L120, L122, L128, L161, L17, L600, L1000000, L1024, L1408, isB0, isB1, subdm, inT, inFl, inFh]) (s0 := ((-1 : Int32), (121 : Int32), (0 : Int32), g)) ⟨rfl, rfl, rfl, fun _ _ => rfl, hf⟩
  obtain ⟨x1, x2⟩ := x
  obtain ⟨b0, b1⟩ := h2
  dsimp only at b0 b1
  subst b0
  exact ⟨x1, h1, b1⟩
/-! the reference asks -/
theorem ask50 {r : Rec} {n : Nat} {v : Hv} (ok : HvOK v) (hd : Hd r n v) {N p : Nat} {f : Nat → Nat} (hf : fiM r N f) (hN : N ≤ 120) (hf2 : ∀ j, j < N → f j < 120) (hp : p < hP v) (h44 : ∀ x, x ≤ 60 → ga r 44 x = nI 0) (x1 x2 : Int32) : ∃ r', bX10_ask_50 r x1 x2 (nI p) (nI 0) = bX10_ask_107 r' x1 x2 (nI p) (nI (akM v f p N)) ∧ (∀ k, k ≠ 44 → ga r' k = ga r k) ∧ ∀ k, gi r' k = gi r k := by
  have hP8 := ok.1
  unfold bX10_ask_50
  refine iter_loopK (step := fun st : Int32 × Int32 × Rec => bX10_ask_53 st.2.2 x1 x2 (nI p) st.1 st.2.1) (fun i st => st.1 = nI (akM v f p i) ∧ st.2.1 = nI i ∧ (∀ x, x ≤ 60 → ga st.2.2 44 x = nI (akC v f p i x)) ∧ (∀ k, k ≠ 44 → ga st.2.2 k = ga r k) ∧ ∀ k, gi st.2.2 k = gi r k) (fun r' => bX10_ask_107 r' x1 x2 (nI p) (nI (akM v f p N))) (fun r' => (∀ k, k ≠ 44 → ga r' k = ga r k) ∧ ∀ k, gi r' k = gi r k) N 0 ((nI 0), (0 : Int32), r) ⟨rfl, rfl, fun x hx => h44 x hx, fun _ _ => rfl, fun _ => rfl⟩ ?_ ?_
  · rintro i ⟨y1, y2, q⟩ - hi ⟨b1, b2, b3, b4, b5⟩
    dsimp only at b1 b2 b3 b4 b5
    subst b1
    subst b2
    have hi : i < N := by omega
    have hdq : Hd q n v := hd.keep (b4 28 (by decide)) (b4 6 (by decide)) (b5 25) (b5 26) (b5 27)
    have hc := hf2 i hi
    have hfi : ga q 42 i = nI (f i) := by rw [b4 42 (by decide)]; exact hf.2 i hi
    have h43 : gi q 43 = nI N := by rw [b5]; exact hf.1
    have hst := stv_le v (f i) p
    have hct := b3 _ hst
    have hl1 := akC_le v f p i (stv v (f i) p)
    have hl2 := akM_le v f p i
    have hht := shinesBy_nI ok hdq hc hp
    have emo : akM v f p (i + 1) = max (akM v f p i) (akC v f p i (stv v (f i) p) + 1) := by
      show max (akM v f p i) (akC v f p (i + 1) (stv v (f i) p)) = _
      rw [akC_s]
    refine ⟨(nI (akM v f p (i + 1)), nI (i + 1), sa q 44 (upd (ga q 44) (stv v (f i) p) (nI (akC v f p i (stv v (f i) p) + 1)))), ?_, rfl, rfl, fun x hx60 => ?_, fun k hk => ?_, b5⟩
    · show bX10_ask_53 q x1 x2 (nI p) (nI (akM v f p i)) (nI i) = _
      rw [emo]
      unfold bX10_ask_53
      simp (disch := omega) only [h43, hfi, hht, hct, pk_us, gr_nI, bd_some, gd_true, inR_nI, nI_clamp, nI_add, pk_mul, pk_sub, leT, leF, ltT, ltF, eqT, eqF, ite_true, ite_false, reduceIte, nz_nI, oc_s, oc_n, pk_div, pk_rem, m1F, L0, L1, L2, L3, L4, L5, L6, L7, L8, L9, L10, L11, L12, L19, L20, L24, L25, L27, L28, L30, L32, L37, L39, L40, L47, L48, L50, L55, L57, L60, L61, L63, L71, L80, L97, L99, L100, L120, L122, L128, L161, L17, L600, L1000000, L1024, L1408, isB0, isB1, subdm, inT, inFl, inFh, ug_same, ug_ug, ug_ne, ga_sae, ga_san, gi_sie, gi_sin, ga_si, gi_sa, gr_si, gr_sa, ga_sr, gi_sr, gr_sre]
    · dsimp only
      rw [ga_sae, upd_if]
      by_cases c : x = stv v (f i) p
      · rw [if_pos c, c, akC_s]
      · rw [if_neg c, akC_n c]; exact b3 x hx60
    · dsimp only
      rw [ga_san hk]; exact b4 k hk
  · rintro ⟨y1, y2, q⟩ ⟨b1, b2, b3, b4, b5⟩
    dsimp only at b1 b2 b3 b4 b5
    rw [Nat.zero_add] at b1 b2
    subst b1
    subst b2
    have h43 : gi q 43 = nI N := by rw [b5]; exact hf.1
    refine ⟨q, ?_, b4, b5⟩
    show bX10_ask_53 q x1 x2 (nI p) (nI (akM v f p N)) (nI N) = _
    unfold bX10_ask_53
    simp (disch := omega) only [h43, bd_some, gd_true, inR_nI, nI_clamp, nI_add, pk_mul, pk_sub, leT, leF, ltT, ltF, eqT, eqF, ite_true, ite_false, reduceIte, nz_nI, oc_s, oc_n, pk_div, pk_rem, m1F, L0, L1, L2, L3, L4, L5, L6, L7, L8, L9, L10, L11, L12, L19, L20, L24, L25, L27, L28, L30, L32, L37, L39, L40, L47, L48, L50, L55, L57, L60, L61, L63, L71, L80, L97, L99, L100, L120, L122, L128, L161, L17, L600, L1000000, L1024, L1408, isB0, isB1, subdm, inT, inFl, inFh]
theorem ask29 {r : Rec} {n : Nat} {v : Hv} (ok : HvOK v) (hd : Hd r n v) {N p : Nat} {f : Nat → Nat} (hf : fiM r N f) (hN : N ≤ 120) (hf2 : ∀ j, j < N → f j < 120) (hp : p < hP v) (x1 x2 : Int32) : ∃ r', iter (fun st : Int32 × Rec => bX10_ask_29 st.2 x1 x2 (nI p) (nI 0) st.1) (nI 0, r) = bX10_ask_107 r' x1 x2 (nI p) (nI (akM v f p N)) ∧ (∀ k, k ≠ 44 → ga r' k = ga r k) ∧ ∀ k, gi r' k = gi r k := by
  obtain ⟨q, e, a1, a2, a3⟩ := iter_loopK (step := fun st : Int32 × Rec => bX10_ask_29 st.2 x1 x2 (nI p) (nI 0) st.1) (fun i st => st.1 = nI i ∧ (∀ x, x < i → ga st.2 44 x = nI 0) ∧ (∀ k, k ≠ 44 → ga st.2 k = ga r k) ∧ ∀ k, gi st.2 k = gi r k) (fun q => bX10_ask_50 q x1 x2 (nI p) (nI 0)) (fun q => (∀ x, x < 61 → ga q 44 x = nI 0) ∧ (∀ k, k ≠ 44 → ga q k = ga r k) ∧ ∀ k, gi q k = gi r k) 61 0 (nI 0, r) ⟨rfl, fun x hx => by omega, fun _ _ => rfl, fun _ => rfl⟩ (by
    rintro i ⟨y, q⟩ - hi ⟨b1, b2, b3, b4⟩
    dsimp only at b1 b2 b3 b4
    subst b1
    refine ⟨(nI (i + 1), sa q 44 (upd (ga q 44) i (nI 0))), ?_, rfl, fun x hx => ?_, fun k hk => ?_, b4⟩
    · show bX10_ask_29 q x1 x2 (nI p) (nI 0) (nI i) = _
      unfold bX10_ask_29
      simp (disch := omega) only [bd_some, gd_true, inR_nI, nI_clamp, nI_add, pk_mul, pk_sub, leT, leF, ltT, ltF, eqT, eqF, ite_true, ite_false, reduceIte, nz_nI, oc_s, oc_n, pk_div, pk_rem, m1F, L0, L1, L2, L3, L4, L5, L6, L7, L8, L9, L10, L11, L12, L19, L20, L24, L25, L27, L28, L30, L32, L37, L39, L40, L47, L48, L50, L55, L57, L60, L61, L63, L71, L80, L97, L99, L100, L120, L122, L128, L161, L17, L600, L1000000, L1024, L1408, isB0, isB1, subdm, inT, inFl, inFh]
    · dsimp only
      rw [ga_sae, upd_if]
      by_cases c : x = i
      · rw [if_pos c]
      · rw [if_neg c]; exact b2 x (by omega)
    · dsimp only
      rw [ga_san hk]; exact b3 k hk) (by
    rintro ⟨y, q⟩ ⟨b1, b2, b3, b4⟩
    dsimp only at b1 b2 b3 b4
    subst b1
    refine ⟨q, ?_, fun x hx => b2 x (by omega), b3, b4⟩
    show bX10_ask_29 q x1 x2 (nI p) (nI 0) (nI (0 + 61)) = _
    unfold bX10_ask_29
    simp (disch := omega) only [Nat.zero_add, bd_some, gd_true, inR_nI, nI_clamp, nI_add, pk_mul, pk_sub, leT, leF, ltT, ltF, eqT, eqF, ite_true, ite_false, reduceIte, nz_nI, oc_s, oc_n, pk_div, pk_rem, m1F, L0, L1, L2, L3, L4, L5, L6, L7, L8, L9, L10, L11, L12, L19, L20, L24, L25, L27, L28, L30, L32, L37, L39, L40, L47, L48, L50, L55, L57, L60, L61, L63, L71, L80, L97, L99, L100, L120, L122, L128, L161, L17, L600, L1000000, L1024, L1408, isB0, isB1, subdm, inT, inFl, inFh])
  have hdq : Hd q n v := hd.keep (a2 28 (by decide)) (a2 6 (by decide)) (a3 25) (a3 26) (a3 27)
  obtain ⟨r', e2, c1, c2⟩ := ask50 ok hdq (f := f) (N := N) ⟨by rw [a3]; exact hf.1, fun j hj => by rw [a2 42 (by decide)]; exact hf.2 j hj⟩ hN hf2 hp (fun x hx => a1 x (by omega)) x1 x2
  exact ⟨r', e.trans e2, fun k hk => by rw [c1 k hk, a2 k hk], fun k => by rw [c2, a3]⟩
theorem askM {r : Rec} {n : Nat} {v : Hv} (ok : HvOK v) (hd : Hd r n v) {N : Nat} {f : Nat → Nat} (hf : fiM r N f) (hN0 : 0 < N) (hN : N ≤ 120) (hf2 : ∀ j, j < N → f j < 120) : ∃ r', fX10_ask r = some (r', eBk (akS v f N (hP v))) ∧ ∀ k, k ≠ 44 → ga r' k = ga r k := by
  have hP8 := ok.1
  unfold fX10_ask
  obtain ⟨x, h1, h2⟩ := iter_loop (step := fun st : Int32 × Int32 × Int32 × Rec => bX10_ask_8 st.2.2.2 st.1 st.2.1 st.2.2.1) (fun i st => st.1 = eBk (akS v f N i) ∧ st.2.1 = eL 1000000 (akS v f N i) ∧ st.2.2.1 = nI i ∧ (∀ k, k ≠ 44 → ga st.2.2.2 k = ga r k) ∧ ∀ k, gi st.2.2.2 k = gi r k) (fun x => x.2 = eBk (akS v f N (hP v)) ∧ ∀ k, k ≠ 44 → ga x.1 k = ga r k) (hP v) (by
    rintro i ⟨y1, y2, y3, q⟩ hi ⟨b1, b2, b3, b4, b5⟩
    dsimp only at b1 b2 b3 b4 b5
    subst b1
    subst b2
    subst b3
    have hdq : Hd q n v := hd.keep (b4 28 (by decide)) (b4 6 (by decide)) (b5 25) (b5 26) (b5 27)
    have h43 : gi q 43 = nI N := by rw [b5]; exact hf.1
    have hm := akM_le v f i N
    obtain ⟨r', e1, c1, c2⟩ := ask29 ok hdq (f := f) (N := N) ⟨h43, fun j hj => by rw [b4 42 (by decide)]; exact hf.2 j hj⟩ hN hf2 hi (eBk (akS v f N i)) (eL 1000000 (akS v f N i))
    refine ⟨(eBk (akS v f N (i + 1)), eL 1000000 (akS v f N (i + 1)), nI (i + 1), r'), ?_, rfl, rfl, rfl, fun k hk => by dsimp only; rw [c1 k hk, b4 k hk], fun k => by dsimp only; rw [c2, b5]⟩
    show bX10_ask_8 q (eBk (akS v f N i)) (eL 1000000 (akS v f N i)) (nI i) = some (.inl (eBk (stm (akS v f N i) i (akM v f i N)), eL 1000000 (stm (akS v f N i) i (akM v f i N)), nI (i + 1), r'))
    unfold bX10_ask_8
    simp (disch := omega) only [hdq.P, h43, bd_some, gd_true, inR_nI, nI_clamp, nI_add, pk_mul, pk_sub, leT, leF, ltT, ltF, eqT, eqF, ite_true, ite_false, reduceIte, nz_nI, oc_s, oc_n, pk_div, pk_rem, m1F, L0, L1, L2, L3, L4, L5, L6, L7, L8, L9, L10, L11, L12, L19, L20, L24, L25, L27, L28, L30, L32, L37, L39, L40, L47, L48, L50, L55, L57, L60, L61, L63, L71, L80, L97, L99, L100, L120, L122, L128, L161, L17, L600, L1000000, L1024, L1408, isB0, isB1, subdm, inT, inFl, inFh]
    refine e1.trans ?_
    cases c : akS v f N i with
    | none =>
      show bX10_ask_107 r' (-nI 1) (nI 1000000) (nI i) (nI (akM v f i N)) = some (.inl (nI i, nI (akM v f i N), nI (i + 1), r'))
      unfold bX10_ask_107 bX10_ask_118
      simp (disch := omega) only [ls_nI, Nat.min_eq_right, bd_some, gd_true, inR_nI, nI_clamp, nI_add, pk_mul, pk_sub, leT, leF, ltT, ltF, eqT, eqF, ite_true, ite_false, reduceIte, nz_nI, oc_s, oc_n, pk_div, pk_rem, m1F, L0, L1, L2, L3, L4, L5, L6, L7, L8, L9, L10, L11, L12, L19, L20, L24, L25, L27, L28, L30, L32, L37, L39, L40, L47, L48, L50, L55, L57, L60, L61, L63, L71, L80, L97, L99, L100, L120, L122, L128, L161, L17, L600, L1000000, L1024, L1408, isB0, isB1, subdm, inT, inFl, inFh]
    | some x =>
      obtain ⟨b, l⟩ := x
      have hbl := akS_b i b l c
      by_cases z : akM v f i N < l
      · have e : stm (some (b, l)) i (akM v f i N) = some (i, akM v f i N) := if_pos z
        rw [e]
        show bX10_ask_107 r' (nI b) (nI l) (nI i) (nI (akM v f i N)) = some (.inl (nI i, nI (akM v f i N), nI (i + 1), r'))
        unfold bX10_ask_107 bX10_ask_118
        simp (disch := omega) only [ls_nI, Nat.min_eq_right, bd_some, gd_true, inR_nI, nI_clamp, nI_add, pk_mul, pk_sub, leT, leF, ltT, ltF, eqT, eqF, ite_true, ite_false, reduceIte, nz_nI, oc_s, oc_n, pk_div, pk_rem, m1F, L0, L1, L2, L3, L4, L5, L6, L7, L8, L9, L10, L11, L12, L19, L20, L24, L25, L27, L28, L30, L32, L37, L39, L40, L47, L48, L50, L55, L57, L60, L61, L63, L71, L80, L97, L99, L100, L120, L122, L128, L161, L17, L600, L1000000, L1024, L1408, isB0, isB1, subdm, inT, inFl, inFh]
      · have e : stm (some (b, l)) i (akM v f i N) = some (b, l) := if_neg z
        rw [e]
        show bX10_ask_107 r' (nI b) (nI l) (nI i) (nI (akM v f i N)) = some (.inl (nI b, nI l, nI (i + 1), r'))
        unfold bX10_ask_107 bX10_ask_118
        simp (disch := omega) only [ls_nI, Nat.min_eq_left, bd_some, gd_true, inR_nI, nI_clamp, nI_add, pk_mul, pk_sub, leT, leF, ltT, ltF, eqT, eqF, ite_true, ite_false, reduceIte, nz_nI, oc_s, oc_n, pk_div, pk_rem, m1F, L0, L1, L2, L3, L4, L5, L6, L7, L8, L9, L10, L11, L12, L19, L20, L24, L25, L27, L28, L30, L32, L37, L39, L40, L47, L48, L50, L55, L57, L60, L61, L63, L71, L80, L97, L99, L100, L120, L122, L128, L161, L17, L600, L1000000, L1024, L1408, isB0, isB1, subdm, inT, inFl, inFh]) (by
    rintro ⟨y1, y2, y3, q⟩ ⟨b1, b2, b3, b4, b5⟩
    dsimp only at b1 b2 b3 b4 b5
    subst b1
    subst b2
    subst b3
    have hP26 : gi q 26 = nI (hP v) := by rw [b5]; exact hd.P
    refine ⟨(q, eBk (akS v f N (hP v))), ?_, rfl, b4⟩
    show bX10_ask_8 q (eBk (akS v f N (hP v))) (eL 1000000 (akS v f N (hP v))) (nI (hP v)) = _
    unfold bX10_ask_8
    simp (disch := omega) only [hP26, bd_some, gd_true, inR_nI, nI_clamp, nI_add, pk_mul, pk_sub, leT, leF, ltT, ltF, eqT, eqF, ite_true, ite_false, reduceIte, nz_nI, oc_s, oc_n, pk_div, pk_rem, m1F, L0, L1, L2, L3, L4, L5, L6, L7, L8, L9, L10, L11, L12, L19, L20, L24, L25, L27, L28, L30, L32, L37, L39, L40, L47, L48, L50, L55, L57, L60, L61, L63, L71, L80, L97, L99, L100, L120, L122, L128, L161, L17, L600, L1000000, L1024, L1408, isB0, isB1, subdm, inT, inFl, inFh]) (s0 := ((-1 : Int32), (1000000 : Int32), (0 : Int32), r)) ⟨rfl, rfl, rfl, fun _ _ => rfl, fun _ => rfl⟩
  obtain ⟨x1, x2⟩ := x
  obtain ⟨b0, b1⟩ := h2
  dsimp only at b0 b1
  subst b0
  exact ⟨x1, h1, b1⟩
