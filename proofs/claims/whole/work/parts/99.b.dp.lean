/-! tables over sets -/
theorem dl_bit (T s k : Nat) : (andn T (2 ^ s)).testBit k = (T.testBit k && !decide (s = k)) := by
  rw [andn_bit, Nat.testBit_two_pow]
theorem andn_le (a b : Nat) : andn a b ≤ a := Nat.and_le_left
theorem dl_lt {T s : Nat} (h : T.testBit s = true) : andn T (2 ^ s) < T := by
  rcases Nat.lt_or_ge (andn T (2 ^ s)) T with h1 | h1
  · exact h1
  · have e : andn T (2 ^ s) = T := Nat.le_antisymm (andn_le _ _) h1
    have h2 := dl_bit T s s
    rw [e, h] at h2
    simp at h2
theorem dl_or {T s : Nat} (h : T.testBit s = true) : andn T (2 ^ s) ||| 2 ^ s = T := by
  apply Nat.eq_of_testBit_eq
  intro k
  rw [Nat.testBit_or, dl_bit, Nat.testBit_two_pow]
  by_cases c : s = k
  · subst c; simp [h]
  · simp [c]
theorem or_dl {k s : Nat} (h : k.testBit s = false) : andn (k ||| 2 ^ s) (2 ^ s) = k := by
  apply Nat.eq_of_testBit_eq
  intro j
  rw [dl_bit, Nat.testBit_or, Nat.testBit_two_pow]
  by_cases c : s = j
  · subst c; simp [h]
  · simp [c]
theorem fo_congr {α : Type} {f h : Nat → α → α} {a : α} {n : Nat} (e : ∀ i, i < n → ∀ x, f i x = h i x) : fo f a n = fo h a n := by
  induction n with
  | zero => rfl
  | succ n ih =>
    show f n (fo f a n) = h n (fo h a n)
    rw [ih (fun i hi => e i (by omega)), e n (by omega)]
def dpF (z0 ini : Nat) (op : Nat → Nat → Nat → Nat) (S : Nat) : Nat → Nat → Nat
  | 0, _ => z0
  | n + 1, T => if T = 0 then z0 else fo (fun s a => if T.testBit s then op a (dpF z0 ini op S n (andn T (2 ^ s))) s else a) ini S
theorem dpF_eq {z0 ini : Nat} {op : Nat → Nat → Nat → Nat} {S : Nat} : ∀ n m T, T ≤ n → T ≤ m → dpF z0 ini op S n T = dpF z0 ini op S m T
  | 0, 0, _, _, _ => rfl
  | 0, m + 1, T, h1, h2 => by
    have : T = 0 := by omega
    subst this
    rfl
  | n + 1, 0, T, h1, h2 => by
    have : T = 0 := by omega
    subst this
    rfl
  | n + 1, m + 1, T, h1, h2 => by
    show (if T = 0 then z0 else fo (fun s a => if T.testBit s then op a (dpF z0 ini op S n (andn T (2 ^ s))) s else a) ini S) = (if T = 0 then z0 else fo (fun s a => if T.testBit s then op a (dpF z0 ini op S m (andn T (2 ^ s))) s else a) ini S)
    by_cases h : T = 0
    · rw [if_pos h, if_pos h]
    · rw [if_neg h, if_neg h]
      refine fo_congr (fun s _ x => ?_)
      by_cases c : T.testBit s = true
      · have := dl_lt c
        rw [if_pos c, if_pos c, dpF_eq n m (andn T (2 ^ s)) (by omega) (by omega)]
      · rw [if_neg c, if_neg c]
def dp (z0 ini : Nat) (op : Nat → Nat → Nat → Nat) (S T : Nat) : Nat := dpF z0 ini op S T T
theorem dp_0 {z0 ini : Nat} {op : Nat → Nat → Nat → Nat} {S : Nat} : dp z0 ini op S 0 = z0 := rfl
theorem dp_s {z0 ini : Nat} {op : Nat → Nat → Nat → Nat} {S T : Nat} (h : T ≠ 0) : dp z0 ini op S T = fo (fun s a => if T.testBit s then op a (dp z0 ini op S (andn T (2 ^ s))) s else a) ini S := by
  cases T with
  | zero => exact absurd rfl h
  | succ n =>
    show (if n + 1 = 0 then z0 else fo (fun s a => if (n + 1).testBit s then op a (dpF z0 ini op S n (andn (n + 1) (2 ^ s))) s else a) ini S) = _
    rw [if_neg h]
    refine fo_congr (fun s _ x => ?_)
    by_cases c : (n + 1).testBit s = true
    · have := dl_lt c
      rw [if_pos c, if_pos c]
      unfold dp
      rw [dpF_eq n (andn (n + 1) (2 ^ s)) (andn (n + 1) (2 ^ s)) (by omega) (Nat.le_refl _)]
    · rw [if_neg c, if_neg c]
/-- the least of a start and some -/
def MnC (ini : Nat) (c : Nat → Prop) (f : Nat → Nat) (n x : Nat) : Prop := x ≤ ini ∧ (∀ s, s < n → c s → x ≤ f s) ∧ (x = ini ∨ ∃ s, s < n ∧ c s ∧ x = f s)
theorem MnC.le {ini : Nat} {c : Nat → Prop} {f : Nat → Nat} {n x y : Nat} (h : MnC ini c f n x) (k : MnC ini c f n y) : x ≤ y := by
  obtain ⟨h1, h2, -⟩ := h
  obtain ⟨-, -, k3⟩ := k
  rcases k3 with e | ⟨s, a, b, e⟩
  · omega
  · rw [e]; exact h2 s a b
theorem MnC.un {ini : Nat} {c : Nat → Prop} {f : Nat → Nat} {n x y : Nat} (h : MnC ini c f n x) (k : MnC ini c f n y) : x = y := Nat.le_antisymm (h.le k) (k.le h)
theorem MnC.iff {ini : Nat} {c c' : Nat → Prop} {f : Nat → Nat} {n x : Nat} (h : MnC ini c f n x) (e : ∀ s, s < n → (c s ↔ c' s)) : MnC ini c' f n x := by
  obtain ⟨h1, h2, h3⟩ := h
  refine ⟨h1, fun s hs hc => h2 s hs ((e s hs).mpr hc), ?_⟩
  rcases h3 with q | ⟨s, a, b, q⟩
  · exact Or.inl q
  · exact Or.inr ⟨s, a, (e s a).mp b, q⟩
theorem fo_mn {ini : Nat} {h : Nat → Nat → Nat} {c : Nat → Prop} {f : Nat → Nat} (h1 : ∀ s a, c s → h s a = min a (f s)) (h2 : ∀ s a, ¬ c s → h s a = a) : ∀ n, MnC ini c f n (fo h ini n)
  | 0 => ⟨Nat.le_refl _, fun s hs => absurd hs (Nat.not_lt_zero s), Or.inl rfl⟩
  | n + 1 => by
    have ih := fo_mn (ini := ini) h1 h2 n
    obtain ⟨i1, i2, i3⟩ := ih
    show MnC ini c f (n + 1) (h n (fo h ini n))
    by_cases q : c n
    · rw [h1 n _ q]
      refine ⟨by omega, fun s hs hc => ?_, ?_⟩
      · by_cases e : s = n
        · subst e; omega
        · have := i2 s (by omega) hc; omega
      · by_cases e : f n ≤ fo h ini n
        · exact Or.inr ⟨n, by omega, q, by omega⟩
        · rw [Nat.min_eq_left (by omega)]
          rcases i3 with z | ⟨s, a, b, z⟩
          · exact Or.inl z
          · exact Or.inr ⟨s, by omega, b, z⟩
    · rw [h2 n _ q]
      refine ⟨i1, fun s hs hc => ?_, ?_⟩
      · by_cases e : s = n
        · subst e; exact absurd hc q
        · exact i2 s (by omega) hc
      · rcases i3 with z | ⟨s, a, b, z⟩
        · exact Or.inl z
        · exact Or.inr ⟨s, by omega, b, z⟩
theorem fo_le {h : Nat → Nat → Nat} {ini : Nat} (e : ∀ s a, h s a ≤ a) : ∀ n, fo h ini n ≤ ini
  | 0 => Nat.le_refl _
  | n + 1 => Nat.le_trans (e n _) (fo_le e n)
/-! evenings: the class's table -/
def adN (W q w : Nat) : Nat := if W < q % 128 + w then (q / 128 + 1) * 128 + w else q + w
theorem adN_le (W q w : Nat) : adN W q w ≤ q + 128 + w := by unfold adN; split <;> omega
theorem addTo_nI {q w W : Nat} (hq : q ≤ 2000) (hw : w ≤ 100) (hW : W ≤ 100) : fX3_addTo (nI q) (nI w) (nI W) = some (nI (adN W q w)) := by
  unfold fX3_addTo adN
  by_cases c : W < q % 128 + w
  · simp (disch := omega) only [if_pos c, bd_some, gd_true, inR_nI, nI_clamp, nI_add, pk_mul, pk_sub, leT, leF, ltT, ltF, eqT, eqF, ite_true, ite_false, reduceIte, nz_nI, oc_s, oc_n, pk_div, pk_rem, m1F, L0, L1, L2, L3, L4, L5, L6, L7, L8, L9, L10, L11, L12, L19, L20, L24, L25, L27, L28, L30, L32, L37, L39, L40, L47, L48, L50, L55, L57, L60, L61, L63, L71, L80, L97, L99, L100, L120, L122, L128, L161, L17, L600, L1000000, L1024, L1408, isB0, isB1, subdm, inT, inFl, inFh]
  · simp (disch := omega) only [if_neg c, bd_some, gd_true, inR_nI, nI_clamp, nI_add, pk_mul, pk_sub, leT, leF, ltT, ltF, eqT, eqF, ite_true, ite_false, reduceIte, nz_nI, oc_s, oc_n, pk_div, pk_rem, m1F, L0, L1, L2, L3, L4, L5, L6, L7, L8, L9, L10, L11, L12, L19, L20, L24, L25, L27, L28, L30, L32, L37, L39, L40, L47, L48, L50, L55, L57, L60, L61, L63, L71, L80, L97, L99, L100, L120, L122, L128, L161, L17, L600, L1000000, L1024, L1408, isB0, isB1, subdm, inT, inFl, inFh]
def pkD (v : Hv) (W T : Nat) : Nat := dp W 1408 (fun a q s => min a (adN W q (hWt v s))) (hS v) T
def pkS (v : Hv) (W T s a : Nat) : Nat := if T.testBit s then min a (adN W (pkD v W (andn T (2 ^ s))) (hWt v s)) else a
theorem pkS_le (v : Hv) (W T s a : Nat) : pkS v W T s a ≤ a := by unfold pkS; split <;> omega
theorem pkD_s {v : Hv} {W T : Nat} (h : T ≠ 0) : pkD v W T = fo (pkS v W T) 1408 (hS v) := dp_s h
theorem pkD_le {v : Hv} {W T : Nat} (hW : W ≤ 99) : pkD v W T ≤ 1408 := by
  by_cases h : T = 0
  · subst h
    show W ≤ 1408
    omega
  · rw [pkD_s h]
    exact fo_le (pkS_le v W T) _
theorem fewX_in {g : Gs} {u : Nat} {v : Hv} (ok : HvOK v) (hx : HX (g u) v) {W T : Nat} (hW : W ≤ 99) (hT0 : T ≠ 0) (hT : T < 2 ^ hS v) (hg : ∀ t, t < T → ga (g 301) 0 t = nI (pkD v W t)) : iter (fun st : Int32 × Int32 => bX3_fewest_25 g u (nI W) (nI T) st.1 st.2) (nI 1408, nI 0) = bX3_fewest_80 g u (nI W) (nI T) (nI (pkD v W T)) := by
  have hS10 := ok.2.1
  have hT2 := pS ok
  rw [pkD_s hT0]
  refine loopO (step := fun st : Int32 × Int32 => bX3_fewest_25 g u (nI W) (nI T) st.1 st.2) (fun i => (nI (fo (pkS v W T) 1408 i), nI i)) (hS v) (fun i hi => ?_) ?_
  · show bX3_fewest_25 g u (nI W) (nI T) (nI (fo (pkS v W T) 1408 i)) (nI i) = some (.inl (nI (pkS v W T i (fo (pkS v W T) 1408 i)), nI (i + 1)))
    have hle : fo (pkS v W T) 1408 i ≤ 1408 := fo_le (pkS_le v W T) _
    generalize fo (pkS v W T) 1408 i = a at hle ⊢
    have hw := (ok.2.2.2.2.2.2.1 i hi).2.2
    unfold bX3_fewest_25 bX3_fewest_74 pkS
    cases c : T.testBit i
    · simp (disch := omega) only [hx.S, hasBit_nI, c, Bool.false_eq_true, bd_some, gd_true, inR_nI, nI_clamp, nI_add, pk_mul, pk_sub, leT, leF, ltT, ltF, eqT, eqF, ite_true, ite_false, reduceIte, nz_nI, oc_s, oc_n, pk_div, pk_rem, m1F, L0, L1, L2, L3, L4, L5, L6, L7, L8, L9, L10, L11, L12, L19, L20, L24, L25, L27, L28, L30, L32, L37, L39, L40, L47, L48, L50, L55, L57, L60, L61, L63, L71, L80, L97, L99, L100, L120, L122, L128, L161, L17, L600, L1000000, L1024, L1408, isB0, isB1, subdm, inT, inFl, inFh]
    · have hd := dl_lt c
      have hp := pkD_le (v := v) (T := andn T (2 ^ i)) hW
      have hq := hg _ hd
      have hn := adN_le W (pkD v W (andn T (2 ^ i))) (hWt v i)
      simp (disch := omega) only [hx.S, hasBit_nI, c, L31, shl_T, andn_nI, hq, hx.wt, addTo_nI, mn_nI, bd_some, gd_true, inR_nI, nI_clamp, nI_add, pk_mul, pk_sub, leT, leF, ltT, ltF, eqT, eqF, ite_true, ite_false, reduceIte, nz_nI, oc_s, oc_n, pk_div, pk_rem, m1F, L0, L1, L2, L3, L4, L5, L6, L7, L8, L9, L10, L11, L12, L19, L20, L24, L25, L27, L28, L30, L32, L37, L39, L40, L47, L48, L50, L55, L57, L60, L61, L63, L71, L80, L97, L99, L100, L120, L122, L128, L161, L17, L600, L1000000, L1024, L1408, isB0, isB1, subdm, inT, inFl, inFh]
  · show bX3_fewest_25 g u (nI W) (nI T) (nI (fo (pkS v W T) 1408 (hS v))) (nI (hS v)) = _
    unfold bX3_fewest_25
    simp (disch := omega) only [hx.S, bd_some, gd_true, inR_nI, nI_clamp, nI_add, pk_mul, pk_sub, leT, leF, ltT, ltF, eqT, eqF, ite_true, ite_false, reduceIte, nz_nI, oc_s, oc_n, pk_div, pk_rem, m1F, L0, L1, L2, L3, L4, L5, L6, L7, L8, L9, L10, L11, L12, L19, L20, L24, L25, L27, L28, L30, L32, L37, L39, L40, L47, L48, L50, L55, L57, L60, L61, L63, L71, L80, L97, L99, L100, L120, L122, L128, L161, L17, L600, L1000000, L1024, L1408, isB0, isB1, subdm, inT, inFl, inFh]
theorem fewX {g : Gs} {u : Nat} {v : Hv} (ok : HvOK v) (hx : HX (g u) v) (hu : u ≠ 301) {W : Nat} (hW : W ≤ 99) : ∃ g1, fX3_fewest g u (nI W) = some (g1, nI (pkD v W (2 ^ hS v - 1) / 128)) ∧ ∀ o, o ≠ 301 → g1 o = g o := by
  have hp1 := p1 (hS v)
  have hpS := pS ok
  have hS10 := ok.2.1
  unfold fX3_fewest
  rw [bd_some]
  obtain ⟨x, h1, h2⟩ := iter_loop (step := fun st : Int32 × Gs => bX3_fewest_9 st.2 u (nI W) st.1) (fun i st => st.1 = nI (i + 1) ∧ (∀ o, o ≠ 301 → st.2 o = g o) ∧ ∀ t, t ≤ i → ga (st.2 301) 0 t = nI (pkD v W t)) (fun x => x.2 = nI (pkD v W (2 ^ hS v - 1) / 128) ∧ ∀ o, o ≠ 301 → x.1 o = g o) (2 ^ hS v - 1) (by
    rintro i ⟨k, G⟩ hi ⟨e, a1, a2⟩
    dsimp only at e a1 a2
    subst e
    have hxG : HX (G u) v := by rw [a1 u hu]; exact hx
    refine ⟨(nI (i + 1 + 1), ug G 301 (sa (G 301) 0 (upd (ga (G 301) 0) (i + 1) (nI (pkD v W (i + 1)))))), ?_, rfl, fun o ho => ?_, fun t ht => ?_⟩
    · show bX3_fewest_9 G u (nI W) (nI (i + 1)) = _
      have hin := fewX_in (g := G) (u := u) ok hxG (T := i + 1) hW (by omega) (by omega) (fun t ht => a2 t (by omega))
      unfold bX3_fewest_9
      simp (disch := omega) only [secretSets_nI ok hxG, bd_some, gd_true, inR_nI, nI_clamp, nI_add, pk_mul, pk_sub, leT, leF, ltT, ltF, eqT, eqF, ite_true, ite_false, reduceIte, nz_nI, oc_s, oc_n, pk_div, pk_rem, m1F, L0, L1, L2, L3, L4, L5, L6, L7, L8, L9, L10, L11, L12, L19, L20, L24, L25, L27, L28, L30, L32, L37, L39, L40, L47, L48, L50, L55, L57, L60, L61, L63, L71, L80, L97, L99, L100, L120, L122, L128, L161, L17, L600, L1000000, L1024, L1408, isB0, isB1, subdm, inT, inFl, inFh]
      refine hin.trans ?_
      unfold bX3_fewest_80
      simp (disch := omega) only [bd_some, gd_true, inR_nI, nI_clamp, nI_add, pk_mul, pk_sub, leT, leF, ltT, ltF, eqT, eqF, ite_true, ite_false, reduceIte, nz_nI, oc_s, oc_n, pk_div, pk_rem, m1F, L0, L1, L2, L3, L4, L5, L6, L7, L8, L9, L10, L11, L12, L19, L20, L24, L25, L27, L28, L30, L32, L37, L39, L40, L47, L48, L50, L55, L57, L60, L61, L63, L71, L80, L97, L99, L100, L120, L122, L128, L161, L17, L600, L1000000, L1024, L1408, isB0, isB1, subdm, inT, inFl, inFh]
    · dsimp only
      rw [ug_ne ho]; exact a1 o ho
    · dsimp only
      rw [ug_same]
      show upd (ga (G 301) 0) (i + 1) (nI (pkD v W (i + 1))) t = _
      rw [upd_if]
      by_cases c : t = i + 1
      · rw [if_pos c, c]
      · rw [if_neg c]; exact a2 t (by omega)) (by
    rintro ⟨k, G⟩ ⟨e, a1, a2⟩
    dsimp only at e a1 a2
    subst e
    have hxG : HX (G u) v := by rw [a1 u hu]; exact hx
    have hq := a2 _ (Nat.le_refl _)
    have hp := pkD_le (v := v) (T := 2 ^ hS v - 1) hW
    refine ⟨(G, nI (pkD v W (2 ^ hS v - 1) / 128)), ?_, rfl, a1⟩
    show bX3_fewest_9 G u (nI W) (nI (2 ^ hS v - 1 + 1)) = _
    unfold bX3_fewest_9 bX3_fewest_94
    simp (disch := omega) only [secretSets_nI ok hxG, allSecrets_nI ok hxG, hq, bd_some, gd_true, inR_nI, nI_clamp, nI_add, pk_mul, pk_sub, leT, leF, ltT, ltF, eqT, eqF, ite_true, ite_false, reduceIte, nz_nI, oc_s, oc_n, pk_div, pk_rem, m1F, L0, L1, L2, L3, L4, L5, L6, L7, L8, L9, L10, L11, L12, L19, L20, L24, L25, L27, L28, L30, L32, L37, L39, L40, L47, L48, L50, L55, L57, L60, L61, L63, L71, L80, L97, L99, L100, L120, L122, L128, L161, L17, L600, L1000000, L1024, L1408, isB0, isB1, subdm, inT, inFl, inFh]
    all_goals rfl) (s0 := ((1 : Int32), ug g 301 (sa (g 301) 0 (upd (ga (g 301) 0) (Int32.toNatClampNeg 0) (nI W))))) ⟨rfl, fun o ho => ug_ne ho, fun t ht => by
      have : t = 0 := by omega
      subst this
      dsimp only
      rw [ug_same]
      rfl⟩
  obtain ⟨x1, x2⟩ := x
  obtain ⟨b0, b1⟩ := h2
  dsimp only at b0 b1
  subst b0
  exact ⟨x1, h1, b1⟩
/-! the reference's table -/
def gq (b : Nat → Nat) (W w : Nat) : Nat → Nat → Nat → Nat
  | 0, _, _ => 1000000
  | n + 1, e, l => if 10 ≤ e then 1000000 else if l + w ≤ W then 100 * e + l + w else gq b W w n (e + 1) (if 10 ≤ e + 1 then 0 else b (e + 1))
theorem gq_far {b : Nat → Nat} {W w n e l : Nat} (h : 10 ≤ e) : gq b W w (n + 1) e l = 1000000 := if_pos h
theorem gq_fit {b : Nat → Nat} {W w n e l : Nat} (h : e < 10) (h2 : l + w ≤ W) : gq b W w (n + 1) e l = 100 * e + l + w := by
  show (if 10 ≤ e then 1000000 else if l + w ≤ W then 100 * e + l + w else _) = _
  rw [if_neg (by omega), if_pos h2]
theorem gq_nx {b : Nat → Nat} {W w n e l : Nat} (h : e < 10) (h2 : W < l + w) : gq b W w (n + 1) e l = gq b W w n (e + 1) (if 10 ≤ e + 1 then 0 else b (e + 1)) := by
  show (if 10 ≤ e then 1000000 else if l + w ≤ W then 100 * e + l + w else gq b W w n (e + 1) (if 10 ≤ e + 1 then 0 else b (e + 1))) = _
  rw [if_neg (by omega), if_neg (by omega)]
theorem gq_le {b : Nat → Nat} {W w : Nat} (hW : W ≤ 99) : ∀ n e l, gq b W w n e l = 1000000 ∨ gq b W w n e l ≤ 999
  | 0, _, _ => Or.inl rfl
  | n + 1, e, l => by
    by_cases h : 10 ≤ e
    · exact Or.inl (gq_far h)
    · by_cases h2 : l + w ≤ W
      · rw [gq_fit (by omega) h2]; omega
      · rw [gq_nx (by omega) (by omega)]; exact gq_le hW n _ _
def stq (b : Nat → Nat) (W q w : Nat) : Nat := gq b W w 11 (q / 100) (q % 100)
theorem stq_le {b : Nat → Nat} {W q w : Nat} (hW : W ≤ 99) : stq b W q w = 1000000 ∨ stq b W q w ≤ 999 := gq_le hW _ _ _
def fD (v : Hv) (b : Nat → Nat) (W T : Nat) : Nat := dp (b 0) 1000000 (fun a q s => if q < 1000000 then min a (stq b W q (hWt v s)) else a) (hS v) T
theorem fD_mn {v : Hv} {b : Nat → Nat} {W T : Nat} (h : T ≠ 0) : MnC 1000000 (fun s => T.testBit s = true ∧ fD v b W (andn T (2 ^ s)) < 1000000) (fun s => stq b W (fD v b W (andn T (2 ^ s))) (hWt v s)) (hS v) (fD v b W T) := by
  have e : fD v b W T = fo (fun s a => if T.testBit s then (if fD v b W (andn T (2 ^ s)) < 1000000 then min a (stq b W (fD v b W (andn T (2 ^ s))) (hWt v s)) else a) else a) 1000000 (hS v) := dp_s h
  rw [e]
  refine fo_mn (fun s a hc => ?_) (fun s a hc => ?_) _
  · rw [if_pos hc.1, if_pos hc.2]
  · by_cases c : T.testBit s = true
    · rw [if_pos c, if_neg (fun q => hc ⟨c, q⟩)]
    · rw [if_neg c]
theorem fD_le {v : Hv} {b : Nat → Nat} {W T : Nat} (hW : W ≤ 99) (hb : b 0 ≤ 99) : fD v b W T = 1000000 ∨ fD v b W T ≤ 999 := by
  by_cases h : T = 0
  · subst h
    right
    show b 0 ≤ 999
    omega
  · obtain ⟨-, -, e | ⟨s, -, -, e⟩⟩ := fD_mn (v := v) (b := b) (W := W) h
    · exact Or.inl e
    · rw [e]; exact stq_le hW
theorem fill114_far {r : Rec} {A T : Int32} {W s e l : Nat} (he : e = 10) : bX10_fill_114 r A (nI W) T (nI s) (nI e) (nI l) = out1 (bX10_fill_194 r A (nI W) T (nI s) (nI 1000000)) := by
  unfold bX10_fill_114 bX10_fill_163
  rw [if_pos (show (10 : Int32) ≤ nI e by rw [he]; decide), if_pos (show (10 : Int32) ≤ nI e by rw [he]; decide)]
  rfl
theorem fill114_fit {r : Rec} {n : Nat} {v : Hv} (ok : HvOK v) (hd : Hd r n v) {A T : Int32} {W s e l : Nat} (hW : W ≤ 99) (hs : s < hS v) (he : e < 10) (hl : l ≤ 99) (h2 : l + hWt v s ≤ W) : bX10_fill_114 r A (nI W) T (nI s) (nI e) (nI l) = out1 (bX10_fill_194 r A (nI W) T (nI s) (nI (100 * e + l + hWt v s))) := by
  have hS10 := ok.2.1
  have hw := (ok.2.2.2.2.2.2.1 s hs).2
  have hwt := hd.wt ok hs
  have e1 : (37 : Int32) + nI s = nI (37 + s) := nI_add 37 s
  have e2 : ¬ (10 : Int32) ≤ nI e := fun q => by have := (nI_leI (a := 10) (by decide) (by omega)).mp q; omega
  have e3 : nI l + nI (hWt v s) ≤ nI W := by rw [nI_add]; exact nI_le h2 (by omega)
  have e4 : ((100 : Int32) * nI e + nI l) + nI (hWt v s) = nI (100 * e + l + hWt v s) := by rw [show (100 : Int32) = nI 100 from rfl, pk_mul, nI_add, nI_add]
  unfold bX10_fill_114 bX10_fill_163
  rw [if_neg e2, e1, hwt, bd_some, if_pos e3, if_neg e2, bd_some, e4]
theorem fill114_nx {r : Rec} {n : Nat} {v : Hv} {b : Nat → Nat} (ok : HvOK v) (hd : Hd r n v) (hb : ∀ e, e < 10 → ga r 40 e = nI (b e)) {A T : Int32} {W s e l : Nat} (hW : W ≤ 99) (hs : s < hS v) (he : e < 10) (hl : l ≤ 99) (h2 : W < l + hWt v s) : bX10_fill_114 r A (nI W) T (nI s) (nI e) (nI l) = some (.inl (nI (e + 1), nI (if 10 ≤ e + 1 then 0 else b (e + 1)))) := by
  have hS10 := ok.2.1
  have hw := (ok.2.2.2.2.2.2.1 s hs).2
  have hwt := hd.wt ok hs
  unfold bX10_fill_114 bX10_fill_158
  by_cases h3 : 10 ≤ e + 1
  · rw [if_pos h3]
    simp (disch := omega) only [hwt, bd_some, gd_true, inR_nI, nI_clamp, nI_add, pk_mul, pk_sub, leT, leF, ltT, ltF, eqT, eqF, ite_true, ite_false, reduceIte, nz_nI, oc_s, oc_n, pk_div, pk_rem, m1F, L0, L1, L2, L3, L4, L5, L6, L7, L8, L9, L10, L11, L12, L19, L20, L24, L25, L27, L28, L30, L32, L37, L39, L40, L47, L48, L50, L55, L57, L60, L61, L63, L71, L80, L97, L99, L100, L120, L122, L128, L161, L17, L600, L1000000, L1024, L1408, isB0, isB1, subdm, inT, inFl, inFh]
  · have hbe := hb (e + 1) (by omega)
    rw [if_neg h3]
    simp (disch := omega) only [hwt, hbe, bd_some, gd_true, inR_nI, nI_clamp, nI_add, pk_mul, pk_sub, leT, leF, ltT, ltF, eqT, eqF, ite_true, ite_false, reduceIte, nz_nI, oc_s, oc_n, pk_div, pk_rem, m1F, L0, L1, L2, L3, L4, L5, L6, L7, L8, L9, L10, L11, L12, L19, L20, L24, L25, L27, L28, L30, L32, L37, L39, L40, L47, L48, L50, L55, L57, L60, L61, L63, L71, L80, L97, L99, L100, L120, L122, L128, L161, L17, L600, L1000000, L1024, L1408, isB0, isB1, subdm, inT, inFl, inFh]
theorem fillW {r : Rec} {n : Nat} {v : Hv} {b : Nat → Nat} (ok : HvOK v) (hd : Hd r n v) (hb : ∀ e, e < 10 → ga r 40 e = nI (b e)) (hb2 : ∀ e, e < 10 → b e ≤ 99) {W s : Nat} {A T : Int32} (hW : W ≤ 99) (hs : s < hS v) : ∀ k e l, 10 ≤ e + k → e ≤ 10 → l ≤ 99 → iter (fun st : Int32 × Int32 => bX10_fill_114 r A (nI W) T (nI s) st.1 st.2) (nI e, nI l) = bX10_fill_194 r A (nI W) T (nI s) (nI (gq b W (hWt v s) (k + 1) e l)) := by
  intro k
  induction k with
  | zero =>
    intro e l he h10 hl
    have e1 : gq b W (hWt v s) (0 + 1) e l = 1000000 := gq_far (by omega)
    rw [e1]
    exact iter_out (step := fun st : Int32 × Int32 => bX10_fill_114 r A (nI W) T (nI s) st.1 st.2) (s := (nI e, nI l)) (fill114_far (by omega))
  | succ k ih =>
    intro e l he h10 hl
    by_cases h0 : 10 ≤ e
    · have e1 : gq b W (hWt v s) (k + 1 + 1) e l = 1000000 := gq_far h0
      rw [e1]
      exact iter_out (step := fun st : Int32 × Int32 => bX10_fill_114 r A (nI W) T (nI s) st.1 st.2) (s := (nI e, nI l)) (fill114_far (by omega))
    · by_cases h2 : l + hWt v s ≤ W
      · rw [gq_fit (by omega) h2]
        exact iter_out (step := fun st : Int32 × Int32 => bX10_fill_114 r A (nI W) T (nI s) st.1 st.2) (s := (nI e, nI l)) (fill114_fit ok hd hW hs (by omega) hl h2)
      · rw [gq_nx (by omega) (by omega), iter_step (step := fun st : Int32 × Int32 => bX10_fill_114 r A (nI W) T (nI s) st.1 st.2) (s := (nI e, nI l)) (s' := (nI (e + 1), nI (if 10 ≤ e + 1 then 0 else b (e + 1)))) (fill114_nx ok hd hb hW hs (by omega) hl (by omega))]
        refine ih (e + 1) _ (by omega) (by omega) ?_
        by_cases h3 : 10 ≤ e + 1
        · rw [if_pos h3]; omega
        · rw [if_neg h3]; exact hb2 _ (by omega)
