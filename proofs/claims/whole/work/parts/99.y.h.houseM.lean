def hvl (u : Nat → Nat) (n : Nat) (ps vs ks : Nat → Nat) : Nat → Hv
  | 0 => hv0
  | l + 1 => if vs l = 0 then hadP (hvl u n ps vs ks l) (ks l) (num u n ps vs l 0) else if vs l = 1 then hadS (hvl u n ps vs ks l) (ks l) (num u n ps vs l 0) else if vs l = 2 then hadK (hvl u n ps vs ks l) (num u n ps vs l 0) (num u n ps vs l 1) else hadL (hvl u n ps vs ks l) (num u n ps vs l 0) (num u n ps vs l 1) (num u n ps vs l 2)
def farP (u : Nat → Nat) (n : Nat) (ps vs : Nat → Nat) : Nat → Nat
  | 0 => 0
  | l + 1 => if vs l = 2 then max (farP u n ps vs l) (num u n ps vs l 0 + 1) else farP u n ps vs l
def farS (u : Nat → Nat) (n : Nat) (ps vs : Nat → Nat) : Nat → Nat
  | 0 => 0
  | l + 1 => if vs l = 2 then max (farS u n ps vs l) (num u n ps vs l 1 + 1) else if vs l = 3 then max (max (max (farS u n ps vs l) (num u n ps vs l 0 + 1)) (num u n ps vs l 1 + 1)) (num u n ps vs l 2 + 1) else farS u n ps vs l
theorem fm_s (a : Nat) : nI (a + 1) - 1 = nI a := by rw [show (1 : Int32) = nI 1 from rfl, pk_sub (by omega)]; rfl
theorem grt_nI {m x : Nat} (hm : m ≤ 1000) (hx : x ≤ 1000) : grt (nI m - 1) (nI x) = nI (max m (x + 1)) - 1 := by
  unfold grt
  match m, hm with
  | 0, _ =>
    rw [show max 0 (x + 1) = x + 1 by omega, fm_s, show nI 0 - 1 = -nI 1 by decide]
    exact if_pos (Int32.le_iff_toInt_le.mpr (by rw [nI_toInt (by omega), show (-nI 1).toInt = -1 by decide]; omega))
  | a + 1, hm =>
    rw [fm_s]
    by_cases c : a ≤ x
    · rw [if_pos ((nI_leI (by omega) (by omega)).mpr c), show max (a + 1) (x + 1) = x + 1 by omega, fm_s]
    · rw [if_neg (fun z => c ((nI_leI (by omega) (by omega)).mp z)), show max (a + 1) (x + 1) = a + 1 by omega, fm_s]
theorem cnt_s (vs : Nat → Nat) (v l : Nat) : cnt vs v (l + 1) = cnt vs v l + if vs l = v then 1 else 0 := rfl
def HC (r : Rec) (u : Nat → Nat) (n : Nat) (ps vs ks : Nat → Nat) (l : Nat) : Prop := cnt vs 0 l ≤ 8 ∧ cnt vs 1 l ≤ 10 ∧ cnt vs 3 l ≤ 8 ∧ hP (hvl u n ps vs ks l) = cnt vs 0 l ∧ hS (hvl u n ps vs ks l) = cnt vs 1 l ∧ hL (hvl u n ps vs ks l) = cnt vs 3 l ∧ HM (ga r 19) 0 (hvl u n ps vs ks l) ∧ gi r 21 = nI (farP u n ps vs l) - 1 ∧ gi r 22 = nI (farS u n ps vs l) - 1 ∧ farP u n ps vs l ≤ 100 ∧ farS u n ps vs l ≤ 100
def HSt (r : Rec) (u : Nat → Nat) (n : Nat) (ps vs ks : Nat → Nat) (l : Nat) : Prop := (ga r 19 0 = nI (min 8 (cnt vs 0 l)) ∧ ga r 19 1 = nI (min 10 (cnt vs 1 l)) ∧ ga r 19 2 = nI (min 8 (cnt vs 3 l))) ∧ (ffl u n ps vs l = none → HC r u n ps vs ks l)
theorem NumOut.isb {u : Nat → Nat} {n q m : Nat} {f : Option (Rec × Int32)} {G fr : Rec → Prop} (h : NumOut u n f q m G fr) : NumOut u n (f.bind fun z => gd (isB z.2) (some ((z.1, z.2)))) q m G fr := by
  refine ⟨fun z => ?_, fun j hj hx hn => ?_⟩
  · obtain ⟨r', h1, h2⟩ := h.1 z
    exact ⟨r', by rw [h1]; rfl, h2⟩
  · obtain ⟨r', h1, h2⟩ := h.2 j hj hx hn
    exact ⟨r', by rw [h1]; rfl, h2⟩
theorem NumOut.mono {u : Nat → Nat} {n q m : Nat} {f : Option (Rec × Int32)} {G G' fr fr' : Rec → Prop} (h : NumOut u n f q m G fr) (hG : ∀ r, G r → G' r) (hf : ∀ r, fr r → fr' r) : NumOut u n f q m G' fr' := by
  refine ⟨fun z => ?_, fun j hj hx hn => ?_⟩
  · obtain ⟨r', h1, h2⟩ := h.1 z
    exact ⟨r', h1, hG r' h2⟩
  · obtain ⟨r', h1, h2, h3⟩ := h.2 j hj hx hn
    exact ⟨r', h1, h2, hf r' h3⟩
/-- the start of a line that may be one too many: full, then the next token -/
theorem begin_nI {r : Rec} {u : Nat → Nat} {n i v1 c cp : Nat} {ff : Option (Nat × Nat)} {tm : Bool} (h : AtM r u n i) (hF : FS r ff (tks u n i)) (hk : ¬ tkk u n i = 0) (h1 : v1 < 161) (hc : ga r 19 v1 = nI c) (hcp : c < 2 ^ 31) (hcp2 : cp < 2 ^ 31) (ht : tm = true ↔ c = cp) : ∃ r1 r2, fX10_full r (nI v1) (nI cp) (nI (tks u n i)) = some r1 ∧ fX10_token r1 = some r2 ∧ AtM r2 u n (tke u n i) ∧ FS r2 (lt1 ff (!tm) 3 (tks u n i)) (tks u n (tke u n i)) ∧ (∀ k, ga r2 k = ga r k) ∧ gi r2 21 = gi r 21 ∧ gi r2 22 = gi r 22 ∧ gi r2 23 = gi r 23 ∧ gi r2 24 = gi r 24 := by
  have hb := tok_b (u := u) h.2.1
  have hb2 := tok_b (u := u) hb.2.2.1
  have hlt := hb.2.2.2.2.2.1 hk
  have hn := h.1.1
  obtain ⟨r1, f1, f2, f3, f4, f5⟩ := full_nI h1 hc hcp hcp2 ht hF (Nat.le_refl _) (by omega)
  have A1 : AtM r1 u n i := h.to (f4 1) (fun k k1 k2 => f3 k (by omega) (by omega)) (f5 15)
  obtain ⟨r2, g1, g2, g3, g4⟩ := A1.next
  exact ⟨r1, r2, f1, g1, g2, f2.to (g3 17 (by decide) (by decide) (by decide) (by decide)) (g3 18 (by decide) (by decide) (by decide) (by decide)) (by omega), fun k => (g4 k).trans (f4 k), (g3 21 (by decide) (by decide) (by decide) (by decide)).trans (f3 21 (by decide) (by decide)), (g3 22 (by decide) (by decide) (by decide) (by decide)).trans (f3 22 (by decide) (by decide)), (g3 23 (by decide) (by decide) (by decide) (by decide)).trans (f3 23 (by decide) (by decide)), (g3 24 (by decide) (by decide) (by decide) (by decide)).trans (f3 24 (by decide) (by decide))⟩
theorem wH {u : Nat → Nat} {n i v : Nat} (hu : ∀ j, u j < 256) (hi : i ≤ n) (hv : v < 12) (hm : MtV u n i v) : (lg_cmp (wdq u n i) 482804589413 = 0 ↔ v = 0) ∧ (lg_cmp (wdq u n i) 126879297332596 = 0 ↔ v = 1) ∧ (lg_cmp (wdq u n i) 461414299507 = 0 ↔ v = 2) ∧ (lg_cmp (wdq u n i) 1818848875 = 0 ↔ v = 3) := by
  have w0 := word_iff (k := 0) (C := 482804589413) hu hi (by decide) (by decide) (by decide +kernel)
  have w1 := word_iff (k := 1) (C := 126879297332596) hu hi (by decide) (by decide) (by decide +kernel)
  have w2 := word_iff (k := 2) (C := 461414299507) hu hi (by decide) (by decide) (by decide +kernel)
  have w3 := word_iff (k := 3) (C := 1818848875) hu hi (by decide) (by decide) (by decide +kernel)
  have f : ∀ k, k < 12 → (MtV u n i k ↔ v = k) := fun k hk => ⟨fun z => MtV_inj hv hk hm z, fun z => z ▸ hm⟩
  exact ⟨w0.trans (f 0 (by decide)), w1.trans (f 1 (by decide)), w2.trans (f 2 (by decide)), w3.trans (f 3 (by decide))⟩
theorem hl_red {r : Rec} {u : Nat → Nat} {n i v : Nat} {p : Int32} (hu : ∀ j, u j < 256) (hi : i ≤ n) (hv : v < 12) (hm : MtV u n i v) : (v = 0 → fX10_houseLine r (wdq u n i) p = (fX10_full r 0 8 p).bind fun z => (fX10_token z).bind fun z3 => (kdL z3 0 9 0 3 8 8).bind fun z => gd (isB z.2) (some ((z.1, z.2)))) ∧ (v = 1 → fX10_houseLine r (wdq u n i) p = (fX10_full r 1 10 p).bind fun z => (fX10_token z).bind fun z3 => (kdL z3 1 30 1 27 10 10).bind fun z => gd (isB z.2) (some ((z.1, z.2)))) ∧ (v = 2 → fX10_houseLine r (wdq u n i) p = (fX10_token r).bind fun z3 => (fX10_knowsLine z3).bind fun z => gd (isB z.2) (some ((z.1, z.2)))) ∧ (v = 3 → fX10_houseLine r (wdq u n i) p = (fX10_full r 2 8 p).bind fun z => (fX10_token z).bind fun z3 => lkL z3) := by
  obtain ⟨w0, w1, w2, w3⟩ := wH hu hi hv hm
  refine ⟨fun e => ?_, fun e => ?_, fun e => ?_, fun e => ?_⟩
  · unfold fX10_houseLine bX10_houseLine_37 bX10_houseLine_71 bX10_houseLine_86 bX10_houseLine_90 bX10_houseLine_129
    rw [if_pos (w0.mpr e), if_neg (fun z => by have := w2.mp z; omega), if_pos (w0.mpr e), if_neg (fun z => by have := w1.mp z; omega)]
    simp only [if_neg (show ¬ lg_cmp (wdq u n i) 461414299507 = 0 from fun z => by have := w2.mp z; omega), if_neg (show ¬ lg_cmp (wdq u n i) 1818848875 = 0 from fun z => by have := w3.mp z; omega), if_pos (w0.mpr e), kindLine_1]
  · unfold fX10_houseLine bX10_houseLine_37 bX10_houseLine_71 bX10_houseLine_86 bX10_houseLine_90 bX10_houseLine_129
    rw [if_neg (fun z => by have := w0.mp z; omega), if_pos (w1.mpr e), if_neg (fun z => by have := w2.mp z; omega), if_neg (fun z => by have := w0.mp z; omega), if_pos (w1.mpr e), if_pos (w1.mpr e)]
    simp only [if_neg (show ¬ lg_cmp (wdq u n i) 461414299507 = 0 from fun z => by have := w2.mp z; omega), if_neg (show ¬ lg_cmp (wdq u n i) 1818848875 = 0 from fun z => by have := w3.mp z; omega), if_neg (show ¬ lg_cmp (wdq u n i) 482804589413 = 0 from fun z => by have := w0.mp z; omega), kindLine_0]
  · unfold fX10_houseLine bX10_houseLine_37 bX10_houseLine_90
    rw [if_neg (fun z => by have := w0.mp z; omega), if_neg (fun z => by have := w1.mp z; omega), if_pos (w2.mpr e), if_pos (w2.mpr e)]
    simp only [if_pos (w2.mpr e)]
  · unfold fX10_houseLine bX10_houseLine_37 bX10_houseLine_71 bX10_houseLine_86 bX10_houseLine_90 bX10_houseLine_129
    rw [if_neg (fun z => by have := w0.mp z; omega), if_neg (fun z => by have := w1.mp z; omega), if_neg (fun z => by have := w2.mp z; omega), if_pos (w3.mpr e), if_neg (fun z => by have := w2.mp z; omega), if_neg (fun z => by have := w0.mp z; omega), if_neg (fun z => by have := w1.mp z; omega), if_neg (fun z => by have := w1.mp z; omega)]
    simp only [if_neg (show ¬ lg_cmp (wdq u n i) 461414299507 = 0 from fun z => by have := w2.mp z; omega), if_pos (w3.mpr e)]
    rfl
theorem hl_none {r : Rec} {u : Nat → Nat} {n i : Nat} {p : Int32} (h : AtM r u n i) (hm : ∀ v, v < 4 → ¬ MtV u n i v) : fX10_houseLine r (wdq u n i) p = some (si r 16 (nI (tks u n i)), 0) := by
  have hu := h.1.2.2.1
  have w0 := word_iff (k := 0) (C := 482804589413) hu h.2.1 (by decide) (by decide) (by decide +kernel)
  have w1 := word_iff (k := 1) (C := 126879297332596) hu h.2.1 (by decide) (by decide) (by decide +kernel)
  have w2 := word_iff (k := 2) (C := 461414299507) hu h.2.1 (by decide) (by decide) (by decide +kernel)
  have w3 := word_iff (k := 3) (C := 1818848875) hu h.2.1 (by decide) (by decide) (by decide +kernel)
  unfold fX10_houseLine
  rw [if_neg (show ¬ lg_cmp (wdq u n i) 482804589413 = 0 from fun z => hm 0 (by decide) (w0.mp z)), if_neg (show ¬ lg_cmp (wdq u n i) 126879297332596 = 0 from fun z => hm 1 (by decide) (w1.mp z)), if_neg (show ¬ lg_cmp (wdq u n i) 461414299507 = 0 from fun z => hm 2 (by decide) (w2.mp z)), if_neg (show ¬ lg_cmp (wdq u n i) 1818848875 = 0 from fun z => hm 3 (by decide) (w3.mp z)), fails_nI h]
  rfl
