/-! images: copies of all that is told -/
theorem cp8 : cpOK 0 0 8 8 8 = true := by decide +kernel
theorem cp10 : cpOK 0 0 10 10 10 = true := by decide +kernel
theorem cp600 : cpOK 0 0 600 600 600 = true := by decide +kernel
theorem cp4 : cpOK 0 0 4 4 4 = true := by decide +kernel
theorem tc0 : Int32.toNatClampNeg 0 = 0 := by decide +kernel
theorem tc4 : Int32.toNatClampNeg 4 = 4 := by decide +kernel
theorem tc8 : Int32.toNatClampNeg 8 = 8 := by decide +kernel
theorem tc10 : Int32.toNatClampNeg 10 = 10 := by decide +kernel
theorem tc600 : Int32.toNatClampNeg 600 = 600 := by decide +kernel
theorem cpy0 {f h : Nat → Int32} {n j : Nat} (hj : j < n) : va_cpy f h 0 0 n j = f j := by
  rw [pk_cpy_in (Nat.zero_le j) (by omega), Nat.zero_add, Nat.sub_zero]
def cpH (h t : Rec) : Rec := sa (sa (sa (sa (sa (sa (sa (sa (si (si (si t 0 (gi h 0)) 1 (gi h 1)) 2 (gi h 2)) 3 (va_cpy (ga h 3) (ga t 3) 0 0 8)) 4 (va_cpy (ga h 4) (ga t 4) 0 0 8)) 5 (va_cpy (ga h 5) (ga t 5) 0 0 8)) 6 (va_cpy (ga h 6) (ga t 6) 0 0 10)) 7 (va_cpy (ga h 7) (ga t 7) 0 0 10)) 8 (va_cpy (ga h 8) (ga t 8) 0 0 8)) 9 (va_cpy (ga h 9) (ga t 9) 0 0 8)) 10 (va_cpy (ga h 10) (ga t 10) 0 0 8)
theorem hcopy {g : Gs} {o u : Nat} (hne : u ≠ o) : fX2_copyFrom g o u = some (ug g o (cpH (g u) (g o))) := by
  unfold fX2_copyFrom
  simp only [bd_some, cp8, cp10, gd_true, ug_same, ug_ug, ug_ne hne, tc0, tc8, tc10]
  rfl
theorem HX.cp {h t : Rec} {v : Hv} (ok : HvOK v) (hx : HX h v) : HX (cpH h t) v := by
  have h1 := ok.1
  have h2 := ok.2.1
  have h3 := ok.2.2.1
  refine ⟨hx.1, hx.2.1, hx.2.2.1, fun p hp => ⟨?_, ?_⟩, fun p hp => ?_, fun s hs => ⟨?_, ?_⟩, fun l hl => ⟨?_, ?_, ?_⟩⟩
  · show va_cpy (ga h 3) (ga t 3) 0 0 8 p = _
    rw [cpy0 (by omega)]; exact hx.ta hp
  · show va_cpy (ga h 4) (ga t 4) 0 0 8 p = _
    rw [cpy0 (by omega)]; exact hx.we hp
  · show va_cpy (ga h 5) (ga t 5) 0 0 8 p = _
    rw [cpy0 (by omega)]; exact hx.kn hp
  · show va_cpy (ga h 6) (ga t 6) 0 0 10 s = _
    rw [cpy0 (by omega)]; exact hx.ki hs
  · show va_cpy (ga h 7) (ga t 7) 0 0 10 s = _
    rw [cpy0 (by omega)]; exact hx.wt hs
  · show va_cpy (ga h 8) (ga t 8) 0 0 8 l = _
    rw [cpy0 (by omega)]; exact hx.a1 hl
  · show va_cpy (ga h 9) (ga t 9) 0 0 8 l = _
    rw [cpy0 (by omega)]; exact hx.a2 hl
  · show va_cpy (ga h 10) (ga t 10) 0 0 8 l = _
    rw [cpy0 (by omega)]; exact hx.a3 hl
def cpR (h t : Rec) (n : Nat) : Rec := sa (si t 2 (nI n)) 1 (va_cpy (ga h 1) (ga t 1) 0 0 (4 * n))
theorem cpOK_n {m a b : Nat} (h : m < 2 ^ 31) (ha : m ≤ a) (hb : m ≤ b) : cpOK 0 0 (nI m) a b = true := by
  unfold cpOK
  rw [nI_clamp h]
  exact decide_eq_true ⟨by decide, by decide, nI_nlt0 h, by rw [tc0]; omega, by rw [tc0]; omega⟩
theorem rcopy {g : Gs} {o u n lim : Nat} {U O : Rec} (eu : g u = U) (eo : g o = O) (hne : u ≠ o) (h1 : gi U 0 = nI lim) (h2 : gi O 0 = nI lim) (h3 : gi U 2 = nI n) (hn : n ≤ lim) (hl : lim ≤ 40) : fX5_copyFrom g o u = some (ug g o (cpR U O n)) := by
  subst eu
  subst eo
  have e1 : mni (nI n) (nI lim) = nI n := by rw [mn_nI (by omega) (by omega), Nat.min_eq_left hn]
  have e2 : nI n * 4 = nI (4 * n) := by rw [show (4 : Int32) = nI 4 from rfl, pk_mul, Nat.mul_comm]
  have e3 : gi (si (g o) 2 (nI n)) 0 = nI lim := h2
  have e4 : gi (si (g o) 2 (nI n)) 2 = nI n := rfl
  unfold fX5_copyFrom
  simp only [bd_some, ug_same, ug_ug, ug_ne hne, h1, h2, h3, e1, e3, e4, e2, tc0, nI_clamp (show lim < 2 ^ 31 by omega), nI_clamp (show 4 * n < 2 ^ 31 by omega), cpOK_n (show 4 * n < 2 ^ 31 by omega) (show 4 * n ≤ 4 * lim by omega) (show 4 * n ≤ 4 * lim by omega), gd_true]
  rfl
theorem MX.cp {h t : Rec} {v : Rv} {n : Nat} (ok : MvOK v) (hx : MX h v) (h0 : gi t 0 = nI 40) (hn : gi h 2 = nI n) (hn2 : n ≤ 40) : MX (cpR h t n) v := by
  have h1 := ok.1
  have e : n = v.1 := (nI_eq (by omega) (by omega)).mp (hn.symm.trans hx.2.1)
  subst e
  refine ⟨h0, rfl, fun k hk => ⟨?_, fun c hc => ?_⟩⟩
  · show va_cpy (ga h 1) (ga t 1) 0 0 (4 * v.1) (4 * k) = _
    rw [cpy0 (by omega)]; exact (hx.2.2 k hk).1
  · show va_cpy (ga h 1) (ga t 1) 0 0 (4 * v.1) (4 * k + c + 1) = _
    rw [cpy0 (by omega)]; exact (hx.2.2 k hk).2 c hc
theorem DX.cp {h t : Rec} {v : Rv} {n : Nat} (ok : DvOK v) (hx : DX h v) (h0 : gi t 0 = nI 8) (hn : gi h 2 = nI n) (hn2 : n ≤ 8) : DX (cpR h t n) v := by
  have h1 := ok.1
  have e : n = v.1 := (nI_eq (by omega) (by omega)).mp (hn.symm.trans hx.2.1)
  subst e
  refine ⟨h0, rfl, fun k hk c hc => ?_⟩
  show va_cpy (ga h 1) (ga t 1) 0 0 (4 * v.1) (4 * k + c + 1) = _
  rw [cpy0 (by omega)]; exact hx.2.2 k hk c hc
theorem LX.cp {h t : Rec} {v : Rv} {n : Nat} (ok : LvOK v) (hx : LX h v) (h0 : gi t 0 = nI 8) (hn : gi h 2 = nI n) (hn2 : n ≤ 8) : LX (cpR h t n) v := by
  have h1 := ok.1
  have e : n = v.1 := (nI_eq (by omega) (by omega)).mp (hn.symm.trans hx.2.1)
  subst e
  refine ⟨h0, rfl, fun k hk c hc => ?_⟩
  show va_cpy (ga h 1) (ga t 1) 0 0 (4 * v.1) (4 * k + c + 1) = _
  rw [cpy0 (by omega)]; exact hx.2.2 k hk c hc
def cpT (h t : Rec) : Rec := sa (si (si (si (sa t 0 (va_cpy (ga h 0) (ga t 0) 0 0 600)) 1 (gi h 1)) 2 (gi h 2)) 3 (gi h 3)) 4 (va_cpy (ga h 4) (ga t 4) 0 0 4)
theorem fitB_mk {f : Nat → Int32} {n : Nat} (h : ∀ i, i < n → isBy (f i)) : fitB f 0 n = true := by
  unfold fitB
  refine List.all_eq_true.mpr (fun i hi => ?_)
  have h1 := h i (List.mem_range.mp hi)
  unfold isBy at h1
  rw [Nat.zero_add]
  exact h1
def own (a o : Nat) : Prop := o = 800 + a ∨ (200 + 2 * a ≤ o ∧ o ≤ 201 + 2 * a) ∨ (500 + 6 * a ≤ o ∧ o ≤ 505 + 6 * a)
def TL (g : Gs) (a i : Nat) : Prop := gi (g (500 + 6 * a + i)) 0 = nI 40 ∧ gi (g (502 + 6 * a + i)) 0 = nI 8 ∧ gi (g (504 + 6 * a + i)) 0 = nI 8
def rd4 (g : Gs) (a b i nm nd nl : Nat) : Gs := ug (ug (ug (ug g (200 + 2 * a + i) (cpH (g (200 + 2 * b + i)) (g (200 + 2 * a + i)))) (500 + 6 * a + i) (cpR (g (500 + 6 * b + i)) (g (500 + 6 * a + i)) nm)) (502 + 6 * a + i) (cpR (g (502 + 6 * b + i)) (g (502 + 6 * a + i)) nd)) (504 + 6 * a + i) (cpR (g (504 + 6 * b + i)) (g (504 + 6 * a + i)) nl)
theorem rd4_ne {g : Gs} {a b i nm nd nl o : Nat} (h1 : o ≠ 200 + 2 * a + i) (h2 : o ≠ 500 + 6 * a + i) (h3 : o ≠ 502 + 6 * a + i) (h4 : o ≠ 504 + 6 * a + i) : rd4 g a b i nm nd nl o = g o := by
  unfold rd4
  rw [ug_ne h4, ug_ne h3, ug_ne h2, ug_ne h1]
theorem rd4_h {g : Gs} {a b i nm nd nl : Nat} (ha : a ≤ 3) (hi : i < 2) : rd4 g a b i nm nd nl (200 + 2 * a + i) = cpH (g (200 + 2 * b + i)) (g (200 + 2 * a + i)) := by
  unfold rd4
  rw [ug_ne (by omega), ug_ne (by omega), ug_ne (by omega), ug_same]
theorem rd4_m {g : Gs} {a b i nm nd nl : Nat} : rd4 g a b i nm nd nl (500 + 6 * a + i) = cpR (g (500 + 6 * b + i)) (g (500 + 6 * a + i)) nm := by
  unfold rd4
  rw [ug_ne (by omega), ug_ne (by omega), ug_same]
theorem rd4_d {g : Gs} {a b i nm nd nl : Nat} : rd4 g a b i nm nd nl (502 + 6 * a + i) = cpR (g (502 + 6 * b + i)) (g (502 + 6 * a + i)) nd := by
  unfold rd4
  rw [ug_ne (by omega), ug_same]
theorem rd4_l {g : Gs} {a b i nm nd nl : Nat} : rd4 g a b i nm nd nl (504 + 6 * a + i) = cpR (g (504 + 6 * b + i)) (g (504 + 6 * a + i)) nl := by
  unfold rd4
  rw [ug_same]
theorem cround {g : Gs} {a b i nm nd nl : Nat} (ha : a ≤ 3) (hb : b ≤ 3) (hab : a ≠ b) (hi : i < 2) (t1 : TL g a i) (t2 : TL g b i) (hm : gi (g (500 + 6 * b + i)) 2 = nI nm) (hd : gi (g (502 + 6 * b + i)) 2 = nI nd) (hl : gi (g (504 + 6 * b + i)) 2 = nI nl) (m1 : nm ≤ 40) (m2 : nd ≤ 8) (m3 : nl ≤ 8) : bX8_copyFrom_56 g (800 + a) (800 + b) (nI i) = some (.inl (nI (i + 1), rd4 g a b i nm nd nl)) := by
  have c1 := hcopy (g := g) (show 200 + 2 * b + i ≠ 200 + 2 * a + i by omega)
  obtain ⟨g1, hg1⟩ : ∃ g1, g1 = ug g (200 + 2 * a + i) (cpH (g (200 + 2 * b + i)) (g (200 + 2 * a + i))) := ⟨_, rfl⟩
  have c2 : fX5_copyFrom g1 (500 + 6 * a + i) (500 + 6 * b + i) = some (ug g1 (500 + 6 * a + i) (cpR (g (500 + 6 * b + i)) (g (500 + 6 * a + i)) nm)) := rcopy (by rw [hg1, ug_ne (by omega)]) (by rw [hg1, ug_ne (by omega)]) (by omega) t2.1 t1.1 hm m1 (by decide)
  obtain ⟨g2, hg2⟩ : ∃ g2, g2 = ug g1 (500 + 6 * a + i) (cpR (g (500 + 6 * b + i)) (g (500 + 6 * a + i)) nm) := ⟨_, rfl⟩
  have c3 : fX5_copyFrom g2 (502 + 6 * a + i) (502 + 6 * b + i) = some (ug g2 (502 + 6 * a + i) (cpR (g (502 + 6 * b + i)) (g (502 + 6 * a + i)) nd)) := rcopy (by rw [hg2, ug_ne (by omega), hg1, ug_ne (by omega)]) (by rw [hg2, ug_ne (by omega), hg1, ug_ne (by omega)]) (by omega) t2.2.1 t1.2.1 hd m2 (by decide)
  obtain ⟨g3, hg3⟩ : ∃ g3, g3 = ug g2 (502 + 6 * a + i) (cpR (g (502 + 6 * b + i)) (g (502 + 6 * a + i)) nd) := ⟨_, rfl⟩
  have c4 : fX5_copyFrom g3 (504 + 6 * a + i) (504 + 6 * b + i) = some (ug g3 (504 + 6 * a + i) (cpR (g (504 + 6 * b + i)) (g (504 + 6 * a + i)) nl)) := rcopy (by rw [hg3, ug_ne (by omega), hg2, ug_ne (by omega), hg1, ug_ne (by omega)]) (by rw [hg3, ug_ne (by omega), hg2, ug_ne (by omega), hg1, ug_ne (by omega)]) (by omega) t2.2.2 t1.2.2 hl m3 (by decide)
  unfold bX8_copyFrom_56 rd4
  rw [if_neg (show ¬ (2 : Int32) ≤ nI i from fun h => by have := (nI_leI (a := 2) (by decide) (by omega)).mp h; omega), inR_nI hi (by decide)]
  simp only [gd_true, bd_some, nI_clamp (show i < 2 ^ 31 by omega), Nat.add_sub_cancel_left]
  rw [c1, bd_some, ← hg1, c2, bd_some, ← hg2, c3, bd_some, ← hg3, c4, bd_some, nI_1]
/-- block t' of g' is as block t of g -/
def GE (g : Gs) (t : Nat) (g' : Gs) (t' : Nat) : Prop := (∀ i, i < 600 → ga (g' (800 + t')) 0 i = ga (g (800 + t)) 0 i) ∧ gi (g' (800 + t')) 1 = gi (g (800 + t)) 1 ∧ gi (g' (800 + t')) 2 = gi (g (800 + t)) 2 ∧ gi (g' (800 + t')) 3 = gi (g (800 + t)) 3 ∧ (∀ k, k < 4 → ga (g' (800 + t')) 4 k = ga (g (800 + t)) 4 k) ∧ (∀ i, i < 2 → ∀ v, HvOK v → HX (g (200 + 2 * t + i)) v → HX (g' (200 + 2 * t' + i)) v) ∧ (∀ i, i < 2 → ∀ v, MvOK v → MX (g (500 + 6 * t + i)) v → MX (g' (500 + 6 * t' + i)) v) ∧ (∀ i, i < 2 → ∀ v, DvOK v → DX (g (502 + 6 * t + i)) v → DX (g' (502 + 6 * t' + i)) v) ∧ ∀ i, i < 2 → ∀ v, LvOK v → LX (g (504 + 6 * t + i)) v → LX (g' (504 + 6 * t' + i)) v
def BE (r : Rec) (t : Nat) (r' : Rec) (t' : Nat) : Prop := (∀ i, i < 600 → ga r' 1 (600 * t' + i) = ga r 1 (600 * t + i)) ∧ ga r' 2 t' = ga r 2 t ∧ ga r' 3 t' = ga r 3 t ∧ ga r' 4 t' = ga r 4 t ∧ (∀ k, k < 4 → ga r' 5 (4 * t' + k) = ga r 5 (4 * t + k)) ∧ (∀ j, j < 142 → ga r' 6 (142 * t' + j) = ga r 6 (142 * t + j)) ∧ (∀ j, j < 322 → ga r' 7 (322 * t' + j) = ga r 7 (322 * t + j)) ∧ (∀ j, j < 50 → ga r' 8 (50 * t' + j) = ga r 8 (50 * t + j)) ∧ ∀ j, j < 34 → ga r' 9 (34 * t' + j) = ga r 9 (34 * t + j)
theorem HM.mv {m m' : Nat → Int32} {o o' : Nat} {v : Hv} (ok : HvOK v) (h : HM m o v) (e : ∀ j, j < 71 → m' (o' + j) = m (o + j)) : HM m' o' v := by
  have h1 := ok.1
  have h2 := ok.2.1
  have h3 := ok.2.2.1
  obtain ⟨a1, a2, a3, a4, a5, a6, a7, a8⟩ := h
  refine ⟨(e 0 (by omega)).trans a1, (e 1 (by omega)).trans a2, (e 2 (by omega)).trans a3, fun p hp => ?_, fun p hp => ?_, fun p hp => ?_, fun s hs => ⟨?_, ?_⟩, fun l hl => ⟨?_, ?_, ?_⟩⟩
  · rw [Nat.add_assoc, e _ (by omega), ← Nat.add_assoc]; exact a4 p hp
  · rw [Nat.add_assoc, e _ (by omega), ← Nat.add_assoc]; exact a5 p hp
  · rw [Nat.add_assoc, e _ (by omega), ← Nat.add_assoc]; exact a6 p hp
  · rw [Nat.add_assoc, e _ (by omega), ← Nat.add_assoc]; exact (a7 s hs).1
  · rw [Nat.add_assoc, e _ (by omega), ← Nat.add_assoc]; exact (a7 s hs).2
  · rw [Nat.add_assoc, e _ (by omega), ← Nat.add_assoc]; exact (a8 l hl).1
  · rw [Nat.add_assoc, e _ (by omega), ← Nat.add_assoc]; exact (a8 l hl).2.1
  · rw [Nat.add_assoc, e _ (by omega), ← Nat.add_assoc]; exact (a8 l hl).2.2
theorem MM.mv {m m' : Nat → Int32} {o o' : Nat} {v : Rv} (ok : MvOK v) (h : MM m o v) (e : ∀ j, j < 161 → m' (o' + j) = m (o + j)) : MM m' o' v := by
  have h1 := ok.1
  refine ⟨(e 0 (by omega)).trans h.1, fun k hk c hc => ?_⟩
  rw [show o' + 1 + 4 * k + c = o' + (1 + 4 * k + c) by omega, e _ (by omega), show o + (1 + 4 * k + c) = o + 1 + 4 * k + c by omega]
  exact h.2 k hk c hc
theorem DM.mv {m m' : Nat → Int32} {o o' : Nat} {v : Rv} (ok : DvOK v) (h : DM m o v) (e : ∀ j, j < 25 → m' (o' + j) = m (o + j)) : DM m' o' v := by
  have h1 := ok.1
  refine ⟨(e 0 (by omega)).trans h.1, fun k hk c hc => ?_⟩
  rw [show o' + 1 + 3 * k + c = o' + (1 + 3 * k + c) by omega, e _ (by omega), show o + (1 + 3 * k + c) = o + 1 + 3 * k + c by omega]
  exact h.2 k hk c hc
theorem LM.mv {m m' : Nat → Int32} {o o' : Nat} {v : Rv} (ok : LvOK v) (h : LM m o v) (e : ∀ j, j < 17 → m' (o' + j) = m (o + j)) : LM m' o' v := by
  have h1 := ok.1
  refine ⟨(e 0 (by omega)).trans h.1, fun k hk c hc => ?_⟩
  rw [show o' + 1 + 2 * k + c = o' + (1 + 2 * k + c) by omega, e _ (by omega), show o + (1 + 2 * k + c) = o + 1 + 2 * k + c by omega]
  exact h.2 k hk c hc
theorem BR.move {g g' : Gs} {r r' : Rec} {t t' : Nat} (h : BR g r t) (hg : GE g t g' t') (hr : BE r t r' t') : BR g' r' t' := by
  obtain ⟨⟨n, hn, n1, n2⟩, b2, b3, b4, b5, b6, b7, b8, b9⟩ := h
  obtain ⟨x1, x2, x3, x4, x5, x6, x7, x8, x9⟩ := hg
  obtain ⟨y1, y2, y3, y4, y5, y6, y7, y8, y9⟩ := hr
  refine ⟨⟨n, hn, x2.trans n1, y2.trans n2⟩, fun i hi => ?_, ?_, ?_, fun k hk => ?_, fun i hi => ?_, fun i hi => ?_, fun i hi => ?_, fun i hi => ?_⟩
  · rw [x1 i hi, y1 i hi]; exact b2 i hi
  · rw [x3, y3]; exact b3
  · rw [x4, y4]; exact b4
  · obtain ⟨c, c1, c2, c3⟩ := b5 k hk
    exact ⟨c, c1, (x5 k hk).trans c2, (y5 k hk).trans c3⟩
  · obtain ⟨v, c1, c2, c3⟩ := b6 i hi
    refine ⟨v, c1, x6 i hi v c1 c2, c3.mv c1 (fun j hj => ?_)⟩
    have := y6 (71 * i + j) (by omega)
    rw [show 71 * (2 * t' + i) + j = 142 * t' + (71 * i + j) by omega, this]
    congr 1
    omega
  · obtain ⟨v, c1, c2, c3⟩ := b7 i hi
    refine ⟨v, c1, x7 i hi v c1 c2, c3.mv c1 (fun j hj => ?_)⟩
    have := y7 (161 * i + j) (by omega)
    rw [show 161 * (2 * t' + i) + j = 322 * t' + (161 * i + j) by omega, this]
    congr 1
    omega
  · obtain ⟨v, c1, c2, c3⟩ := b8 i hi
    refine ⟨v, c1, x8 i hi v c1 c2, c3.mv c1 (fun j hj => ?_)⟩
    have := y8 (25 * i + j) (by omega)
    rw [show 25 * (2 * t' + i) + j = 50 * t' + (25 * i + j) by omega, this]
    congr 1
    omega
  · obtain ⟨v, c1, c2, c3⟩ := b9 i hi
    refine ⟨v, c1, x9 i hi v c1 c2, c3.mv c1 (fun j hj => ?_)⟩
    have := y9 (17 * i + j) (by omega)
    rw [show 17 * (2 * t' + i) + j = 34 * t' + (17 * i + j) by omega, this]
    congr 1
    omega
theorem GE.of {g g' : Gs} {t : Nat} (h : ∀ o, own t o → g' o = g o) : GE g t g' t := by
  have e8 := h (800 + t) (Or.inl rfl)
  refine ⟨fun i _ => by rw [e8], by rw [e8], by rw [e8], by rw [e8], fun k _ => by rw [e8], fun i hi v _ hx => ?_, fun i hi v _ hx => ?_, fun i hi v _ hx => ?_, fun i hi v _ hx => ?_⟩
  · rw [h _ (Or.inr (Or.inl ⟨by omega, by omega⟩))]; exact hx
  · rw [h _ (Or.inr (Or.inr ⟨by omega, by omega⟩))]; exact hx
  · rw [h _ (Or.inr (Or.inr ⟨by omega, by omega⟩))]; exact hx
  · rw [h _ (Or.inr (Or.inr ⟨by omega, by omega⟩))]; exact hx
theorem BR.tl {g : Gs} {r : Rec} {t i : Nat} (h : BR g r t) (hi : i < 2) : TL g t i := by
  obtain ⟨-, -, -, -, -, -, b7, b8, b9⟩ := h
  obtain ⟨v, -, c2, -⟩ := b7 i hi
  obtain ⟨w, -, d2, -⟩ := b8 i hi
  obtain ⟨x, -, e2, -⟩ := b9 i hi
  exact ⟨c2.1, d2.1, e2.1⟩
theorem BR.sz {g : Gs} {r : Rec} {t i : Nat} (h : BR g r t) (hi : i < 2) : ∃ nm nd nl : Nat, gi (g (500 + 6 * t + i)) 2 = nI nm ∧ gi (g (502 + 6 * t + i)) 2 = nI nd ∧ gi (g (504 + 6 * t + i)) 2 = nI nl ∧ nm ≤ 40 ∧ nd ≤ 8 ∧ nl ≤ 8 := by
  obtain ⟨-, -, -, -, -, -, b7, b8, b9⟩ := h
  obtain ⟨v, o1, c2, -⟩ := b7 i hi
  obtain ⟨w, o2, d2, -⟩ := b8 i hi
  obtain ⟨x, o3, e2, -⟩ := b9 i hi
  exact ⟨v.1, w.1, x.1, c2.2.1, d2.2.1, e2.2.1, o1.1, o2.1, o3.1⟩
theorem tcopy {g : Gs} {r : Rec} {a b : Nat} (ha : a ≤ 3) (hb : b ≤ 3) (hab : a ≠ b) (h : BR g r b) (t1 : ∀ i, i < 2 → TL g a i) : ∃ g', fX8_copyFrom g (800 + a) (800 + b) = some g' ∧ (∀ o, ¬ own a o → g' o = g o) ∧ GE g b g' a := by
  obtain ⟨m0, d0, l0, s1, s2, s3, s4, s5, s6⟩ := h.sz (i := 0) (by decide)
  obtain ⟨m1, d1, l1, z1, z2, z3, z4, z5, z6⟩ := h.sz (i := 1) (by decide)
  have tb0 := h.tl (i := 0) (by decide)
  have tb1 := h.tl (i := 1) (by decide)
  have ta0 := t1 0 (by decide)
  have ta1 := t1 1 (by decide)
  obtain ⟨g0, hg0⟩ : ∃ g0, g0 = ug g (800 + a) (cpT (g (800 + b)) (g (800 + a))) := ⟨_, rfl⟩
  have e0 : ∀ o, o ≠ 800 + a → g0 o = g o := fun o ho => by rw [hg0, ug_ne ho]
  have c0 := cround (g := g0) (a := a) (b := b) (i := 0) (nm := m0) (nd := d0) (nl := l0) ha hb hab (by decide) (by unfold TL; rw [e0 _ (by omega), e0 _ (by omega), e0 _ (by omega)]; exact ta0) (by unfold TL; rw [e0 _ (by omega), e0 _ (by omega), e0 _ (by omega)]; exact tb0) (by rw [e0 _ (by omega)]; exact s1) (by rw [e0 _ (by omega)]; exact s2) (by rw [e0 _ (by omega)]; exact s3) s4 s5 s6
  obtain ⟨g1, hg1⟩ : ∃ g1, g1 = rd4 g0 a b 0 m0 d0 l0 := ⟨_, rfl⟩
  have e1 : ∀ o, o ≠ 800 + a → o ≠ 200 + 2 * a → o ≠ 500 + 6 * a → o ≠ 502 + 6 * a → o ≠ 504 + 6 * a → g1 o = g o := fun o q1 q2 q3 q4 q5 => by rw [hg1, rd4_ne q2 q3 q4 q5, e0 o q1]
  rw [← hg1] at c0
  have c1 := cround (g := g1) (a := a) (b := b) (i := 1) (nm := m1) (nd := d1) (nl := l1) ha hb hab (by decide) (by unfold TL; rw [e1 _ (by omega) (by omega) (by omega) (by omega) (by omega), e1 _ (by omega) (by omega) (by omega) (by omega) (by omega), e1 _ (by omega) (by omega) (by omega) (by omega) (by omega)]; exact ta1) (by unfold TL; rw [e1 _ (by omega) (by omega) (by omega) (by omega) (by omega), e1 _ (by omega) (by omega) (by omega) (by omega) (by omega), e1 _ (by omega) (by omega) (by omega) (by omega) (by omega)]; exact tb1) (by rw [e1 _ (by omega) (by omega) (by omega) (by omega) (by omega)]; exact z1) (by rw [e1 _ (by omega) (by omega) (by omega) (by omega) (by omega)]; exact z2) (by rw [e1 _ (by omega) (by omega) (by omega) (by omega) (by omega)]; exact z3) z4 z5 z6
  obtain ⟨g2, hg2⟩ : ∃ g2, g2 = rd4 g1 a b 1 m1 d1 l1 := ⟨_, rfl⟩
  rw [← hg2] at c1
  have e2 : ∀ o, o ≠ 200 + 2 * a + 1 → o ≠ 500 + 6 * a + 1 → o ≠ 502 + 6 * a + 1 → o ≠ 504 + 6 * a + 1 → g2 o = g1 o := fun o q2 q3 q4 q5 => by rw [hg2, rd4_ne q2 q3 q4 q5]
  have hby : fitB (ga (g (800 + b)) 0) 0 600 = true := fitB_mk (fun i hi => (h.2.1 i hi).2)
  refine ⟨g2, ?_, fun o ho => ?_, ?_⟩
  · unfold fX8_copyFrom
    rw [cp600, gd_true, tc0, tc600, hby, gd_true]
    have hne : 800 + b ≠ 800 + a := by omega
    simp only [bd_some, ug_same, ug_ug, ug_ne hne, cp4, gd_true, tc4]
    have eg : ug g (800 + a) (sa (si (si (si (sa (g (800 + a)) 0 (va_cpy (ga (g (800 + b)) 0) (ga (g (800 + a)) 0) 0 0 600)) 1 (gi (g (800 + b)) 1)) 2 (gi (g (800 + b)) 2)) 3 (gi (g (800 + b)) 3)) 4 (va_cpy (ga (g (800 + b)) 4) (ga (si (si (si (sa (g (800 + a)) 0 (va_cpy (ga (g (800 + b)) 0) (ga (g (800 + a)) 0) 0 0 600)) 1 (gi (g (800 + b)) 1)) 2 (gi (g (800 + b)) 2)) 3 (gi (g (800 + b)) 3)) 4) 0 0 4)) = g0 := by rw [hg0]; rfl
    rw [eg]
    rw [show ((0 : Int32), g0) = (nI 0, g0) from rfl, iter_step (step := fun st : Int32 × Gs => bX8_copyFrom_56 st.2 (800 + a) (800 + b) st.1) (s := (nI 0, g0)) (s' := (nI 1, g1)) c0, iter_step (step := fun st : Int32 × Gs => bX8_copyFrom_56 st.2 (800 + a) (800 + b) st.1) (s := (nI 1, g1)) (s' := (nI 2, g2)) c1]
    refine iter_end (step := fun st : Int32 × Gs => bX8_copyFrom_56 st.2 (800 + a) (800 + b) st.1) (s := (nI 2, g2)) ?_
    show bX8_copyFrom_56 g2 (800 + a) (800 + b) (nI 2) = _
    unfold bX8_copyFrom_56
    rw [if_pos (show (2 : Int32) ≤ nI 2 by decide)]
  · unfold own at ho
    rw [e2 o (by omega) (by omega) (by omega) (by omega), e1 o (by omega) (by omega) (by omega) (by omega) (by omega)]
  · have f8 : g2 (800 + a) = cpT (g (800 + b)) (g (800 + a)) := by
      rw [e2 _ (by omega) (by omega) (by omega) (by omega), hg1, rd4_ne (by omega) (by omega) (by omega) (by omega), hg0, ug_same]
    have fh : ∀ i, i < 2 → ∃ O, g2 (200 + 2 * a + i) = cpH (g (200 + 2 * b + i)) O := by
      intro i hi
      rcases (show i = 0 ∨ i = 1 by omega) with rfl | rfl
      · refine ⟨g0 (200 + 2 * a + 0), ?_⟩
        rw [e2 _ (by omega) (by omega) (by omega) (by omega), hg1, rd4_h ha (by decide), e0 (200 + 2 * b + 0) (by omega)]
      · refine ⟨g1 (200 + 2 * a + 1), ?_⟩
        rw [hg2, rd4_h ha (by decide), e1 (200 + 2 * b + 1) (by omega) (by omega) (by omega) (by omega) (by omega)]
    have fm : ∀ i, i < 2 → ∃ O n, gi O 0 = nI 40 ∧ gi (g (500 + 6 * b + i)) 2 = nI n ∧ n ≤ 40 ∧ g2 (500 + 6 * a + i) = cpR (g (500 + 6 * b + i)) O n := by
      intro i hi
      rcases (show i = 0 ∨ i = 1 by omega) with rfl | rfl
      · refine ⟨g (500 + 6 * a + 0), m0, ta0.1, s1, s4, ?_⟩
        rw [e2 _ (by omega) (by omega) (by omega) (by omega), hg1, rd4_m, e0 (500 + 6 * b + 0) (by omega), e0 (500 + 6 * a + 0) (by omega)]
      · refine ⟨g (500 + 6 * a + 1), m1, ta1.1, z1, z4, ?_⟩
        rw [hg2, rd4_m, e1 (500 + 6 * b + 1) (by omega) (by omega) (by omega) (by omega) (by omega), e1 (500 + 6 * a + 1) (by omega) (by omega) (by omega) (by omega) (by omega)]
    have fd : ∀ i, i < 2 → ∃ O n, gi O 0 = nI 8 ∧ gi (g (502 + 6 * b + i)) 2 = nI n ∧ n ≤ 8 ∧ g2 (502 + 6 * a + i) = cpR (g (502 + 6 * b + i)) O n := by
      intro i hi
      rcases (show i = 0 ∨ i = 1 by omega) with rfl | rfl
      · refine ⟨g (502 + 6 * a + 0), d0, ta0.2.1, s2, s5, ?_⟩
        rw [e2 _ (by omega) (by omega) (by omega) (by omega), hg1, rd4_d, e0 (502 + 6 * b + 0) (by omega), e0 (502 + 6 * a + 0) (by omega)]
      · refine ⟨g (502 + 6 * a + 1), d1, ta1.2.1, z2, z5, ?_⟩
        rw [hg2, rd4_d, e1 (502 + 6 * b + 1) (by omega) (by omega) (by omega) (by omega) (by omega), e1 (502 + 6 * a + 1) (by omega) (by omega) (by omega) (by omega) (by omega)]
    have fl : ∀ i, i < 2 → ∃ O n, gi O 0 = nI 8 ∧ gi (g (504 + 6 * b + i)) 2 = nI n ∧ n ≤ 8 ∧ g2 (504 + 6 * a + i) = cpR (g (504 + 6 * b + i)) O n := by
      intro i hi
      rcases (show i = 0 ∨ i = 1 by omega) with rfl | rfl
      · refine ⟨g (504 + 6 * a + 0), l0, ta0.2.2, s3, s6, ?_⟩
        rw [e2 _ (by omega) (by omega) (by omega) (by omega), hg1, rd4_l, e0 (504 + 6 * b + 0) (by omega), e0 (504 + 6 * a + 0) (by omega)]
      · refine ⟨g (504 + 6 * a + 1), l1, ta1.2.2, z3, z6, ?_⟩
        rw [hg2, rd4_l, e1 (504 + 6 * b + 1) (by omega) (by omega) (by omega) (by omega) (by omega), e1 (504 + 6 * a + 1) (by omega) (by omega) (by omega) (by omega) (by omega)]
    refine ⟨fun i hi => ?_, ?_, ?_, ?_, fun k hk => ?_, fun i hi v ok hx => ?_, fun i hi v ok hx => ?_, fun i hi v ok hx => ?_, fun i hi v ok hx => ?_⟩
    · rw [f8]
      show va_cpy (ga (g (800 + b)) 0) (ga (g (800 + a)) 0) 0 0 600 i = _
      rw [cpy0 hi]
    · rw [f8]; rfl
    · rw [f8]; rfl
    · rw [f8]; rfl
    · rw [f8]
      show va_cpy (ga (g (800 + b)) 4) (ga (g (800 + a)) 4) 0 0 4 k = _
      rw [cpy0 hk]
    · obtain ⟨O, q⟩ := fh i hi
      rw [q]; exact hx.cp ok
    · obtain ⟨O, n, q1, q2, q3, q⟩ := fm i hi
      rw [q]; exact hx.cp ok q1 q2 q3
    · obtain ⟨O, n, q1, q2, q3, q⟩ := fd i hi
      rw [q]; exact hx.cp ok q1 q2 q3
    · obtain ⟨O, n, q1, q2, q3, q⟩ := fl i hi
      rw [q]; exact hx.cp ok q1 q2 q3
/-! the reference's copies -/
theorem sa_sa2 (r : Rec) (k : Nat) (f h : Nat → Int32) : sa (sa r k f) k h = sa r k h := by
  have e : (fun j => if j = k then h else if j = k then f else r.2.1 j) = (fun j => if j = k then h else r.2.1 j) := by
    funext j
    by_cases c : j = k
    · rw [if_pos c, if_pos c]
    · rw [if_neg c, if_neg c, if_neg c]
  show (r.1, (fun j => if j = k then h else if j = k then f else r.2.1 j), r.2.2) = (r.1, (fun j => if j = k then h else r.2.1 j), r.2.2)
  rw [e]
theorem sa_self (r : Rec) (k : Nat) : sa r k (ga r k) = r := by
  have e : (fun j => if j = k then r.2.1 k else r.2.1 j) = r.2.1 := by
    funext j
    by_cases c : j = k
    · rw [if_pos c, c]
    · rw [if_neg c]
  show (r.1, (fun j => if j = k then r.2.1 k else r.2.1 j), r.2.2) = r
  rw [e]
theorem cpy_0 (f h : Nat → Int32) (sp dp : Nat) : va_cpy f h sp dp 0 = h := by
  funext j
  exact pk_cpy_out (by omega)
theorem cpy_succ (f h : Nat → Int32) (sp dp i : Nat) : upd (va_cpy f h sp dp i) (dp + i) (f (sp + i)) = va_cpy f h sp dp (i + 1) := by
  funext j
  rw [upd_if]
  by_cases c : j = dp + i
  · rw [if_pos c, pk_cpy_in (by omega) (by omega), c]
    congr 1
    omega
  · rw [if_neg c]
    by_cases c2 : dp ≤ j ∧ j < dp + i
    · rw [pk_cpy_in c2.1 c2.2, pk_cpy_in c2.1 (by omega)]
    · rw [pk_cpy_out (by omega), pk_cpy_out (by omega)]
theorem mul_apart {n f t : Nat} (hft : f ≠ t) : n * f + n ≤ n * t ∨ n * t + n ≤ n * f := by
  rcases Nat.lt_or_gt_of_ne hft with h | h
  · left
    have := Nat.mul_le_mul_left n (show f + 1 ≤ t from h)
    rw [Nat.mul_succ] at this
    exact this
  · right
    have := Nat.mul_le_mul_left n (show t + 1 ≤ f from h)
    rw [Nat.mul_succ] at this
    exact this
theorem copyRow_nI {r : Rec} {k0 n f t N : Nat} (hN : ln10 k0 = N) (hN2 : N < 2 ^ 31) (h1 : n * f + n ≤ N) (h2 : n * t + n ≤ N) (hft : f ≠ t) : fX10_copyRow r k0 (nI n) (nI f) (nI t) = some (sa r k0 (va_cpy (ga r k0) (ga r k0) (n * f) (n * t) n)) := by
  have hd := mul_apart (n := n) hft
  have e0 : ((0 : Int32), r) = (fun i => (nI i, sa r k0 (va_cpy (ga r k0) (ga r k0) (n * f) (n * t) i))) 0 := by
    show _ = (nI 0, sa r k0 (va_cpy (ga r k0) (ga r k0) (n * f) (n * t) 0))
    rw [cpy_0, sa_self]
    rfl
  unfold fX10_copyRow
  rw [e0]
  refine iter_count (step := fun st : Int32 × Rec => bX10_copyRow_3 st.2 k0 (nI n) (nI f) (nI t) st.1) (fun i => (nI i, sa r k0 (va_cpy (ga r k0) (ga r k0) (n * f) (n * t) i))) n (fun i hi => ?_) ?_
  · show bX10_copyRow_3 (sa r k0 (va_cpy (ga r k0) (ga r k0) (n * f) (n * t) i)) k0 (nI n) (nI f) (nI t) (nI i) = some (.inl (nI (i + 1), sa r k0 (va_cpy (ga r k0) (ga r k0) (n * f) (n * t) (i + 1))))
    unfold bX10_copyRow_3
    rw [if_neg (show ¬ nI n ≤ nI i from fun h => by have := (nI_leI (by omega) (by omega)).mp h; omega), pk_mul, pk_mul, nI_add, nI_add, hN, inR_nI (show n * f + i < N by omega) hN2, inR_nI (show n * t + i < N by omega) hN2, gd_true, gd_true, bd_some, nI_clamp (show n * t + i < 2 ^ 31 by omega), nI_clamp (show n * f + i < 2 ^ 31 by omega), ga_sae, sa_sa2, pk_cpy_out (by omega), nI_1, cpy_succ]
  · show bX10_copyRow_3 (sa r k0 (va_cpy (ga r k0) (ga r k0) (n * f) (n * t) n)) k0 (nI n) (nI f) (nI t) (nI n) = _
    unfold bX10_copyRow_3
    rw [if_pos (nI_le (Nat.le_refl n) (by omega))]
theorem copyRow_ex {r : Rec} {k0 n f t N : Nat} (hN : ln10 k0 = N) (hN2 : N < 2 ^ 31) (h1 : n * f + n ≤ N) (h2 : n * t + n ≤ N) (hft : f ≠ t) : ∃ r', fX10_copyRow r k0 (nI n) (nI f) (nI t) = some r' ∧ ga r' k0 = va_cpy (ga r k0) (ga r k0) (n * f) (n * t) n ∧ ∀ k, k ≠ k0 → ga r' k = ga r k :=
  ⟨_, copyRow_nI hN hN2 h1 h2 hft, ga_sae _ _ _, fun k hk => ga_san hk⟩
theorem nar_by {x : Int32} (h : isBy x) : vp_nar .byte x = x := by
  have h1 : (-128 : Int32).toInt = -128 := by decide
  have h2 : (127 : Int32).toInt = 127 := by decide
  unfold isBy at h
  simp only [fits, Bool.and_eq_true, decide_eq_true_eq, Int32.le_iff_toInt_le, h1, h2] at h
  rw [vp_nar_byte]
  apply Int32.toInt_inj.mp
  rw [Int8.toInt_toInt32, Int32.toInt_toInt8]
  exact Int.bmod_eq_of_le (by omega) (by omega)
theorem copyAll_nI {r : Rec} {f t : Nat} (hf : f ≤ 3) (ht : t ≤ 3) (hft : f ≠ t) (hby : ∀ i, i < 600 → isBy (ga r 1 (600 * f + i))) : ∃ r', fX10_copyAll r (nI f) (nI t) = some r' ∧ ga r' 1 = va_cpy (ga r 1) (ga r 1) (600 * f) (600 * t) 600 ∧ ga r' 2 = va_cpy (ga r 2) (ga r 2) (1 * f) (1 * t) 1 ∧ ga r' 3 = va_cpy (ga r 3) (ga r 3) (1 * f) (1 * t) 1 ∧ ga r' 4 = va_cpy (ga r 4) (ga r 4) (1 * f) (1 * t) 1 ∧ ga r' 5 = va_cpy (ga r 5) (ga r 5) (4 * f) (4 * t) 4 ∧ ga r' 6 = va_cpy (ga r 6) (ga r 6) (142 * f) (142 * t) 142 ∧ ga r' 7 = va_cpy (ga r 7) (ga r 7) (322 * f) (322 * t) 322 ∧ ga r' 8 = va_cpy (ga r 8) (ga r 8) (50 * f) (50 * t) 50 ∧ ga r' 9 = va_cpy (ga r 9) (ga r 9) (34 * f) (34 * t) 34 ∧ ∀ k, 9 < k → ga r' k = ga r k := by
  have key : fX10_copyAll r (nI f) (nI t) = bX10_copyAll_39 (sa r 1 (va_cpy (ga r 1) (ga r 1) (600 * f) (600 * t) 600)) (nI f) (nI t) := by
    have e0 : ((0 : Int32), r) = (fun i => (nI i, sa r 1 (va_cpy (ga r 1) (ga r 1) (600 * f) (600 * t) i))) 0 := by
      show _ = (nI 0, sa r 1 (va_cpy (ga r 1) (ga r 1) (600 * f) (600 * t) 0))
      rw [cpy_0, sa_self]
      rfl
    unfold fX10_copyAll
    rw [e0]
    refine loopO (step := fun st : Int32 × Rec => bX10_copyAll_2 st.2 (nI f) (nI t) st.1) (fun i => (nI i, sa r 1 (va_cpy (ga r 1) (ga r 1) (600 * f) (600 * t) i))) 600 (fun i hi => ?_) ?_
    · show bX10_copyAll_2 (sa r 1 (va_cpy (ga r 1) (ga r 1) (600 * f) (600 * t) i)) (nI f) (nI t) (nI i) = some (.inl (nI (i + 1), sa r 1 (va_cpy (ga r 1) (ga r 1) (600 * f) (600 * t) (i + 1))))
      unfold bX10_copyAll_2
      rw [if_neg (show ¬ (600 : Int32) ≤ nI i from fun h => by have := (nI_leI (a := 600) (by decide) (by omega)).mp h; omega), show (600 : Int32) = nI 600 from rfl, pk_mul, pk_mul, nI_add, nI_add, inR_nI (show 600 * f + i < 2400 by omega) (by decide), inR_nI (show 600 * t + i < 2400 by omega) (by decide), gd_true, gd_true, bd_some, nI_clamp (show 600 * t + i < 2 ^ 31 by omega), nI_clamp (show 600 * f + i < 2 ^ 31 by omega), ga_sae, sa_sa2, pk_cpy_out (by omega), nar_by (hby i hi), nI_1, cpy_succ]
    · show bX10_copyAll_2 (sa r 1 (va_cpy (ga r 1) (ga r 1) (600 * f) (600 * t) 600)) (nI f) (nI t) (nI 600) = _
      unfold bX10_copyAll_2
      rw [if_pos (show (600 : Int32) ≤ nI 600 by decide)]
  obtain ⟨r1, hr1⟩ : ∃ r1, r1 = sa r 1 (va_cpy (ga r 1) (ga r 1) (600 * f) (600 * t) 600) := ⟨_, rfl⟩
  have y1 : ga r1 1 = va_cpy (ga r 1) (ga r 1) (600 * f) (600 * t) 600 := by rw [hr1, ga_sae]
  have z1 : ∀ k, k ≠ 1 → ga r1 k = ga r k := fun k hk => by rw [hr1, ga_san hk]
  rw [← hr1] at key
  obtain ⟨r2, x2, y2, z2⟩ := copyRow_ex (r := r1) (k0 := 2) (n := 1) (f := f) (t := t) (N := 4) rfl (by decide) (by omega) (by omega) hft
  obtain ⟨r3, x3, y3, z3⟩ := copyRow_ex (r := r2) (k0 := 3) (n := 1) (f := f) (t := t) (N := 4) rfl (by decide) (by omega) (by omega) hft
  obtain ⟨r4, x4, y4, z4⟩ := copyRow_ex (r := r3) (k0 := 4) (n := 1) (f := f) (t := t) (N := 4) rfl (by decide) (by omega) (by omega) hft
  obtain ⟨r5, x5, y5, z5⟩ := copyRow_ex (r := r4) (k0 := 5) (n := 4) (f := f) (t := t) (N := 16) rfl (by decide) (by omega) (by omega) hft
  obtain ⟨r6, x6, y6, z6⟩ := copyRow_ex (r := r5) (k0 := 6) (n := 142) (f := f) (t := t) (N := 568) rfl (by decide) (by omega) (by omega) hft
  obtain ⟨r7, x7, y7, z7⟩ := copyRow_ex (r := r6) (k0 := 7) (n := 322) (f := f) (t := t) (N := 1288) rfl (by decide) (by omega) (by omega) hft
  obtain ⟨r8, x8, y8, z8⟩ := copyRow_ex (r := r7) (k0 := 8) (n := 50) (f := f) (t := t) (N := 200) rfl (by decide) (by omega) (by omega) hft
  obtain ⟨r9, x9, y9, z9⟩ := copyRow_ex (r := r8) (k0 := 9) (n := 34) (f := f) (t := t) (N := 136) rfl (by decide) (by omega) (by omega) hft
  have x2 : fX10_copyRow r1 2 1 (nI f) (nI t) = some r2 := x2
  have x3 : fX10_copyRow r2 3 1 (nI f) (nI t) = some r3 := x3
  have x4 : fX10_copyRow r3 4 1 (nI f) (nI t) = some r4 := x4
  have x5 : fX10_copyRow r4 5 4 (nI f) (nI t) = some r5 := x5
  have x6 : fX10_copyRow r5 6 142 (nI f) (nI t) = some r6 := x6
  have x7 : fX10_copyRow r6 7 322 (nI f) (nI t) = some r7 := x7
  have x8 : fX10_copyRow r7 8 50 (nI f) (nI t) = some r8 := x8
  have x9 : fX10_copyRow r8 9 34 (nI f) (nI t) = some r9 := x9
  refine ⟨r9, ?_, ?_, ?_, ?_, ?_, ?_, ?_, ?_, ?_, ?_, fun k hk => ?_⟩
  · rw [key]
    unfold bX10_copyAll_39
    rw [x2, bd_some, x3, bd_some, x4, bd_some, x5, bd_some, x6, bd_some, x7, bd_some, x8, bd_some, x9, bd_some]
  · rw [z9 1 (by decide), z8 1 (by decide), z7 1 (by decide), z6 1 (by decide), z5 1 (by decide), z4 1 (by decide), z3 1 (by decide), z2 1 (by decide), y1]
  · rw [z9 2 (by decide), z8 2 (by decide), z7 2 (by decide), z6 2 (by decide), z5 2 (by decide), z4 2 (by decide), z3 2 (by decide), y2, z1 2 (by decide)]
  · rw [z9 3 (by decide), z8 3 (by decide), z7 3 (by decide), z6 3 (by decide), z5 3 (by decide), z4 3 (by decide), y3, z2 3 (by decide), z1 3 (by decide)]
  · rw [z9 4 (by decide), z8 4 (by decide), z7 4 (by decide), z6 4 (by decide), z5 4 (by decide), y4, z3 4 (by decide), z2 4 (by decide), z1 4 (by decide)]
  · rw [z9 5 (by decide), z8 5 (by decide), z7 5 (by decide), z6 5 (by decide), y5, z4 5 (by decide), z3 5 (by decide), z2 5 (by decide), z1 5 (by decide)]
  · rw [z9 6 (by decide), z8 6 (by decide), z7 6 (by decide), y6, z5 6 (by decide), z4 6 (by decide), z3 6 (by decide), z2 6 (by decide), z1 6 (by decide)]
  · rw [z9 7 (by decide), z8 7 (by decide), y7, z6 7 (by decide), z5 7 (by decide), z4 7 (by decide), z3 7 (by decide), z2 7 (by decide), z1 7 (by decide)]
  · rw [z9 8 (by decide), y8, z7 8 (by decide), z6 8 (by decide), z5 8 (by decide), z4 8 (by decide), z3 8 (by decide), z2 8 (by decide), z1 8 (by decide)]
  · rw [y9, z8 9 (by decide), z7 9 (by decide), z6 9 (by decide), z5 9 (by decide), z4 9 (by decide), z3 9 (by decide), z2 9 (by decide), z1 9 (by decide)]
  · rw [z9 k (by omega), z8 k (by omega), z7 k (by omega), z6 k (by omega), z5 k (by omega), z4 k (by omega), z3 k (by omega), z2 k (by omega), z1 k (by omega)]
/-- what a copy from block f to block t leaves: block t as f was, all others as they were -/
theorem copyAll_BE {r : Rec} {f t : Nat} (hf : f ≤ 3) (ht : t ≤ 3) (hft : f ≠ t) (hby : ∀ i, i < 600 → isBy (ga r 1 (600 * f + i))) : ∃ r', fX10_copyAll r (nI f) (nI t) = some r' ∧ BE r f r' t ∧ (∀ u, u ≠ t → BE r u r' u) ∧ ∀ k, 9 < k → ga r' k = ga r k := by
  obtain ⟨r', e, a1, a2, a3, a4, a5, a6, a7, a8, a9, a10⟩ := copyAll_nI hf ht hft hby
  refine ⟨r', e, ⟨fun i hi => ?_, ?_, ?_, ?_, fun i hi => ?_, fun i hi => ?_, fun i hi => ?_, fun i hi => ?_, fun i hi => ?_⟩, fun u hu => ⟨fun i hi => ?_, ?_, ?_, ?_, fun i hi => ?_, fun i hi => ?_, fun i hi => ?_, fun i hi => ?_, fun i hi => ?_⟩, a10⟩
  · rw [a1, pk_cpy_in (by omega) (by omega)]; congr 1; omega
  · rw [a2, pk_cpy_in (by omega) (by omega)]; congr 1; omega
  · rw [a3, pk_cpy_in (by omega) (by omega)]; congr 1; omega
  · rw [a4, pk_cpy_in (by omega) (by omega)]; congr 1; omega
  · rw [a5, pk_cpy_in (by omega) (by omega)]; congr 1; omega
  · rw [a6, pk_cpy_in (by omega) (by omega)]; congr 1; omega
  · rw [a7, pk_cpy_in (by omega) (by omega)]; congr 1; omega
  · rw [a8, pk_cpy_in (by omega) (by omega)]; congr 1; omega
  · rw [a9, pk_cpy_in (by omega) (by omega)]; congr 1; omega
  · rw [a1, pk_cpy_out (by omega)]
  · rw [a2, pk_cpy_out (by omega)]
  · rw [a3, pk_cpy_out (by omega)]
  · rw [a4, pk_cpy_out (by omega)]
  · rw [a5, pk_cpy_out (by omega)]
  · rw [a6, pk_cpy_out (by omega)]
  · rw [a7, pk_cpy_out (by omega)]
  · rw [a8, pk_cpy_out (by omega)]
  · rw [a9, pk_cpy_out (by omega)]
theorem BE.x {r r1 r' : Rec} {t t' : Nat} (h : BE r1 t r' t') (e : ∀ k, ga r1 k = ga r k) : BE r t r' t' := by
  unfold BE at h ⊢
  simp only [e] at h
  exact h
theorem BE.y {r r1 r' : Rec} {t t' : Nat} (h : BE r t r1 t') (e : ∀ k, k ≤ 9 → ga r' k = ga r1 k) : BE r t r' t' := by
  unfold BE at h ⊢
  rw [e 1 (by decide), e 2 (by decide), e 3 (by decide), e 4 (by decide), e 5 (by decide), e 6 (by decide), e 7 (by decide), e 8 (by decide), e 9 (by decide)]
  exact h
theorem nw_own {k o : Nat} : nwI k o = true ↔ own (k + 1) o := by
  unfold nwI own
  simp only [Bool.or_eq_true, Bool.and_eq_true, decide_eq_true_eq, beq_iff_eq]
  omega
theorem imgPre_facts {g : Gs} (hI : Inv g) {k : Nat} (hk : k < 3) : (∀ o, ¬ own (k + 1) o → o ≠ 901 → imgPre g (nI k) o = g o) ∧ (∀ i, i < 2 → TL (imgPre g (nI k)) (k + 1) i) ∧ gr (imgPre g (nI k) 901) k ≠ 0 ∧ (∀ j, j ≠ k → gr (imgPre g (nI k) 901) j = gr (g 901) j) := by
  have h3 : nI k < 3 := (nI_ltI (b := 3) (by omega) (by decide)).mpr hk
  unfold imgPre
  rw [if_neg (nI_nlt0 (by omega)), if_pos h3, nI_clamp (by omega)]
  by_cases h : gr (g 901) k = 0
  · rw [if_pos h]
    have hn : ∀ o, own (k + 1) o → o ≠ 901 → (ug (nT g k) 901 (sr (g 901) k (801 + k))) o = (if o = 801 + k then si zr 3 (-1) else if o < 300 then zr else if o < 508 + 6 * k then si zr 0 40 else si zr 0 8) := fun o ho h9 => by
      rw [ug_ne h9]
      unfold nT
      rw [if_pos (nw_own.mpr ho)]
    refine ⟨fun o ho h9 => ?_, fun i hi => ⟨?_, ?_, ?_⟩, ?_, fun j hj => ?_⟩
    · rw [ug_ne h9]
      unfold nT
      rw [if_neg (fun q => ho (nw_own.mp q))]
    · rw [hn _ (Or.inr (Or.inr ⟨by omega, by omega⟩)) (by omega), if_neg (by omega), if_neg (by omega), if_pos (by omega)]; rfl
    · rw [hn _ (Or.inr (Or.inr ⟨by omega, by omega⟩)) (by omega), if_neg (by omega), if_neg (by omega), if_neg (by omega)]; rfl
    · rw [hn _ (Or.inr (Or.inr ⟨by omega, by omega⟩)) (by omega), if_neg (by omega), if_neg (by omega), if_neg (by omega)]; rfl
    · rw [ug_same, gr_sre]; omega
    · rw [ug_same, gr_sr, if_neg hj]
  · rw [if_neg h]
    exact ⟨fun _ _ _ => rfl, fun i hi => (hI.2.2.2 k hk h).tl hi, h, fun _ _ => rfl⟩
theorem in02T {k : Nat} (hk : k < 3) : fX10_in (nI k) 0 2 = some 1 := inT (lo := 0) (k := 2) (by omega) (by omega) (by decide)
theorem in02F {k : Nat} (hk : 2 < k) (h : k < 2 ^ 31) : fX10_in (nI k) 0 2 = some 0 := inFh (lo := 0) (k := 2) hk h
theorem ob_image : Ob_image Inv := by
  intro g a1 hI
  rcases rng a1 2 with h | ⟨m, h, h2, rfl⟩ | ⟨k, h, h2, rfl⟩
  · refine ⟨g, 0, si (g 1001) 0 0, ?_, ?_, ?_, hI.1, hI.keep (XP.rf hI.1) (MP.si _ _ _)⟩
    · unfold fX9_image; rw [if_pos h]
    · unfold fX10_image; rw [bd_some, in_lt0 h, bd_some, if_pos rfl]
    · unfold imgPre; rw [if_pos h]
  · have h3 : ¬ nI m < 3 := fun q => by have := (nI_ltI (b := 3) h2 (by decide)).mp q; omega
    refine ⟨g, 0, si (g 1001) 0 0, ?_, ?_, ?_, hI.1, hI.keep (XP.rf hI.1) (MP.si _ _ _)⟩
    · unfold fX9_image; rw [if_neg (nI_nlt0 h2), if_neg h3]
    · unfold fX10_image; rw [bd_some, in02F h h2, bd_some, if_pos rfl]
    · unfold imgPre; rw [if_neg (nI_nlt0 h2), if_neg h3]
  · have hk : k < 3 := by omega
    have h3 : nI k < 3 := (nI_ltI (b := 3) h2 (by decide)).mpr hk
    obtain ⟨p1, p2, p3, p4⟩ := imgPre_facts hI hk
    obtain ⟨G, hG⟩ : ∃ G, G = imgPre g (nI k) := ⟨_, rfl⟩
    rw [← hG] at p1 p2 p3 p4
    have hr : G 1001 = g 1001 := p1 _ (by unfold own; omega) (by decide)
    have b0 : BR G (g 1001) 0 := hI.2.1.move (GE.of (fun o ho => p1 o (by unfold own at ho ⊢; omega) (by unfold own at ho; omega))) ⟨fun _ _ => rfl, rfl, rfl, rfl, fun _ _ => rfl, fun _ _ => rfl, fun _ _ => rfl, fun _ _ => rfl, fun _ _ => rfl⟩
    obtain ⟨g', c1, c2, c3⟩ := tcopy (g := G) (r := g 1001) (a := k + 1) (b := 0) (by omega) (by omega) (by omega) b0 p2
    obtain ⟨r', d1, d2, d3, d4⟩ := copyAll_BE (r := si (g 1001) 0 0) (f := 0) (t := k + 1) (by omega) (by omega) (by omega) (fun i hi => by
      have := hI.2.1.2.1 i hi
      rw [this.1] at this
      exact this.2)
    have hr' : g' 1001 = g 1001 := (c2 _ (by unfold own; omega)).trans hr
    have e9 : g' 901 = G 901 := c2 _ (by unfold own; omega)
    have e1 : g' 1 = g 1 := (c2 _ (by unfold own; omega)).trans (p1 _ (by unfold own; omega) (by decide))
    obtain ⟨r2, hr2⟩ : ∃ r2, r2 = sa r' 48 (upd (ga r' 48) k 1) := ⟨_, rfl⟩
    have er : ∀ j, j ≤ 9 → ga r2 j = ga r' j := fun j hj => by rw [hr2, ga_san (by omega)]
    refine ⟨g', 1, r2, ?_, ?_, ?_, ?_, ?_⟩
    · unfold fX9_image
      rw [if_neg (nI_nlt0 h2), if_pos h3, nI_clamp h2, ← hG, show 801 + k = 800 + (k + 1) by omega]
      rw [show fX8_copyFrom G (800 + (k + 1)) 800 = some g' from c1, bd_some]
    · rw [hr']
      unfold fX10_image
      rw [bd_some, in02T hk, bd_some, if_neg (by decide), nI_1, show fX10_copyAll (si (g 1001) 0 0) 0 (nI (k + 1)) = some r' from d1, bd_some, inR_nI hk (by decide), gd_true, bd_some, nI_clamp h2, hr2]
      rfl
    · rw [e9, hG]
    · rw [e1]; exact hI.1
    · have u1 : (ug g' 1001 r2) 1001 = r2 := ug_same _ _ _
      have u2 : ∀ o, o ≠ 1001 → (ug g' 1001 r2) o = g' o := fun o ho => ug_ne ho
      have bx : ∀ t, t ≤ 3 → t ≠ k + 1 → BR g (g 1001) t → BR (ug g' 1001 r2) r2 t := by
        intro t ht htk hb
        refine hb.move (GE.of (fun o ho => ?_)) (((d3 t htk).x (fun _ => rfl)).y er)
        rw [u2 o (by unfold own at ho; omega), c2 o (by unfold own at ho ⊢; omega), p1 o (by unfold own at ho ⊢; omega) (by unfold own at ho; omega)]
      refine ⟨by rw [u2 1 (by decide), e1]; exact hI.1, ?_, fun j hj => ?_, fun j hj hn => ?_⟩
      · rw [u1]; exact bx 0 (by omega) (by omega) hI.2.1
      · rw [u1, u2 901 (by decide), e9, hr2, ga_sae, upd_if]
        by_cases c : j = k
        · rw [if_pos c, c, if_neg p3]
        · rw [if_neg c, p4 j c, d4 48 (by decide), ga_si]; exact hI.2.2.1 j hj
      · rw [u1]
        by_cases c : j = k
        · rw [c]
          refine BR.move b0 (g' := ug g' 1001 r2) ?_ ((d2.x (fun _ => rfl)).y er)
          unfold GE at c3 ⊢
          rw [u2 (800 + (k + 1)) (by omega)]
          refine ⟨c3.1, c3.2.1, c3.2.2.1, c3.2.2.2.1, c3.2.2.2.2.1, fun i hi => ?_, fun i hi => ?_, fun i hi => ?_, fun i hi => ?_⟩
          · rw [u2 _ (by omega)]; exact c3.2.2.2.2.2.1 i hi
          · rw [u2 _ (by omega)]; exact c3.2.2.2.2.2.2.1 i hi
          · rw [u2 _ (by omega)]; exact c3.2.2.2.2.2.2.2.1 i hi
          · rw [u2 _ (by omega)]; exact c3.2.2.2.2.2.2.2.2 i hi
        · rw [u2 901 (by decide), e9, p4 j c] at hn
          exact bx (j + 1) (by omega) (by omega) (hI.2.2.2 j hj hn)
theorem ob_again : Ob_again Inv := by
  intro g a1 hI
  have no : fX9_again g a1 = some (g, 0) → fX10_again (g 1001) a1 = some (si (g 1001) 0 0, 0) → ∃ (g1 : Gs) (v : Int32) (r : Rec), fX9_again g a1 = some (g1, v) ∧ fX10_again (g1 1001) a1 = some (r, v) ∧ gr (g1 901) = gr (g 901) ∧ isHm (gr (g1 1) 0) = true ∧ Inv (ug g1 1001 r) := fun h1 h2 => ⟨g, 0, si (g 1001) 0 0, h1, h2, rfl, hI.1, hI.keep (XP.rf hI.1) (MP.si _ _ _)⟩
  rcases rng a1 2 with h | ⟨m, h, h2, rfl⟩ | ⟨k, h, h2, rfl⟩
  · refine no ?_ ?_
    · unfold fX9_again; rw [if_pos h]
    · unfold fX10_again; rw [bd_some, in_lt0 h, bd_some, if_pos rfl]
  · refine no ?_ ?_
    · unfold fX9_again; rw [if_neg (nI_nlt0 h2), if_pos (show (3 : Int32) ≤ nI m from (nI_leI (a := 3) (by decide) h2).mpr h)]
    · unfold fX10_again; rw [bd_some, in02F h h2, bd_some, if_pos rfl]
  · have hk : k < 3 := by omega
    have h3 : ¬ (3 : Int32) ≤ nI k := fun q => by have := (nI_leI (a := 3) (by decide) h2).mp q; omega
    have hkp := hI.2.2.1 k hk
    by_cases hz : gr (g 901) k = 0
    · rw [if_pos hz] at hkp
      refine no ?_ ?_
      · unfold fX9_again; rw [if_neg (nI_nlt0 h2), if_neg h3, nI_clamp h2, if_pos hz]
      · unfold fX10_again; rw [bd_some, in02T hk, bd_some, if_neg (by decide), inR_nI hk (by decide), gd_true, nI_clamp h2, ga_si, hkp, if_pos rfl]
    · rw [if_neg hz] at hkp
      have bk := hI.2.2.2 k hk hz
      obtain ⟨g', c1, c2, c3⟩ := tcopy (g := g) (r := g 1001) (a := 0) (b := k + 1) (by omega) (by omega) (by omega) bk (fun i hi => hI.2.1.tl hi)
      obtain ⟨r', d1, d2, d3, d4⟩ := copyAll_BE (r := si (g 1001) 0 0) (f := k + 1) (t := 0) (by omega) (by omega) (by omega) (fun i hi => by
        have := bk.2.1 i hi
        rw [this.1] at this
        exact this.2)
      have hr' : g' 1001 = g 1001 := c2 _ (by unfold own; omega)
      have e9 : g' 901 = g 901 := c2 _ (by unfold own; omega)
      have e1 : g' 1 = g 1 := c2 _ (by unfold own; omega)
      refine ⟨g', 1, r', ?_, ?_, by rw [e9], by rw [e1]; exact hI.1, ?_⟩
      · unfold fX9_again
        rw [if_neg (nI_nlt0 h2), if_neg h3, nI_clamp h2, if_neg hz, show 801 + k = 800 + (k + 1) by omega]
        rw [show fX8_copyFrom g 800 (800 + (k + 1)) = some g' from c1, bd_some]
      · rw [hr']
        unfold fX10_again
        rw [bd_some, in02T hk, bd_some, if_neg (by decide), inR_nI hk (by decide), gd_true, nI_clamp h2, ga_si, hkp, if_neg (by decide), nI_1, show fX10_copyAll (si (g 1001) 0 0) (nI (k + 1)) 0 = some r' from d1, bd_some]
      · have u1 : (ug g' 1001 r') 1001 = r' := ug_same _ _ _
        have u2 : ∀ o, o ≠ 1001 → (ug g' 1001 r') o = g' o := fun o ho => ug_ne ho
        refine ⟨by rw [u2 1 (by decide), e1]; exact hI.1, ?_, fun j hj => ?_, fun j hj hn => ?_⟩
        · rw [u1]
          refine BR.move bk (g' := ug g' 1001 r') ?_ (d2.x (fun _ => rfl))
          unfold GE at c3 ⊢
          rw [u2 (800 + 0) (by omega)]
          refine ⟨c3.1, c3.2.1, c3.2.2.1, c3.2.2.2.1, c3.2.2.2.2.1, fun i hi => ?_, fun i hi => ?_, fun i hi => ?_, fun i hi => ?_⟩
          · rw [u2 _ (by omega)]; exact c3.2.2.2.2.2.1 i hi
          · rw [u2 _ (by omega)]; exact c3.2.2.2.2.2.2.1 i hi
          · rw [u2 _ (by omega)]; exact c3.2.2.2.2.2.2.2.1 i hi
          · rw [u2 _ (by omega)]; exact c3.2.2.2.2.2.2.2.2 i hi
        · rw [u1, u2 901 (by decide), e9, d4 48 (by decide), ga_si]; exact hI.2.2.1 j hj
        · rw [u1]
          rw [u2 901 (by decide), e9] at hn
          refine (hI.2.2.2 j hj hn).move (GE.of (fun o ho => ?_)) ((d3 (j + 1) (by omega)).x (fun _ => rfl))
          rw [u2 o (by unfold own at ho; omega), c2 o (by unfold own at ho ⊢; omega)]
