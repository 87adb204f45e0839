theorem iter_seq {σ ρ : Type} {step : σ → Option (σ ⊕ ρ)} (st : Nat → σ) (n : Nat) (hs : ∀ i, i < n → step (st i) = some (.inl (st (i + 1)))) : iter step (st 0) = iter step (st n) := by
  induction n with
  | zero => rfl
  | succ n ih => rw [ih (fun i hi => hs i (Nat.lt_succ_of_lt hi)), iter_step (hs n (Nat.lt_succ_self n))]
theorem iter_count {σ ρ : Type} {step : σ → Option (σ ⊕ ρ)} (st : Nat → σ) (n : Nat) {x : ρ} (hs : ∀ i, i < n → step (st i) = some (.inl (st (i + 1)))) (he : step (st n) = some (.inr x)) : iter step (st 0) = some x := (iter_seq st n hs).trans (iter_end he)
theorem iter_from {σ ρ : Type} {step : σ → Option (σ ⊕ ρ)} (st : Nat → σ) (a n : Nat) (hn : a ≤ n) {x : ρ} (hs : ∀ i, a ≤ i → i < n → step (st i) = some (.inl (st (i + 1)))) (he : step (st n) = some (.inr x)) : iter step (st a) = some x := by
  have h := iter_count (step := step) (fun i => st (a + i)) (n - a) (x := x) (fun i hi => hs (a + i) (by omega) (by omega)) (by
    show step (st (a + (n - a))) = _
    rw [show a + (n - a) = n by omega]
    exact he)
  exact h
theorem lit (n : Nat) : (OfNat.ofNat n : Int32) = nI n := rfl
theorem inR_nI {i n : Nat} (h : i < n) (hn : n < 2 ^ 31) : inR (nI i) n = true := decide_eq_true (nI_in h hn)
theorem bd_some {α β : Type} (a : α) (k : α → Option β) : (some a).bind k = k a := rfl
theorem gd_true {α : Type} (k : Option α) : gd true k = k := rfl
theorem gi_si (r : Rec) (j k : Nat) (v : Int32) : gi (si r j v) k = if k = j then v else gi r k := rfl
theorem ga_si (r : Rec) (j k : Nat) (v : Int32) : ga (si r j v) k = ga r k := rfl
theorem gl_si (r : Rec) (j k : Nat) (v : Int32) : gl (si r j v) k = gl r k := rfl
theorem gr_si (r : Rec) (j k : Nat) (v : Int32) : gr (si r j v) k = gr r k := rfl
theorem gi_sa (r : Rec) (j k : Nat) (f : Nat → Int32) : gi (sa r j f) k = gi r k := rfl
theorem ga_sa' (r : Rec) (j k : Nat) (f : Nat → Int32) : ga (sa r j f) k = if k = j then f else ga r k := by
  show (if k = j then f else r.2.1 k) = _
  rfl
theorem gl_sa (r : Rec) (j k : Nat) (f : Nat → Int32) : gl (sa r j f) k = gl r k := rfl
theorem gr_sa (r : Rec) (j k : Nat) (f : Nat → Int32) : gr (sa r j f) k = gr r k := rfl
theorem gi_sl (r : Rec) (j k : Nat) (v : Int64) : gi (sl r j v) k = gi r k := rfl
theorem ga_sl (r : Rec) (j k : Nat) (v : Int64) : ga (sl r j v) k = ga r k := rfl
theorem gl_sl (r : Rec) (j k : Nat) (v : Int64) : gl (sl r j v) k = if k = j then v else gl r k := rfl
theorem gr_sl (r : Rec) (j k : Nat) (v : Int64) : gr (sl r j v) k = gr r k := rfl
theorem gi_sr (r : Rec) (j k v : Nat) : gi (sr r j v) k = gi r k := rfl
theorem ga_sr (r : Rec) (j k v : Nat) : ga (sr r j v) k = ga r k := rfl
theorem gr_sr (r : Rec) (j k v : Nat) : gr (sr r j v) k = if k = j then v else gr r k := rfl
theorem ug_if (G : Gs) (o j : Nat) (r : Rec) : ug G o r j = if j = o then r else G j := rfl
theorem upd_if (f : Nat → Int32) (k j : Nat) (x : Int32) : upd f k x j = if j = k then x else f j := rfl
/-! abstract values -/
abbrev Hv : Type := (Nat × Nat × Nat) × (Nat → Nat) × (Nat → Nat) × (Nat → Nat) × (Nat → Nat) × (Nat → Nat) × (Nat → Nat) × (Nat → Nat) × (Nat → Nat)
def hP (v : Hv) : Nat := v.1.1
def hS (v : Hv) : Nat := v.1.2.1
def hL (v : Hv) : Nat := v.1.2.2
def hTa (v : Hv) : Nat → Nat := v.2.1
def hWe (v : Hv) : Nat → Nat := v.2.2.1
def hKn (v : Hv) : Nat → Nat := v.2.2.2.1
def hKi (v : Hv) : Nat → Nat := v.2.2.2.2.1
def hWt (v : Hv) : Nat → Nat := v.2.2.2.2.2.1
def hA1 (v : Hv) : Nat → Nat := v.2.2.2.2.2.2.1
def hA2 (v : Hv) : Nat → Nat := v.2.2.2.2.2.2.2.1
def hA3 (v : Hv) : Nat → Nat := v.2.2.2.2.2.2.2.2
def HvOK (v : Hv) : Prop := hP v ≤ 8 ∧ hS v ≤ 10 ∧ hL v ≤ 8 ∧ (∀ p, p < hP v → hTa v p < 4 ∧ hWe v p < 10) ∧ (∀ p, hP v ≤ p → hWe v p = 0 ∧ hKn v p = 0) ∧ (∀ p, hKn v p < 2 ^ hS v) ∧ (∀ s, s < hS v → hKi v s < 4 ∧ 1 ≤ hWt v s ∧ hWt v s ≤ 30) ∧ ∀ l, l < hL v → hA1 v l < hS v ∧ hA2 v l < hS v ∧ hA3 v l < hS v
/-- a house of the class holds v -/
def HX (h : Rec) (v : Hv) : Prop := gi h 0 = nI (hP v) ∧ gi h 1 = nI (hS v) ∧ gi h 2 = nI (hL v) ∧ (∀ p, p < hP v → ga h 3 p = nI (hTa v p) ∧ ga h 4 p = nI (hWe v p)) ∧ (∀ p, p < 8 → ga h 5 p = nI (hKn v p)) ∧ (∀ s, s < hS v → ga h 6 s = nI (hKi v s) ∧ ga h 7 s = nI (hWt v s)) ∧ ∀ l, l < hL v → ga h 8 l = nI (hA1 v l) ∧ ga h 9 l = nI (hA2 v l) ∧ ga h 10 l = nI (hA3 v l)
/-- the reference's row at o holds v -/
def HM (m : Nat → Int32) (o : Nat) (v : Hv) : Prop := m o = nI (hP v) ∧ m (o + 1) = nI (hS v) ∧ m (o + 2) = nI (hL v) ∧ (∀ p, p < hP v → m (o + 3 + p) = nI (hTa v p)) ∧ (∀ p, p < 8 → m (o + 11 + p) = nI (hWe v p)) ∧ (∀ p, p < 8 → m (o + 19 + p) = nI (hKn v p)) ∧ (∀ s, s < hS v → m (o + 27 + s) = nI (hKi v s) ∧ m (o + 37 + s) = nI (hWt v s)) ∧ ∀ l, l < hL v → m (o + 47 + l) = nI (hA1 v l) ∧ m (o + 55 + l) = nI (hA2 v l) ∧ m (o + 63 + l) = nI (hA3 v l)
/-- rows: how many, and their numbers -/
abbrev Rv : Type := Nat × (Nat → Nat → Int32)
/-- a number of a deed: 0 to 9, or -1 -/
def dOK (x : Int32) : Prop := x = -1 ∨ ∃ n : Nat, n < 10 ∧ x = nI n
/-- a month: deed k is (what, numbers) -/
def MvOK (v : Rv) : Prop := v.1 ≤ 40 ∧ ∀ k, k < v.1 → (∃ d : Nat, d < 6 ∧ v.2 k 0 = nI d) ∧ dOK (v.2 k 1) ∧ dOK (v.2 k 2) ∧ dOK (v.2 k 3)
def MX (h : Rec) (v : Rv) : Prop := gi h 0 = 40 ∧ gi h 2 = nI v.1 ∧ ∀ k, k < v.1 → ga h 1 (4 * k) = v.2 k 0 + 4 ∧ ∀ c, c < 3 → ga h 1 (4 * k + c + 1) = v.2 k (c + 1)
def MM (m : Nat → Int32) (o : Nat) (v : Rv) : Prop := m o = nI v.1 ∧ ∀ k, k < v.1 → ∀ c, c < 4 → m (o + 1 + 4 * k + c) = v.2 k c
/-- dinners: hour, piece, light -/
def DvOK (v : Rv) : Prop := v.1 ≤ 8 ∧ ∀ k, k < v.1 → (∃ h : Nat, h ≤ 60 ∧ v.2 k 0 = nI h) ∧ (∃ p : Nat, p < 8 ∧ v.2 k 1 = nI p) ∧ (∃ l : Nat, 1 ≤ l ∧ l ≤ 60 ∧ v.2 k 2 = nI l) ∧ ∀ j, j ≤ k → (v.2 j 0).toInt ≤ (v.2 k 0).toInt
def DX (h : Rec) (v : Rv) : Prop := gi h 0 = 8 ∧ gi h 2 = nI v.1 ∧ ∀ k, k < v.1 → ∀ c, c < 3 → ga h 1 (4 * k + c + 1) = v.2 k c
def DM (m : Nat → Int32) (o : Nat) (v : Rv) : Prop := m o = nI v.1 ∧ ∀ k, k < v.1 → ∀ c, c < 3 → m (o + 1 + 3 * k + c) = v.2 k c
/-- logs: piece, hours -/
def LvOK (v : Rv) : Prop := v.1 ≤ 8 ∧ ∀ k, k < v.1 → (∃ p : Nat, p < 8 ∧ v.2 k 0 = nI p) ∧ ∃ h : Nat, h ≤ 60 ∧ v.2 k 1 = nI h
def LX (h : Rec) (v : Rv) : Prop := gi h 0 = 8 ∧ gi h 2 = nI v.1 ∧ ∀ k, k < v.1 → ∀ c, c < 2 → ga h 1 (4 * k + c + 1) = v.2 k c
def LM (m : Nat → Int32) (o : Nat) (v : Rv) : Prop := m o = nI v.1 ∧ ∀ k, k < v.1 → ∀ c, c < 2 → m (o + 1 + 2 * k + c) = v.2 k c
def isBy (x : Int32) : Prop := fits .byte (.int x) = true
/-- one Told of the class (objects t; 200 + 2 t, ..; 500 + 6 t, ..) and block t of the reference's rows -/
def BR (g : Gs) (r : Rec) (t : Nat) : Prop :=
  (∃ n : Nat, n ≤ 600 ∧ gi (g (800 + t)) 1 = nI n ∧ ga r 2 t = nI n) ∧ (∀ i, i < 600 → ga (g (800 + t)) 0 i = ga r 1 (600 * t + i) ∧ isBy (ga (g (800 + t)) 0 i)) ∧ gi (g (800 + t)) 2 = ga r 3 t ∧ gi (g (800 + t)) 3 = ga r 4 t ∧
  (∀ k, k < 4 → ∃ n : Nat, n ≤ 2 ∧ ga (g (800 + t)) 4 k = nI n ∧ ga r 5 (4 * t + k) = nI n) ∧
  (∀ i, i < 2 → ∃ v, HvOK v ∧ HX (g (200 + 2 * t + i)) v ∧ HM (ga r 6) (71 * (2 * t + i)) v) ∧
  (∀ i, i < 2 → ∃ v, MvOK v ∧ MX (g (500 + 6 * t + i)) v ∧ MM (ga r 7) (161 * (2 * t + i)) v) ∧
  (∀ i, i < 2 → ∃ v, DvOK v ∧ DX (g (502 + 6 * t + i)) v ∧ DM (ga r 8) (25 * (2 * t + i)) v) ∧
  ∀ i, i < 2 → ∃ v, LvOK v ∧ LX (g (504 + 6 * t + i)) v ∧ LM (ga r 9) (17 * (2 * t + i)) v
def Inv (g : Gs) : Prop := isHm (gr (g 1) 0) = true ∧ BR g (g 1001) 0 ∧ (∀ k, k < 3 → ga (g 1001) 48 k = if gr (g 901) k = 0 then 0 else 1) ∧ ∀ k, k < 3 → gr (g 901) k ≠ 0 → BR g (g 1001) (k + 1)
/-- what the reference keeps between calls is as it was -/
def MP (r r' : Rec) : Prop := ga r' 1 = ga r 1 ∧ ga r' 2 = ga r 2 ∧ ga r' 3 = ga r 3 ∧ ga r' 4 = ga r 4 ∧ ga r' 5 = ga r 5 ∧ ga r' 6 = ga r 6 ∧ ga r' 7 = ga r 7 ∧ ga r' 8 = ga r 8 ∧ ga r' 9 = ga r 9 ∧ ga r' 48 = ga r 48
theorem MP.rf (r : Rec) : MP r r := ⟨rfl, rfl, rfl, rfl, rfl, rfl, rfl, rfl, rfl, rfl⟩
theorem MP.tr {a b c : Rec} (h : MP a b) (k : MP b c) : MP a c := ⟨k.1.trans h.1, k.2.1.trans h.2.1, k.2.2.1.trans h.2.2.1, k.2.2.2.1.trans h.2.2.2.1, k.2.2.2.2.1.trans h.2.2.2.2.1, k.2.2.2.2.2.1.trans h.2.2.2.2.2.1, k.2.2.2.2.2.2.1.trans h.2.2.2.2.2.2.1, k.2.2.2.2.2.2.2.1.trans h.2.2.2.2.2.2.2.1, k.2.2.2.2.2.2.2.2.1.trans h.2.2.2.2.2.2.2.2.1, k.2.2.2.2.2.2.2.2.2.trans h.2.2.2.2.2.2.2.2.2⟩
theorem MP.si (r : Rec) (k : Nat) (v : Int32) : MP r (si r k v) := ⟨rfl, rfl, rfl, rfl, rfl, rfl, rfl, rfl, rfl, rfl⟩
/-- what the class keeps between calls is as it was -/
def XP (g g' : Gs) : Prop := (∀ o, 200 ≤ o → o ≤ 207 → g' o = g o) ∧ (∀ o, 500 ≤ o → o ≤ 523 → g' o = g o) ∧ (∀ o, 800 ≤ o → o ≤ 803 → g' o = g o) ∧ g' 901 = g 901 ∧ g' 1001 = g 1001 ∧ isHm (gr (g' 1) 0) = true
theorem BR.same {g g' : Gs} {r r' : Rec} {t : Nat} (ht : t ≤ 3) (h : BR g r t) (hm : MP r r') (hx : XP g g') : BR g' r' t := by
  obtain ⟨m1, m2, m3, m4, m5, m6, m7, m8, m9, m10⟩ := hm
  obtain ⟨x1, x2, x3, x4, x5, x6⟩ := hx
  unfold BR at h ⊢
  rw [m1, m2, m3, m4, m5, m6, m7, m8, m9, x3 (800 + t) (by omega) (by omega)]
  refine ⟨h.1, h.2.1, h.2.2.1, h.2.2.2.1, h.2.2.2.2.1, fun i hi => ?_, fun i hi => ?_, fun i hi => ?_, fun i hi => ?_⟩
  · rw [x1 (200 + 2 * t + i) (by omega) (by omega)]; exact h.2.2.2.2.2.1 i hi
  · rw [x2 (500 + 6 * t + i) (by omega) (by omega)]; exact h.2.2.2.2.2.2.1 i hi
  · rw [x2 (502 + 6 * t + i) (by omega) (by omega)]; exact h.2.2.2.2.2.2.2.1 i hi
  · rw [x2 (504 + 6 * t + i) (by omega) (by omega)]; exact h.2.2.2.2.2.2.2.2 i hi
theorem XP.rf {g : Gs} (h : isHm (gr (g 1) 0) = true) : XP g g := ⟨fun _ _ _ => rfl, fun _ _ _ => rfl, fun _ _ _ => rfl, rfl, rfl, h⟩
theorem XP.M {g g' : Gs} (h : XP g g') (r : Rec) : (∀ o, 200 ≤ o → o ≤ 207 → (ug g' 1001 r) o = g o) ∧ (∀ o, 500 ≤ o → o ≤ 523 → (ug g' 1001 r) o = g o) ∧ (∀ o, 800 ≤ o → o ≤ 803 → (ug g' 1001 r) o = g o) ∧ (ug g' 1001 r) 901 = g 901 ∧ (ug g' 1001 r) 1001 = r ∧ isHm (gr ((ug g' 1001 r) 1) 0) = true :=
  ⟨fun o h1 h2 => by rw [ug_ne (by omega)]; exact h.1 o h1 h2, fun o h1 h2 => by rw [ug_ne (by omega)]; exact h.2.1 o h1 h2, fun o h1 h2 => by rw [ug_ne (by omega)]; exact h.2.2.1 o h1 h2, by rw [ug_ne (by decide)]; exact h.2.2.2.1, ug_same _ _ _, by rw [ug_ne (by decide)]; exact h.2.2.2.2.2⟩
/-- a call that keeps what is kept keeps the invariant -/
theorem Inv.keep {g g' : Gs} {r : Rec} (h : Inv g) (hx : XP g g') (hm : MP (g 1001) r) : Inv (ug g' 1001 r) := by
  obtain ⟨a1, a2, a3, a4, a5, a6⟩ := hx.M r
  have key : ∀ t, t ≤ 3 → BR g (g 1001) t → BR (ug g' 1001 r) r t := by
    intro t ht hb
    unfold BR
    obtain ⟨m1, m2, m3, m4, m5, m6, m7, m8, m9, m10⟩ := hm
    rw [m1, m2, m3, m4, m5, m6, m7, m8, m9, a3 (800 + t) (by omega) (by omega)]
    refine ⟨hb.1, hb.2.1, hb.2.2.1, hb.2.2.2.1, hb.2.2.2.2.1, fun i hi => ?_, fun i hi => ?_, fun i hi => ?_, fun i hi => ?_⟩
    · rw [a1 (200 + 2 * t + i) (by omega) (by omega)]; exact hb.2.2.2.2.2.1 i hi
    · rw [a2 (500 + 6 * t + i) (by omega) (by omega)]; exact hb.2.2.2.2.2.2.1 i hi
    · rw [a2 (502 + 6 * t + i) (by omega) (by omega)]; exact hb.2.2.2.2.2.2.2.1 i hi
    · rw [a2 (504 + 6 * t + i) (by omega) (by omega)]; exact hb.2.2.2.2.2.2.2.2 i hi
  refine ⟨a6, ?_, fun k hk => ?_, fun k hk hn => ?_⟩
  · rw [a5]; exact key 0 (by omega) h.2.1
  · rw [a5, a4, hm.2.2.2.2.2.2.2.2.2]; exact h.2.2.1 k hk
  · rw [a4] at hn
    rw [a5]; exact key (k + 1) (by omega) (h.2.2.2 k hk hn)
