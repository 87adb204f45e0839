def Fr (r r' : Rec) : Prop := ∀ k, k ≠ 19 → k ≠ 20 → ga r' k = ga r k
theorem Fr.rf (r : Rec) : Fr r r := fun _ _ _ => rfl
theorem Fr.tr {a b c : Rec} (h : Fr a b) (k : Fr b c) : Fr a c := fun x x1 x2 => (k x x1 x2).trans (h x x1 x2)
theorem TkR.fr {r r' : Rec} {u : Nat → Nat} {n p j : Nat} {ff : Option (Nat × Nat)} {ok : Bool} {a b : Int32} (h : TkR r r' u n p j ff ok a b) : Fr r r' := fun k _ k2 => h.2.2.2.1 k k2
/-- how numbers of a line come out -/
def NumOut (u : Nat → Nat) (n : Nat) (f : Option (Rec × Int32)) (q m : Nat) (G fr : Rec → Prop) : Prop := ((∀ j, j < m → tkk u n (pz u n q j) = 2) → ∃ r', f = some (r', 1) ∧ G r') ∧ ∀ j, j < m → (∀ x, x < j → tkk u n (pz u n q x) = 2) → ¬ tkk u n (pz u n q j) = 2 → ∃ r', f = some (r', 0) ∧ gi r' 16 = nI (tks u n (pz u n q j)) ∧ fr r'
theorem NumOut.fin {u : Nat → Nat} {n q : Nat} {f : Option (Rec × Int32)} {r' : Rec} {G fr : Rec → Prop} (h : f = some (r', 1)) (hG : G r') : NumOut u n f q 0 G fr := ⟨fun _ => ⟨r', h, hG⟩, fun j hj => absurd hj (Nat.not_lt_zero j)⟩
theorem NumOut.no {u : Nat → Nat} {n q m : Nat} {f : Option (Rec × Int32)} {r' : Rec} {G fr : Rec → Prop} (hk : ¬ tkk u n q = 2) (h : f = some (r', 0)) (h16 : gi r' 16 = nI (tks u n q)) (hf : fr r') : NumOut u n f q (m + 1) G fr := by
  refine ⟨fun z => absurd (z 0 (Nat.succ_pos m)) hk, fun j hj hx hn => ?_⟩
  match j, hx with
  | 0, _ => exact ⟨r', h, h16, hf⟩
  | j + 1, hx => exact absurd (hx 0 (Nat.succ_pos j)) hk
theorem NumOut.yes {u : Nat → Nat} {n q m : Nat} {f : Option (Rec × Int32)} {G fr : Rec → Prop} (hk : tkk u n q = 2) (h : NumOut u n f (tke u n q) m G fr) : NumOut u n f q (m + 1) G fr := by
  refine ⟨fun z => h.1 (fun j hj => ?_), fun j hj hx hn => ?_⟩
  · rw [← pz_shift]
    exact z (j + 1) (by omega)
  · match j, hj, hx, hn with
    | 0, _, _, hn => exact absurd hk hn
    | j + 1, hj, hx, hn =>
      rw [pz_shift] at hn ⊢
      exact h.2 j (by omega) (fun x hx2 => by rw [← pz_shift]; exact hx (x + 1) (by omega)) hn
theorem w_inj : ∀ a, a < 12 → ∀ b, b < 12 → wln a = wln b → (∀ i, i < wln a → wch a i = wch b i) → a = b := by decide +kernel
theorem MtV_inj {u : Nat → Nat} {n i a b : Nat} (ha : a < 12) (hb : b < 12) (h1 : MtV u n i a) (h2 : MtV u n i b) : a = b := by
  have e : wln a = wln b := h1.2.1.symm.trans h2.2.1
  exact w_inj a ha b hb e (fun x hx => (h1.2.2 x hx).symm.trans (h2.2.2 x (by omega)))
theorem lt1_none {ff : Option (Nat × Nat)} {b : Bool} {f p : Nat} (h : lt1 ff b f p = none) : ff = none ∧ b = true := by
  cases ff with
  | none =>
    cases b with
    | true => exact ⟨rfl, rfl⟩
    | false => cases h
  | some x => cases h
/-! the bounds, verb by verb -/
theorem ok_0 {m : Nat → Nat → Nat} {vs : Nat → Nat} {l : Nat} (hv : vs l = 0) : okP m vs l 0 = true ↔ (0 ≤ m l 0 ∧ m l 0 ≤ 9) := by
  rw [okP_iff, hv, show lst 0 0 = 0 from rfl, show mst 0 0 = 9 from rfl]; omega
theorem ok_1 {m : Nat → Nat → Nat} {vs : Nat → Nat} {l : Nat} (hv : vs l = 1) : okP m vs l 0 = true ↔ (1 ≤ m l 0 ∧ m l 0 ≤ 30) := by
  rw [okP_iff, hv, show lst 1 0 = 1 from rfl, show mst 1 0 = 30 from rfl]; omega
theorem ok_2 {m : Nat → Nat → Nat} {vs : Nat → Nat} {l : Nat} (hv : vs l = 2) : (okP m vs l 0 = true ↔ m l 0 ≤ 7) ∧ (okP m vs l 1 = true ↔ m l 1 ≤ 9) := by
  rw [okP_iff, okP_iff, hv, show lst 2 0 = 0 from rfl, show mst 2 0 = 7 from rfl, show lst 2 1 = 0 from rfl, show mst 2 1 = 9 from rfl]; omega
theorem ok_3 {m : Nat → Nat → Nat} {vs : Nat → Nat} {l : Nat} (hv : vs l = 3) : (okP m vs l 0 = true ↔ m l 0 ≤ 9) ∧ (okP m vs l 1 = true ↔ (m l 1 ≤ 9 ∧ m l 1 ≠ m l 0)) ∧ (okP m vs l 2 = true ↔ (m l 2 ≤ 9 ∧ m l 2 ≠ m l 0 ∧ m l 2 ≠ m l 1)) := by
  rw [okP_iff, okP_iff, okP_iff, hv, show lst 3 0 = 0 from rfl, show mst 3 0 = 9 from rfl, show lst 3 1 = 0 from rfl, show mst 3 1 = 9 from rfl, show lst 3 2 = 0 from rfl, show mst 3 2 = 9 from rfl]; omega
theorem ok_4 {m : Nat → Nat → Nat} {vs : Nat → Nat} {l : Nat} (hv : vs l = 4) : (okP m vs l 0 = true ↔ m l 0 ≤ 9) ∧ (okP m vs l 1 = true ↔ m l 1 ≤ 7) := by
  rw [okP_iff, okP_iff, hv, show lst 4 0 = 0 from rfl, show mst 4 0 = 9 from rfl, show lst 4 1 = 0 from rfl, show mst 4 1 = 7 from rfl]; omega
theorem ok_5 {m : Nat → Nat → Nat} {vs : Nat → Nat} {l : Nat} (hv : vs l = 5) : (okP m vs l 0 = true ↔ m l 0 ≤ 9) ∧ (okP m vs l 1 = true ↔ m l 1 ≤ 7) ∧ (okP m vs l 2 = true ↔ (m l 2 ≤ 7 ∧ m l 2 ≠ m l 1)) := by
  rw [okP_iff, okP_iff, okP_iff, hv, show lst 5 0 = 0 from rfl, show mst 5 0 = 9 from rfl, show lst 5 1 = 0 from rfl, show mst 5 1 = 7 from rfl, show lst 5 2 = 0 from rfl, show mst 5 2 = 7 from rfl]; omega
theorem ok_678 {m : Nat → Nat → Nat} {vs : Nat → Nat} {l : Nat} (hv : vs l = 6 ∨ vs l = 7 ∨ vs l = 8) : okP m vs l 0 = true ↔ m l 0 ≤ 7 := by
  rcases hv with hv | hv | hv
  · rw [okP_iff, hv, show lst 6 0 = 0 from rfl, show mst 6 0 = 7 from rfl]; omega
  · rw [okP_iff, hv, show lst 7 0 = 0 from rfl, show mst 7 0 = 7 from rfl]; omega
  · rw [okP_iff, hv, show lst 8 0 = 0 from rfl, show mst 8 0 = 7 from rfl]; omega
theorem ok_10 {m : Nat → Nat → Nat} {vs : Nat → Nat} {l : Nat} (hv : vs l = 10) : (okP m vs l 0 = true ↔ ((if l = 0 then 0 else m (l - 1) 0) ≤ m l 0 ∧ m l 0 ≤ 60)) ∧ (okP m vs l 1 = true ↔ m l 1 ≤ 7) ∧ (okP m vs l 2 = true ↔ (1 ≤ m l 2 ∧ m l 2 ≤ 60)) := by
  rw [okP_iff, okP_iff, okP_iff, hv, show lst 10 0 = 0 from rfl, show mst 10 0 = 60 from rfl, show lst 10 1 = 0 from rfl, show mst 10 1 = 7 from rfl, show lst 10 2 = 1 from rfl, show mst 10 2 = 60 from rfl]
  by_cases c : l = 0
  · rw [if_pos c]; omega
  · rw [if_neg c]; omega
theorem ok_11 {m : Nat → Nat → Nat} {vs : Nat → Nat} {l : Nat} (hv : vs l = 11) : (okP m vs l 0 = true ↔ m l 0 ≤ 7) ∧ (okP m vs l 1 = true ↔ (0 ≤ m l 1 ∧ m l 1 ≤ 60)) := by
  rw [okP_iff, okP_iff, hv, show lst 11 0 = 0 from rfl, show mst 11 0 = 7 from rfl, show lst 11 1 = 0 from rfl, show mst 11 1 = 60 from rfl]; omega
/-! knows and link -/
def fa (ff : Option (Nat × Nat)) (u : Nat → Nat) (n : Nat) (ok : Nat → Bool) (q : Nat) (m : Nat) : Option (Nat × Nat) := ffn ff ok (fun j => tks u n (pz u n q j)) m
theorem knows_nI {r : Rec} {u : Nat → Nat} {n q : Nat} {ff : Option (Nat × Nat)} {ok : Nat → Bool} (h : AtM r u n q) (hF : FS r ff (tks u n q)) (h24 : gi r 24 = 1) (o0 : ok 0 = true ↔ nval u n q ≤ 7) (o1 : ok 1 = true ↔ nval u n (tke u n q) ≤ 9) : NumOut u n (fX10_knowsLine r) q 2 (fun r' => AtM r' u n (pz u n q 2) ∧ FS r' (fa ff u n ok q 2) (tks u n (pz u n q 2)) ∧ Fr r r' ∧ gi r' 21 = grt (gi r 21) (nI (nval u n q)) ∧ gi r' 22 = grt (gi r 22) (nI (nval u n (tke u n q))) ∧ (ga r' 19 = ga r 19 ∨ ∃ x, 19 ≤ x ∧ ∃ y, ga r' 19 = upd (ga r 19) x y) ∧ (ok 0 = true → ok 1 = true → ga r' 19 = upd (ga r 19) (19 + nval u n q) (ga r 19 (19 + nval u n q) ||| nI (2 ^ nval u n (tke u n q))))) (fun r' => Fr r r') := by
  by_cases k0 : tkk u n q = 2
  · obtain ⟨r1, f1, t1⟩ := takeP_nI (v2 := -1) (j := 0) (ok := ok 0) h k0 (by decide) hF (by rw [o0]; exact ⟨fun z => ⟨z, nI_m1 (by have := nval_b h.2.1 k0; omega)⟩, fun z => z.1⟩)
    refine NumOut.yes k0 ?_
    have e1 : fX10_knowsLine r = (fX10_takeSecret r1 1 (-1) (-1)).bind fun z2 => if z2.2 = 0 then some ((z2.1, 0)) else if (gi z2.1 24) = 0 then some ((z2.1, 1)) else (some (19 + (ga z2.1 20 (Int32.toNatClampNeg 0)))).bind fun x3 => gd (inR x3 161) (gd (inR x3 161) ((some (sa z2.1 19 (upd (ga z2.1 19) (Int32.toNatClampNeg x3) ((ga z2.1 19 (Int32.toNatClampNeg x3)) ||| ((1 : Int32) <<< ((ga z2.1 20 (Int32.toNatClampNeg 1)) &&& 31)))))).bind fun r6 => some ((r6, 1)))) := by
      unfold fX10_knowsLine
      rw [show (0 : Int32) = nI 0 from rfl, f1, bd_some]
      rfl
    rw [e1]
    by_cases k1 : tkk u n (tke u n q) = 2
    · refine NumOut.yes k1 ?_
      have hx := nval_b h.2.1 k0
      have hy := nval_b t1.1.2.1 k1
      obtain ⟨r2, f2, t2⟩ := takeS_nI (v2 := -1) (v3 := -1) (j := 1) (ok := ok 1) t1.1 k1 (by decide) t1.2.1 (by rw [o1]; exact ⟨fun z => ⟨z, nI_m1 (by omega), nI_m1 (by omega)⟩, fun z => z.1⟩)
      rw [show fX10_takeSecret r1 1 (-1) (-1) = some (r2, 1) from f2, bd_some]
      dsimp only
      rw [if_neg (show ¬ (1 : Int32) = 0 by decide)]
      have g24 : gi r2 24 = if ok 1 = true then if ok 0 = true then 1 else 0 else 0 := by rw [t2.2.2.2.2.1, t1.2.2.2.2.1, h24]
      have g19 : ga r2 19 = ga r 19 := by rw [t2.2.2.2.1 19 (by decide), t1.2.2.2.1 19 (by decide)]
      have g20 : ga r2 20 0 = nI (nval u n q) ∧ ga r2 20 1 = nI (nval u n (tke u n q)) := by
        rw [t2.2.2.1, t1.2.2.1, upd_if, if_neg (by decide), upd_if, if_pos rfl, upd_if, if_pos rfl]
        exact ⟨rfl, rfl⟩
      have hFr : Fr r r2 := t1.fr.tr t2.fr
      have g21 : gi r2 21 = grt (gi r 21) (nI (nval u n q)) := by rw [t2.2.2.2.2.2.2.1, t1.2.2.2.2.2.2.1]
      have g22 : gi r2 22 = grt (gi r 22) (nI (nval u n (tke u n q))) := by rw [t2.2.2.2.2.2.2.2, t1.2.2.2.2.2.2.2]
      by_cases c : ok 0 = true ∧ ok 1 = true
      · have hx7 := o0.mp c.1
        have hy9 := o1.mp c.2
        rw [if_pos c.1, if_pos c.2] at g24
        refine NumOut.fin (r' := sa r2 19 (upd (ga r 19) (19 + nval u n q) (ga r 19 (19 + nval u n q) ||| nI (2 ^ nval u n (tke u n q))))) ?_ ⟨t2.1.to (ga_san (by decide)) (fun _ _ _ => rfl) rfl, t2.2.1, fun k k1 k2 => by rw [ga_san k1]; exact hFr k k1 k2, g21, g22, Or.inr ⟨_, Nat.le_add_right _ _, _, ga_sae _ _ _⟩, fun _ _ => ga_sae _ _ _⟩
        rw [if_neg (show ¬ gi r2 24 = 0 by rw [g24]; decide), bd_some, show Int32.toNatClampNeg 0 = 0 from rfl, show Int32.toNatClampNeg 1 = 1 from rfl, g20.1, g20.2, show (19 : Int32) = nI 19 from rfl, nI_add, inR_nI (show 19 + nval u n q < 161 by omega) (by decide), gd_true, gd_true, nI_clamp (by omega), g19, show (1 : Int32) <<< (nI (nval u n (tke u n q)) &&& 31) = nI (2 ^ nval u n (tke u n q)) from shl_nI _ (by omega), bd_some]
      · refine NumOut.fin (r' := r2) ?_ ⟨t2.1, t2.2.1, hFr, g21, g22, Or.inl g19, fun a b => absurd ⟨a, b⟩ c⟩
        rw [if_pos (show gi r2 24 = 0 by
          rw [g24]
          by_cases c1 : ok 1 = true
          · rw [if_pos c1, if_neg (fun z => c ⟨z, c1⟩)]
          · rw [if_neg c1])]
    · refine NumOut.no k1 (r' := si r1 16 (nI (tks u n (tke u n q)))) ?_ (gi_sie _ _ _) (fun k k1 k2 => t1.fr k k1 k2)
      rw [takeS_no t1.1 k1, bd_some]
      rfl
  · refine NumOut.no k0 (r' := si r 16 (nI (tks u n q))) ?_ (gi_sie _ _ _) (fun k k1 k2 => rfl)
    unfold fX10_knowsLine
    rw [takeP_no h k0, bd_some]
    rfl
