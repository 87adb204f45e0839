def lsh (u : Nat → Nat) (n : Nat) (ps vs : Nat → Nat) (l : Nat) : Nat := if l = 0 then 0 else num u n ps vs (l - 1) 0
def DSt (r : Rec) (u : Nat → Nat) (n : Nat) (ps vs : Nat → Nat) (l : Nat) : Prop := RSt r u n ps vs 3 8 (fun k c => nI (num u n ps vs k c)) l ∧ gi r 23 = nI (lsh u n ps vs l) ∧ lsh u n ps vs l < 100
noncomputable def dnrL (r : Rec) : Option (Rec × Int32) := (fX10_take r 0 (gi r 23) 60).bind fun z3 => if z3.2 = 0 then some ((z3.1, 0)) else (fX10_takePiece z3.1 1 (-1)).bind fun z4 => if z4.2 = 0 then some ((z4.1, 0)) else (fX10_take z4.1 2 1 60).bind fun z5 => if z5.2 = 0 then some ((z5.1, 0)) else (some (si z5.1 23 (ga z5.1 20 (Int32.toNatClampNeg 0)))).bind fun r6 => (fX10_keepRow r6 3 8).bind fun z7 => some ((z7, 1))
noncomputable def lgL (r : Rec) : Option (Rec × Int32) := (fX10_takePiece r 0 (-1)).bind fun z3 => if z3.2 = 0 then some ((z3.1, 0)) else (fX10_take z3.1 1 0 60).bind fun z4 => if z4.2 = 0 then some ((z4.1, 0)) else (fX10_keepRow z4.1 2 8).bind fun z5 => some ((z5, 1))
theorem dinner_nI {r : Rec} {u : Nat → Nat} {n q c lo : Nat} {ff : Option (Nat × Nat)} {ok : Nat → Bool} (h : AtM r u n q) (hF : FS r ff (tks u n q)) (hc : ga r 19 0 = nI c) (hc8 : c ≤ 8) (h23 : gi r 23 = nI lo) (hlo : lo < 100) (o0 : ok 0 = true ↔ (lo ≤ nval u n q ∧ nval u n q ≤ 60)) (o1 : ok 1 = true ↔ nval u n (tke u n q) ≤ 7) (o2 : ok 2 = true ↔ (1 ≤ nval u n (tke u n (tke u n q)) ∧ nval u n (tke u n (tke u n q)) ≤ 60)) : NumOut u n (dnrL r) q 3 (fun r' => AtM r' u n (pz u n q 3) ∧ FS r' (fa ff u n ok q 3) (tks u n (pz u n q 3)) ∧ Fr r r' ∧ gi r' 23 = nI (nval u n q) ∧ nval u n q < 100 ∧ ∃ row, (∀ j, j < 3 → row j = nI (nval u n (pz u n q j))) ∧ KpR r r' 3 c 8 row) (Fr r) := by
  by_cases k0 : tkk u n q = 2
  · have hx := nval_b h.2.1 k0
    obtain ⟨r1, f1, t1⟩ := take_nI (a := lo) (b := 60) (j := 0) (ok := ok 0) h k0 (by decide) hF (by omega) (by decide) o0
    refine NumOut.yes k0 ?_
    unfold dnrL
    rw [h23, show fX10_take r 0 (nI lo) 60 = some (r1, 1) from f1, bd_some]
    dsimp only
    rw [if_neg (show ¬ (1 : Int32) = 0 by decide)]
    by_cases k1 : tkk u n (tke u n q) = 2
    · refine NumOut.yes k1 ?_
      have hy := nval_b t1.1.2.1 k1
      obtain ⟨r2, f2, t2⟩ := takeP_nI (v2 := -1) (j := 1) (ok := ok 1) t1.1 k1 (by decide) t1.2.1 (by rw [o1]; exact ⟨fun z => ⟨z, nI_m1 (by omega)⟩, fun z => z.1⟩)
      rw [show fX10_takePiece r1 1 (-1) = some (r2, 1) from f2, bd_some]
      dsimp only
      rw [if_neg (show ¬ (1 : Int32) = 0 by decide)]
      by_cases k2 : tkk u n (tke u n (tke u n q)) = 2
      · refine NumOut.yes k2 ?_
        obtain ⟨r3, f3, t3⟩ := take_nI (a := 1) (b := 60) (j := 2) (ok := ok 2) t2.1 k2 (by decide) t2.2.1 (by decide) (by decide) o2
        rw [show fX10_take r2 2 1 60 = some (r3, 1) from f3, bd_some]
        dsimp only
        have a3 : ga r3 20 0 = nI (nval u n q) ∧ ga r3 20 1 = nI (nval u n (tke u n q)) ∧ ga r3 20 2 = nI (nval u n (tke u n (tke u n q))) := by
          rw [t3.2.2.1, t2.2.2.1, t1.2.2.1]
          exact ⟨rfl, rfl, rfl⟩
        have g19 : ga r3 19 = ga r 19 := by rw [t3.2.2.2.1 19 (by decide), t2.2.2.2.1 19 (by decide), t1.2.2.2.1 19 (by decide)]
        have hFr : Fr r r3 := (t1.fr.tr t2.fr).tr t3.fr
        rw [if_neg (show ¬ (1 : Int32) = 0 by decide), bd_some, show Int32.toNatClampNeg 0 = 0 from rfl, a3.1]
        obtain ⟨r', e1, e2, e3, e4, e5⟩ := keepR (r := si r3 23 (nI (nval u n q))) (w := 3) (c := c) (cp := 8) (by show ga r3 19 0 = _; rw [g19]; exact hc) hc8 (by decide) (by decide) (by decide)
        refine NumOut.fin (r' := r') ?_ ⟨t3.1.to (e4 1 (by decide)) (fun k k1 k2 => by rw [e2, gi_sin (by omega)]) (e3 15), t3.2.1.to (by rw [e2, gi_sin (by decide)]) (by rw [e2, gi_sin (by decide)]) (Nat.le_refl _), fun k k1 k2 => (e4 k k1).trans (hFr k k1 k2), by rw [e2, gi_sie], hx, ga r3 20, fun j hj => ?_, ?_⟩
        · rw [show fX10_keepRow (si r3 23 (nI (nval u n q))) 3 8 = some r' from e1, bd_some]
        · match j, hj with
          | 0, _ => exact a3.1
          | 1, _ => exact a3.2.1
          | 2, _ => exact a3.2.2
          | j + 3, hj => omega
        · unfold KpR at e5 ⊢
          rw [show ga (si r3 23 (nI (nval u n q))) 19 = ga r 19 from g19] at e5
          exact e5
      · refine NumOut.no k2 (r' := si r2 16 (nI (tks u n (tke u n (tke u n q))))) ?_ (gi_sie _ _ _) (fun k k1 k2 => (t1.fr.tr t2.fr) k k1 k2)
        rw [take_no t2.1 k2, bd_some]
        rfl
    · refine NumOut.no k1 (r' := si r1 16 (nI (tks u n (tke u n q)))) ?_ (gi_sie _ _ _) (fun k k1 k2 => t1.fr k k1 k2)
      rw [takeP_no t1.1 k1, bd_some]
      rfl
  · refine NumOut.no k0 (r' := si r 16 (nI (tks u n q))) ?_ (gi_sie _ _ _) (fun k k1 k2 => rfl)
    unfold dnrL
    rw [take_no h k0, bd_some]
    rfl
theorem log_nI {r : Rec} {u : Nat → Nat} {n q c : Nat} {ff : Option (Nat × Nat)} {ok : Nat → Bool} (h : AtM r u n q) (hF : FS r ff (tks u n q)) (hc : ga r 19 0 = nI c) (hc8 : c ≤ 8) (o0 : ok 0 = true ↔ nval u n q ≤ 7) (o1 : ok 1 = true ↔ (0 ≤ nval u n (tke u n q) ∧ nval u n (tke u n q) ≤ 60)) : NumOut u n (lgL r) q 2 (fun r' => AtM r' u n (pz u n q 2) ∧ FS r' (fa ff u n ok q 2) (tks u n (pz u n q 2)) ∧ Fr r r' ∧ ∃ row, (∀ j, j < 2 → row j = nI (nval u n (pz u n q j))) ∧ KpR r r' 2 c 8 row) (Fr r) := by
  by_cases k0 : tkk u n q = 2
  · have hx := nval_b h.2.1 k0
    obtain ⟨r1, f1, t1⟩ := takeP_nI (v2 := -1) (j := 0) (ok := ok 0) h k0 (by decide) hF (by rw [o0]; exact ⟨fun z => ⟨z, nI_m1 (by omega)⟩, fun z => z.1⟩)
    refine NumOut.yes k0 ?_
    unfold lgL
    rw [show fX10_takePiece r 0 (-1) = some (r1, 1) from f1, bd_some]
    dsimp only
    rw [if_neg (show ¬ (1 : Int32) = 0 by decide)]
    by_cases k1 : tkk u n (tke u n q) = 2
    · refine NumOut.yes k1 ?_
      obtain ⟨r2, f2, t2⟩ := take_nI (a := 0) (b := 60) (j := 1) (ok := ok 1) t1.1 k1 (by decide) t1.2.1 (by decide) (by decide) o1
      rw [show fX10_take r1 1 0 60 = some (r2, 1) from f2, bd_some]
      dsimp only
      rw [if_neg (show ¬ (1 : Int32) = 0 by decide)]
      have a2 : ga r2 20 0 = nI (nval u n q) ∧ ga r2 20 1 = nI (nval u n (tke u n q)) := by
        rw [t2.2.2.1, t1.2.2.1]
        exact ⟨rfl, rfl⟩
      have g19 : ga r2 19 = ga r 19 := by rw [t2.2.2.2.1 19 (by decide), t1.2.2.2.1 19 (by decide)]
      have hFr : Fr r r2 := t1.fr.tr t2.fr
      obtain ⟨r', e1, e2, e3, e4, e5⟩ := keepR (r := r2) (w := 2) (c := c) (cp := 8) (by rw [g19]; exact hc) hc8 (by decide) (by decide) (by decide)
      refine NumOut.fin (r' := r') ?_ ⟨t2.1.to (e4 1 (by decide)) (fun k k1 k2 => e2 k) (e3 15), t2.2.1.to (e2 17) (e2 18) (Nat.le_refl _), fun k k1 k2 => (e4 k k1).trans (hFr k k1 k2), ga r2 20, fun j hj => ?_, ?_⟩
      · rw [show fX10_keepRow r2 2 8 = some r' from e1, bd_some]
      · match j, hj with
        | 0, _ => exact a2.1
        | 1, _ => exact a2.2
        | j + 2, hj => omega
      · unfold KpR at e5 ⊢
        rw [g19] at e5
        exact e5
    · refine NumOut.no k1 (r' := si r1 16 (nI (tks u n (tke u n q)))) ?_ (gi_sie _ _ _) (fun k k1 k2 => t1.fr k k1 k2)
      rw [take_no t1.1 k1, bd_some]
      rfl
  · refine NumOut.no k0 (r' := si r 16 (nI (tks u n q))) ?_ (gi_sie _ _ _) (fun k k1 k2 => rfl)
    unfold lgL
    rw [takeP_no h k0, bd_some]
    rfl
theorem dinnerLn {r : Rec} {u : Nat → Nat} {n : Nat} {ps vs ks : Nat → Nat} {l : Nat} (h : AtM r u n (ps l)) (hF : FS r (ffl u n ps vs l) (tks u n (ps l))) (hH : DSt r u n ps vs l) (hm : MtV u n (ps l) (vs l)) (hv : vs l = 10) (hl : l ≤ 120) : LineGo (fX10_dinnerLine r (wdq u n (ps l)) (nI (tks u n (ps l)))) u n ps vs ks l (fun r' => DSt r' u n ps vs (l + 1)) (Fr r) := by
  have htm := tmy_r (show ¬ vs l ≤ 3 by omega) (show cap (vs l) = 8 by rw [hv]; rfl)
  obtain ⟨r1, r2, f1, f2, A2, F2, a2, -, -, g23, -⟩ := begin_nI (v1 := 0) (c := min 8 l) (cp := 8) (tm := tmy vs l) h hF (by rw [hm.1]; decide) (by decide) hH.1.1 (by omega) (by decide) htm
  have e : fX10_dinnerLine r (wdq u n (ps l)) (nI (tks u n (ps l))) = dnrL r2 := by
    obtain ⟨-, -, -, -, -, -, w10, -⟩ := wR h.1.2.2.1 h.2.1
    unfold fX10_dinnerLine dnrL
    rw [if_pos (w10.mpr (by rw [hv] at hm; exact hm)), show fX10_full r 0 8 (nI (tks u n (ps l))) = some r1 from f1, bd_some, f2, bd_some]
  rw [e]
  refine ⟨fun z => by omega, fun _ => ?_⟩
  have hq : qn u n (ps l) (vs l) = tke u n (ps l) := by rw [hv]; rfl
  have hnum : ∀ j, num u n ps vs l j = nval u n (pz u n (tke u n (ps l)) j) := fun j => by unfold num; rw [hq]
  have hnb : nmb (vs l) = 3 := by rw [hv]; rfl
  have hff := ffl_s u n ps vs l 3 hnb
  rw [hq] at hff
  rw [hnb, hff, hq]
  obtain ⟨k0, k1, k2⟩ := ok_10 (m := num u n ps vs) hv
  refine (dinner_nI (c := min 8 l) (lo := lsh u n ps vs l) (ok := okP (num u n ps vs) vs l) A2 F2 (by rw [a2]; exact hH.1.1) (by omega) (by rw [g23]; exact hH.2.1) hH.2.2 (by rw [k0, hnum]; rfl) (by rw [k1, hnum]; rfl) (by rw [k2, hnum]; rfl)).mono (fun r' hr => ?_) (fun r' hr => fun k k1 k2 => (hr k k1 k2).trans (a2 k))
  obtain ⟨A, F, R, e23, hx, row, hrow, hK⟩ := hr
  have hK' : KpR r r' 3 (min 8 l) 8 row := by
    unfold KpR at hK ⊢
    rw [a2] at hK
    exact hK
  have els : lsh u n ps vs (l + 1) = num u n ps vs l 0 := if_neg (by omega)
  refine ⟨A, F, ⟨hH.1.step hK' (fun j hj => ?_) (fun z => ?_), by rw [els, hnum]; exact e23, by rw [els, hnum]; exact hx⟩, fun k k1 k2 => (R k k1 k2).trans (a2 k)⟩
  · rw [hrow j hj, hnum]
  · obtain ⟨z1, z2, z3⟩ := ffl_none z
    exact ⟨z1, by have : ¬ min 8 l = 8 := fun y => z2 (htm.mpr y); omega⟩
theorem logLn {r : Rec} {u : Nat → Nat} {n : Nat} {ps vs ks : Nat → Nat} {l : Nat} (h : AtM r u n (ps l)) (hF : FS r (ffl u n ps vs l) (tks u n (ps l))) (hH : RSt r u n ps vs 2 8 (fun k c => nI (num u n ps vs k c)) l) (hm : MtV u n (ps l) (vs l)) (hv : vs l = 11) (hl : l ≤ 120) : LineGo (fX10_logLine r (wdq u n (ps l)) (nI (tks u n (ps l)))) u n ps vs ks l (fun r' => RSt r' u n ps vs 2 8 (fun k c => nI (num u n ps vs k c)) (l + 1)) (Fr r) := by
  have htm := tmy_r (show ¬ vs l ≤ 3 by omega) (show cap (vs l) = 8 by rw [hv]; rfl)
  obtain ⟨r1, r2, f1, f2, A2, F2, a2, -, -, -, -⟩ := begin_nI (v1 := 0) (c := min 8 l) (cp := 8) (tm := tmy vs l) h hF (by rw [hm.1]; decide) (by decide) hH.1 (by omega) (by decide) htm
  have e : fX10_logLine r (wdq u n (ps l)) (nI (tks u n (ps l))) = lgL r2 := by
    obtain ⟨-, -, -, -, -, -, -, w11⟩ := wR h.1.2.2.1 h.2.1
    unfold fX10_logLine lgL
    rw [if_pos (w11.mpr (by rw [hv] at hm; exact hm)), show fX10_full r 0 8 (nI (tks u n (ps l))) = some r1 from f1, bd_some, f2, bd_some]
  rw [e]
  refine ⟨fun z => by omega, fun _ => ?_⟩
  have hq : qn u n (ps l) (vs l) = tke u n (ps l) := by rw [hv]; rfl
  have hnum : ∀ j, num u n ps vs l j = nval u n (pz u n (tke u n (ps l)) j) := fun j => by unfold num; rw [hq]
  have hnb : nmb (vs l) = 2 := by rw [hv]; rfl
  have hff := ffl_s u n ps vs l 2 hnb
  rw [hq] at hff
  rw [hnb, hff, hq]
  obtain ⟨k0, k1⟩ := ok_11 (m := num u n ps vs) hv
  refine (log_nI (c := min 8 l) (ok := okP (num u n ps vs) vs l) A2 F2 (by rw [a2]; exact hH.1) (by omega) (by rw [k0, hnum]; rfl) (by rw [k1, hnum]; rfl)).mono (fun r' hr => ?_) (fun r' hr => fun k k1 k2 => (hr k k1 k2).trans (a2 k))
  obtain ⟨A, F, R, row, hrow, hK⟩ := hr
  have hK' : KpR r r' 2 (min 8 l) 8 row := by
    unfold KpR at hK ⊢
    rw [a2] at hK
    exact hK
  refine ⟨A, F, hH.step hK' (fun j hj => ?_) (fun z => ?_), fun k k1 k2 => (R k k1 k2).trans (a2 k)⟩
  · rw [hrow j hj, hnum]
  · obtain ⟨z1, z2, z3⟩ := ffl_none z
    exact ⟨z1, by have : ¬ min 8 l = 8 := fun y => z2 (htm.mpr y); omega⟩
