def KpR (r r' : Rec) (w c cp : Nat) (row : Nat → Int32) : Prop := (c = cp → ga r' 19 = ga r 19) ∧ (c < cp → ga r' 19 0 = nI (c + 1) ∧ (∀ j, j < w → ga r' 19 (1 + w * c + j) = row j) ∧ ∀ y, y ≠ 0 → (y < 1 + w * c ∨ 1 + w * c + w ≤ y) → ga r' 19 y = ga r 19 y)
theorem keepR {r : Rec} {w c cp : Nat} (hc : ga r 19 0 = nI c) (hcp : c ≤ cp) (hw : w ≤ 4) (hb : w * cp ≤ 160) (hcp2 : cp < 161) : ∃ r', fX10_keepRow r (nI w) (nI cp) = some r' ∧ (∀ k, gi r' k = gi r k) ∧ (∀ k, gl r' k = gl r k) ∧ (∀ k, k ≠ 19 → ga r' k = ga r k) ∧ KpR r r' w c cp (ga r 20) := by
  by_cases e : c = cp
  · subst e
    exact ⟨r, keepRow_no hc, fun _ => rfl, fun _ => rfl, fun _ _ => rfl, fun _ => rfl, fun z => by omega⟩
  · refine ⟨_, keepRow_nI hc (by omega) hw hb hcp2, fun _ => rfl, fun _ => rfl, fun k hk => ga_san hk, fun z => absurd z e, fun _ => ⟨?_, fun j hj => ?_, fun y y0 y1 => ?_⟩⟩
    · rw [ga_sae, upd_if, if_pos rfl]
    · rw [ga_sae, upd_if, if_neg (by omega)]
      exact kpx_at (m := ga r 19) (ix := fun j => 1 + w * c + j) (g := ga r 20) w j hj (fun i _ h2 => by omega)
    · rw [ga_sae, upd_if, if_neg y0]
      exact kpx_no w (fun j hj => by omega)
def RSt (r : Rec) (u : Nat → Nat) (n : Nat) (ps vs : Nat → Nat) (w cp : Nat) (rv : Nat → Nat → Int32) (l : Nat) : Prop := ga r 19 0 = nI (min cp l) ∧ (ffl u n ps vs l = none → l ≤ cp ∧ ∀ k, k < l → ∀ c, c < w → ga r 19 (1 + w * k + c) = rv k c)
theorem RSt.step {r r' : Rec} {u : Nat → Nat} {n : Nat} {ps vs : Nat → Nat} {w cp l : Nat} {rv : Nat → Nat → Int32} {row : Nat → Int32} (h : RSt r u n ps vs w cp rv l) (hk : KpR r r' w (min cp l) cp row) (hrow : ∀ j, j < w → row j = rv l j) (hff : ffl u n ps vs (l + 1) = none → ffl u n ps vs l = none ∧ l < cp) : RSt r' u n ps vs w cp rv (l + 1) := by
  refine ⟨?_, fun z => ?_⟩
  · by_cases e : min cp l = cp
    · rw [hk.1 e, h.1, show min cp (l + 1) = min cp l by omega]
    · rw [(hk.2 (by omega)).1, show min cp (l + 1) = min cp l + 1 by omega]
  · obtain ⟨z1, z2⟩ := hff z
    obtain ⟨k1, k2, k3⟩ := hk.2 (by omega)
    rw [show min cp l = l by omega] at k2 k3
    refine ⟨by omega, fun k hk2 c hc => ?_⟩
    by_cases e : k = l
    · subst e
      rw [k2 c hc]
      exact hrow c hc
    · have : w * k + w ≤ w * l := by
        have := Nat.mul_le_mul_left w (show k + 1 ≤ l by omega)
        rw [Nat.mul_add, Nat.mul_one] at this
        exact this
      rw [k3 _ (by omega) (Or.inl (by omega))]
      exact (h.2 z1).2 k (by omega) c hc
theorem tmy_r {vs : Nat → Nat} {l cp : Nat} (h3 : ¬ vs l ≤ 3) (hc : cap (vs l) = cp) : tmy vs l = true ↔ min cp l = cp := by
  unfold tmy
  rw [if_neg h3, decide_eq_true_iff, hc]
  omega
/-! months -/
def mrv (u : Nat → Nat) (n : Nat) (ps vs : Nat → Nat) (k c : Nat) : Int32 := if c = 0 then nI (vs k - 4) else if c - 1 < nmb (vs k) then nI (num u n ps vs k (c - 1)) else -nI 1
theorem m123 {r : Rec} {u : Nat → Nat} {n p d c b : Nat} {ff : Option (Nat × Nat)} (h : AtM r u n p) (hF : FS r ff b) (hc : ga r 19 0 = nI c) (hc4 : c ≤ 40) : ∃ r', bX10_monthLine_123 r (nI d) 1 = some (r', 1) ∧ AtM r' u n p ∧ FS r' ff b ∧ Fr r r' ∧ KpR r r' 4 c 40 (upd (ga r 20) 0 (nI d)) := by
  obtain ⟨q, hq⟩ : ∃ q, q = sa r 20 (upd (ga r 20) 0 (nI d)) := ⟨_, rfl⟩
  have q19 : ga q 19 = ga r 19 := by rw [hq, ga_san (by decide)]
  obtain ⟨r', f1, f2, f3, f4, f5⟩ := keepR (r := q) (w := 4) (c := c) (cp := 40) (by rw [q19]; exact hc) hc4 (by decide) (by decide) (by decide)
  refine ⟨r', ?_, h.to ?_ (fun k _ _ => ?_) ?_, hF.to ?_ ?_ (Nat.le_refl _), fun k k1 k2 => ?_, ?_⟩
  · unfold bX10_monthLine_123
    rw [if_neg (by decide), bd_some, show Int32.toNatClampNeg 0 = 0 from rfl, ← hq, show fX10_keepRow q 4 40 = some r' from f1, bd_some]
  · rw [f4 1 (by decide), hq, ga_san (by decide)]
  · rw [f2, hq]; rfl
  · rw [f3, hq]; rfl
  · rw [f2, hq]; rfl
  · rw [f2, hq]; rfl
  · rw [f4 k k1, hq, ga_san k2]
  · have e20 : ga q 20 = upd (ga r 20) 0 (nI d) := by rw [hq, ga_sae]
    refine ⟨fun z => by rw [f5.1 z, q19], fun z => ?_⟩
    have g := f5.2 z
    rw [e20, q19] at g
    exact g
theorem month_nI {r : Rec} {u : Nat → Nat} {n q d c : Nat} {ff : Option (Nat × Nat)} {ok : Nat → Bool} (h : AtM r u n q) (hF : FS r ff (tks u n q)) (hd : d < 6) (hc : ga r 19 0 = nI c) (hc4 : c ≤ 40) (hm : ∀ j, 1 ≤ j → j ≤ 3 → ga r 20 j = -nI 1) (o0 : d ≤ 1 → (ok 0 = true ↔ nval u n q ≤ 9)) (o0' : 2 ≤ d → d ≤ 4 → (ok 0 = true ↔ nval u n q ≤ 7)) (o1 : d ≤ 1 → (ok 1 = true ↔ nval u n (tke u n q) ≤ 7)) (o2 : d = 1 → (ok 2 = true ↔ (nval u n (tke u n (tke u n q)) ≤ 7 ∧ nval u n (tke u n (tke u n q)) ≠ nval u n (tke u n q)))) : NumOut u n (bX10_monthLine_52 r (nI d)) q (nmb (d + 4)) (fun r' => AtM r' u n (pz u n q (nmb (d + 4))) ∧ FS r' (fa ff u n ok q (nmb (d + 4))) (tks u n (pz u n q (nmb (d + 4)))) ∧ Fr r r' ∧ ∃ row, (∀ j, j < 4 → row j = if j = 0 then nI d else if j - 1 < nmb (d + 4) then nI (nval u n (pz u n q (j - 1))) else -nI 1) ∧ KpR r r' 4 c 40 row) (Fr r) := by
  by_cases d5 : d = 5
  · subst d5
    obtain ⟨r', f1, f2, f3, f4, f5⟩ := m123 (d := 5) h hF hc hc4
    refine NumOut.fin (q := q) (r' := r') ?_ ⟨f2, f3, f4, _, fun j hj => ?_, f5⟩
    · unfold bX10_monthLine_52
      rw [if_pos (show (2 : Int32) ≤ nI 5 by decide), if_pos (show (5 : Int32) ≤ nI 5 by decide)]
      exact f1
    · rw [upd_if]
      by_cases j0 : j = 0
      · rw [if_pos j0, if_pos j0]
      · rw [if_neg j0, if_neg j0, if_neg (show ¬ j - 1 < nmb (5 + 4) from Nat.not_lt_zero _)]
        exact hm j (by omega) (by omega)
  by_cases d2 : 2 ≤ d
  · have hn : nmb (d + 4) = 1 := by
      rcases (show d = 2 ∨ d = 3 ∨ d = 4 by omega) with z | z | z <;> (rw [z]; rfl)
    rw [hn]
    have e52 : bX10_monthLine_52 r (nI d) = (fX10_takePiece r 1 (-1)).bind fun z4 => bX10_monthLine_123 z4.1 (nI d) z4.2 := by
      unfold bX10_monthLine_52
      rw [if_pos (show (2 : Int32) ≤ nI d from (nI_leI (a := 2) (by decide) (by omega)).mpr d2), if_neg (show ¬ (5 : Int32) ≤ nI d from fun z => by have := (nI_leI (a := 5) (by decide) (by omega)).mp z; omega)]
    rw [e52]
    by_cases k0 : tkk u n q = 2
    · have hx := nval_b h.2.1 k0
      obtain ⟨r1, g1, t1⟩ := takeP_nI (v2 := -1) (j := 1) (ok := ok 0) h k0 (by decide) hF (by rw [o0' d2 (by omega)]; exact ⟨fun z => ⟨z, nI_m1 (by omega)⟩, fun z => z.1⟩)
      refine NumOut.yes k0 ?_
      obtain ⟨r', f1, f2, f3, f4, f5⟩ := m123 (d := d) (c := c) t1.1 t1.2.1 (by rw [t1.2.2.2.1 19 (by decide)]; exact hc) hc4
      rw [show fX10_takePiece r 1 (-1) = some (r1, 1) from g1, bd_some]
      have h19 : ga r1 19 = ga r 19 := t1.2.2.2.1 19 (by decide)
      refine NumOut.fin (r' := r') f1 ⟨f2, f3, t1.fr.tr f4, upd (ga r1 20) 0 (nI d), fun j hj => ?_, ?_⟩
      · rw [upd_if, t1.2.2.1, upd_if]
        by_cases j0 : j = 0
        · rw [if_pos j0, if_pos j0]
        · rw [if_neg j0, if_neg j0]
          by_cases j1 : j = 1
          · subst j1
            rw [if_pos rfl, if_pos (by decide)]
            rfl
          · rw [if_neg j1, if_neg (by omega)]
            exact hm j (by omega) (by omega)
      · unfold KpR at f5 ⊢
        rw [h19] at f5
        exact f5
    · refine NumOut.no k0 (r' := si r 16 (nI (tks u n q))) ?_ (gi_sie _ _ _) (fun k k1 k2 => rfl)
      rw [takeP_no h k0, bd_some]
      unfold bX10_monthLine_123
      rw [if_pos rfl]
  · have e52 : bX10_monthLine_52 r (nI d) = (fX10_takeSecret r 1 (-1) (-1)).bind fun z6 => if z6.2 = 0 then some ((z6.1, 0)) else (fX10_takePiece z6.1 2 (-1)).bind fun z7 => if z7.2 = 0 then some ((z7.1, 0)) else if nI d = 0 then bX10_monthLine_123 z7.1 (nI d) 1 else (fX10_takePiece z7.1 3 (ga z7.1 20 (Int32.toNatClampNeg 2))).bind fun z8 => if z8.2 = 0 then some ((z8.1, 0)) else bX10_monthLine_123 z8.1 (nI d) 1 := by
      unfold bX10_monthLine_52
      rw [if_neg (show ¬ (2 : Int32) ≤ nI d from fun z => d2 ((nI_leI (a := 2) (by decide) (by omega)).mp z))]
      rfl
    rw [e52]
    have hd1 : d ≤ 1 := by omega
    obtain ⟨m, hm2⟩ : ∃ m, nmb (d + 4) = m + 2 := by
      rcases (show d = 0 ∨ d = 1 by omega) with z | z
      · exact ⟨0, by rw [z]; rfl⟩
      · exact ⟨1, by rw [z]; rfl⟩
    have hmd : (m = 0 ↔ d = 0) ∧ (m = 1 ↔ d = 1) := by
      rcases (show d = 0 ∨ d = 1 by omega) with z | z
      · rw [z] at hm2
        have : nmb (0 + 4) = 2 := rfl
        omega
      · rw [z] at hm2
        have : nmb (1 + 4) = 3 := rfl
        omega
    rw [hm2]
    by_cases k0 : tkk u n q = 2
    · have hx := nval_b h.2.1 k0
      obtain ⟨r1, g1, t1⟩ := takeS_nI (v2 := -1) (v3 := -1) (j := 1) (ok := ok 0) h k0 (by decide) hF (by rw [o0 hd1]; exact ⟨fun z => ⟨z, nI_m1 (by omega), nI_m1 (by omega)⟩, fun z => z.1⟩)
      refine NumOut.yes k0 ?_
      rw [show fX10_takeSecret r 1 (-1) (-1) = some (r1, 1) from g1, bd_some]
      dsimp only
      rw [if_neg (show ¬ (1 : Int32) = 0 by decide)]
      by_cases k1 : tkk u n (tke u n q) = 2
      · have hy := nval_b t1.1.2.1 k1
        obtain ⟨r2, g2, t2⟩ := takeP_nI (v2 := -1) (j := 2) (ok := ok 1) t1.1 k1 (by decide) t1.2.1 (by rw [o1 hd1]; exact ⟨fun z => ⟨z, nI_m1 (by omega)⟩, fun z => z.1⟩)
        refine NumOut.yes k1 ?_
        rw [show fX10_takePiece r1 2 (-1) = some (r2, 1) from g2, bd_some]
        dsimp only
        rw [if_neg (show ¬ (1 : Int32) = 0 by decide)]
        have a2 : ga r2 20 2 = nI (nval u n (tke u n q)) := by rw [t2.2.2.1, upd_if, if_pos rfl]
        have h19 : ga r2 19 = ga r 19 := (t2.2.2.2.1 19 (by decide)).trans (t1.2.2.2.1 19 (by decide))
        by_cases e0 : d = 0
        · have m0 : m = 0 := hmd.1.mpr e0
          subst e0 m0
          rw [if_pos (show nI 0 = 0 from rfl)]
          obtain ⟨r', f1, f2, f3, f4, f5⟩ := m123 (d := 0) (c := c) t2.1 t2.2.1 (by rw [h19]; exact hc) hc4
          refine NumOut.fin (r' := r') f1 ⟨f2, f3, (t1.fr.tr t2.fr).tr f4, upd (ga r2 20) 0 (nI 0), fun j hj => ?_, ?_⟩
          · rw [upd_if, t2.2.2.1, upd_if, t1.2.2.1, upd_if]
            match j, hj with
            | 0, _ => rfl
            | 1, _ => rfl
            | 2, _ => rfl
            | 3, _ => exact hm 3 (by decide) (by decide)
            | j + 4, hj => omega
          · unfold KpR at f5 ⊢
            rw [h19] at f5
            exact f5
        · have e1 : d = 1 := by omega
          have m1 : m = 1 := hmd.2.mpr e1
          subst e1 m1
          rw [if_neg (show ¬ nI 1 = 0 by decide), show Int32.toNatClampNeg 2 = 2 from rfl, a2]
          by_cases k2 : tkk u n (tke u n (tke u n q)) = 2
          · have hz := nval_b t2.1.2.1 k2
            obtain ⟨r3, g3, t3⟩ := takeP_nI (v2 := nI (nval u n (tke u n q))) (j := 3) (ok := ok 2) t2.1 k2 (by decide) t2.2.1 (by rw [o2 rfl, nI_ne (by omega) (by omega)])
            refine NumOut.yes k2 ?_
            rw [show fX10_takePiece r2 3 (nI (nval u n (tke u n q))) = some (r3, 1) from g3, bd_some]
            dsimp only
            rw [if_neg (show ¬ (1 : Int32) = 0 by decide)]
            have h19' : ga r3 19 = ga r 19 := (t3.2.2.2.1 19 (by decide)).trans h19
            obtain ⟨r', f1, f2, f3, f4, f5⟩ := m123 (d := 1) (c := c) t3.1 t3.2.1 (by rw [h19']; exact hc) hc4
            refine NumOut.fin (r' := r') f1 ⟨f2, f3, ((t1.fr.tr t2.fr).tr t3.fr).tr f4, upd (ga r3 20) 0 (nI 1), fun j hj => ?_, ?_⟩
            · rw [upd_if, t3.2.2.1, upd_if, t2.2.2.1, upd_if, t1.2.2.1, upd_if]
              match j, hj with
              | 0, _ => rfl
              | 1, _ => rfl
              | 2, _ => rfl
              | 3, _ => rfl
              | j + 4, hj => omega
            · unfold KpR at f5 ⊢
              rw [h19'] at f5
              exact f5
          · refine NumOut.no k2 (r' := si r2 16 (nI (tks u n (tke u n (tke u n q))))) ?_ (gi_sie _ _ _) (fun k k1 k2 => (t1.fr.tr t2.fr) k k1 k2)
            rw [takeP_no t2.1 k2, bd_some]
            rfl
      · refine NumOut.no k1 (r' := si r1 16 (nI (tks u n (tke u n q)))) ?_ (gi_sie _ _ _) (fun k k1 k2 => t1.fr k k1 k2)
        rw [takeP_no t1.1 k1, bd_some]
        rfl
    · refine NumOut.no k0 (r' := si r 16 (nI (tks u n q))) ?_ (gi_sie _ _ _) (fun k k1 k2 => rfl)
      rw [takeS_no h k0, bd_some]
      rfl
