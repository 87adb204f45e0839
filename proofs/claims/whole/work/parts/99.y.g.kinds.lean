noncomputable def lkL (r : Rec) : Option (Rec × Int32) := (fX10_takeSecret r 0 (-1) (-1)).bind fun z4 => if z4.2 = 0 then some ((z4.1, 0)) else (fX10_takeSecret z4.1 1 (ga z4.1 20 (Int32.toNatClampNeg 0)) (-1)).bind fun z5 => if z5.2 = 0 then some ((z5.1, 0)) else (fX10_takeSecret z5.1 2 (ga z5.1 20 (Int32.toNatClampNeg 0)) (ga z5.1 20 (Int32.toNatClampNeg 1))).bind fun z6 => if z6.2 = 0 then some ((z6.1, 0)) else (fX10_keep z6.1 2 47 8 3 8).bind fun z7 => some ((z7, 1))
noncomputable def kdL (r : Rec) (lo hi ix b s cp : Nat) : Option (Rec × Int32) := (fX10_takeKind r 0).bind fun z9 => if z9.2 = 0 then some ((z9.1, 0)) else (fX10_take z9.1 1 (nI lo) (nI hi)).bind fun z5 => if z5.2 = 0 then some ((z5.1, 0)) else (fX10_keep z5.1 (nI ix) (nI b) (nI s) (nI 2) (nI cp)).bind fun z1 => some ((z1, 1))
theorem kindLine_0 (r : Rec) : fX10_kindLine r 0 = kdL r 1 30 1 27 10 10 := by
  unfold fX10_kindLine bX10_kindLine_19 bX10_kindLine_30 bX10_kindLine_48 bX10_kindLine_58 bX10_kindLine_69 bX10_kindLine_81 kdL
  rfl
theorem kindLine_1 (r : Rec) : fX10_kindLine r 1 = kdL r 0 9 0 3 8 8 := by
  unfold fX10_kindLine bX10_kindLine_19 bX10_kindLine_30 bX10_kindLine_48 bX10_kindLine_58 bX10_kindLine_69 bX10_kindLine_81 kdL
  rfl
theorem nI_ne {a b : Nat} (ha : a < 2 ^ 31) (hb : b < 2 ^ 31) : nI a ≠ nI b ↔ a ≠ b := not_congr (nI_eq ha hb)
theorem link_nI {r : Rec} {u : Nat → Nat} {n q c : Nat} {ff : Option (Nat × Nat)} {ok : Nat → Bool} (h : AtM r u n q) (hF : FS r ff (tks u n q)) (hc : ga r 19 2 = nI c) (hc8 : c ≤ 8) (o0 : ok 0 = true ↔ nval u n q ≤ 9) (o1 : ok 1 = true ↔ (nval u n (tke u n q) ≤ 9 ∧ nval u n (tke u n q) ≠ nval u n q)) (o2 : ok 2 = true ↔ (nval u n (tke u n (tke u n q)) ≤ 9 ∧ nval u n (tke u n (tke u n q)) ≠ nval u n q ∧ nval u n (tke u n (tke u n q)) ≠ nval u n (tke u n q))) : NumOut u n (lkL r) q 3 (fun r' => AtM r' u n (pz u n q 3) ∧ FS r' (fa ff u n ok q 3) (tks u n (pz u n q 3)) ∧ Fr r r' ∧ gi r' 21 = gi r 21 ∧ gi r' 22 = grt (grt (grt (gi r 22) (nI (nval u n q))) (nI (nval u n (tke u n q)))) (nI (nval u n (tke u n (tke u n q)))) ∧ (c = 8 → ga r' 19 = ga r 19) ∧ (c < 8 → ∀ y, ga r' 19 y = if y = 2 then nI (c + 1) else if y = 47 + 8 * 2 + c then nI (nval u n (tke u n (tke u n q))) else if y = 47 + 8 * 1 + c then nI (nval u n (tke u n q)) else if y = 47 + 8 * 0 + c then nI (nval u n q) else ga r 19 y)) (fun r' => Fr r r') := by
  by_cases k0 : tkk u n q = 2
  · have hx := nval_b h.2.1 k0
    obtain ⟨r1, f1, t1⟩ := takeS_nI (v2 := -1) (v3 := -1) (j := 0) (ok := ok 0) h k0 (by decide) hF (by rw [o0]; exact ⟨fun z => ⟨z, nI_m1 (by omega), nI_m1 (by omega)⟩, fun z => z.1⟩)
    have a1 : ga r1 20 0 = nI (nval u n q) := by rw [t1.2.2.1, upd_if, if_pos rfl]
    refine NumOut.yes k0 ?_
    have e1 : lkL r = (fX10_takeSecret r1 1 (nI (nval u n q)) (-1)).bind fun z5 => if z5.2 = 0 then some ((z5.1, 0)) else (fX10_takeSecret z5.1 2 (ga z5.1 20 (Int32.toNatClampNeg 0)) (ga z5.1 20 (Int32.toNatClampNeg 1))).bind fun z6 => if z6.2 = 0 then some ((z6.1, 0)) else (fX10_keep z6.1 2 47 8 3 8).bind fun z7 => some ((z7, 1)) := by
      unfold lkL
      rw [show fX10_takeSecret r 0 (-1) (-1) = some (r1, 1) from f1, bd_some]
      dsimp only
      rw [if_neg (show ¬ (1 : Int32) = 0 by decide), show Int32.toNatClampNeg 0 = 0 from rfl, a1]
    rw [e1]
    by_cases k1 : tkk u n (tke u n q) = 2
    · refine NumOut.yes k1 ?_
      have hy := nval_b t1.1.2.1 k1
      obtain ⟨r2, f2, t2⟩ := takeS_nI (v2 := nI (nval u n q)) (v3 := -1) (j := 1) (ok := ok 1) t1.1 k1 (by decide) t1.2.1 (by rw [o1, nI_ne (by omega) (by omega)]; exact ⟨fun z => ⟨z.1, z.2, nI_m1 (by omega)⟩, fun z => ⟨z.1, z.2.1⟩⟩)
      have a2 : ga r2 20 0 = nI (nval u n q) ∧ ga r2 20 1 = nI (nval u n (tke u n q)) := by
        rw [t2.2.2.1, upd_if, if_neg (by decide), upd_if, if_pos rfl]
        exact ⟨a1, rfl⟩
      rw [show fX10_takeSecret r1 1 (nI (nval u n q)) (-1) = some (r2, 1) from f2, bd_some]
      dsimp only
      rw [if_neg (show ¬ (1 : Int32) = 0 by decide), show Int32.toNatClampNeg 0 = 0 from rfl, show Int32.toNatClampNeg 1 = 1 from rfl, a2.1, a2.2]
      by_cases k2 : tkk u n (tke u n (tke u n q)) = 2
      · refine NumOut.yes k2 ?_
        have hz := nval_b t2.1.2.1 k2
        obtain ⟨r3, f3, t3⟩ := takeS_nI (v2 := nI (nval u n q)) (v3 := nI (nval u n (tke u n q))) (j := 2) (ok := ok 2) t2.1 k2 (by decide) t2.2.1 (by rw [o2, nI_ne (by omega) (by omega), nI_ne (by omega) (by omega)])
        rw [show fX10_takeSecret r2 2 (nI (nval u n q)) (nI (nval u n (tke u n q))) = some (r3, 1) from f3, bd_some]
        dsimp only
        rw [if_neg (show ¬ (1 : Int32) = 0 by decide)]
        have a3 : ga r3 20 0 = nI (nval u n q) ∧ ga r3 20 1 = nI (nval u n (tke u n q)) ∧ ga r3 20 2 = nI (nval u n (tke u n (tke u n q))) := by
          rw [t3.2.2.1, upd_if, if_neg (by decide), upd_if, if_neg (by decide), upd_if, if_pos rfl]
          exact ⟨a2.1, a2.2, rfl⟩
        have g19 : ga r3 19 = ga r 19 := by rw [t3.2.2.2.1 19 (by decide), t2.2.2.2.1 19 (by decide), t1.2.2.2.1 19 (by decide)]
        have hFr : Fr r r3 := (t1.fr.tr t2.fr).tr t3.fr
        have g21 : gi r3 21 = gi r 21 := by rw [t3.2.2.2.2.2.2.1, t2.2.2.2.2.2.2.1, t1.2.2.2.2.2.2.1]
        have g22 : gi r3 22 = grt (grt (grt (gi r 22) (nI (nval u n q))) (nI (nval u n (tke u n q)))) (nI (nval u n (tke u n (tke u n q)))) := by rw [t3.2.2.2.2.2.2.2, t2.2.2.2.2.2.2.2, t1.2.2.2.2.2.2.2]
        by_cases e : c = 8
        · subst e
          refine NumOut.fin (r' := r3) ?_ ⟨t3.1, t3.2.1, hFr, g21, g22, fun _ => g19, fun z => by omega⟩
          rw [show fX10_keep r3 2 47 8 3 8 = some r3 from keep_no (v1 := 2) (cp := 8) (by decide) (by rw [g19]; exact hc), bd_some]
        · have hk := keep_nI (r := r3) (v1 := 2) (b := 47) (s := 8) (w := 3) (c := c) (cp := 8) (by decide) (by rw [g19]; exact hc) (by omega) (by decide) (by decide) (by decide)
          refine NumOut.fin (r' := sa r3 19 (upd (kpx (ga r3 19) (fun j => 47 + 8 * j + c) (ga r3 20) 3) 2 (nI (c + 1)))) ?_ ⟨t3.1.to (ga_san (by decide)) (fun _ _ _ => rfl) rfl, t3.2.1, fun k k1 k2 => by rw [ga_san k1]; exact hFr k k1 k2, g21, g22, fun z => absurd z e, fun _ y => ?_⟩
          · rw [show fX10_keep r3 2 47 8 3 8 = _ from hk, bd_some]
          · rw [ga_sae, g19]
            show upd (upd (upd (upd (ga r 19) (47 + 8 * 0 + c) (ga r3 20 0)) (47 + 8 * 1 + c) (ga r3 20 1)) (47 + 8 * 2 + c) (ga r3 20 2)) 2 (nI (c + 1)) y = _
            rw [upd_if, upd_if, upd_if, upd_if, a3.1, a3.2.1, a3.2.2]
      · refine NumOut.no k2 (r' := si r2 16 (nI (tks u n (tke u n (tke u n q))))) ?_ (gi_sie _ _ _) (fun k k1 k2 => (t1.fr.tr t2.fr) k k1 k2)
        rw [takeS_no t2.1 k2, bd_some]
        rfl
    · refine NumOut.no k1 (r' := si r1 16 (nI (tks u n (tke u n q)))) ?_ (gi_sie _ _ _) (fun k k1 k2 => t1.fr k k1 k2)
      rw [takeS_no t1.1 k1, bd_some]
      rfl
  · refine NumOut.no k0 (r' := si r 16 (nI (tks u n q))) ?_ (gi_sie _ _ _) (fun k k1 k2 => rfl)
    unfold lkL
    rw [takeS_no h k0, bd_some]
    rfl
theorem kdL_nI {r : Rec} {u : Nat → Nat} {n p k c lo hi ix b s cp : Nat} {ff : Option (Nat × Nat)} {ok : Nat → Bool} (h : AtM r u n p) (hF : FS r ff (tks u n p)) (hk4 : k < 4) (hm : MtV u n p (13 + k)) (hm2 : ∀ j, j < k → ¬ MtV u n p (13 + j)) (hix : ix < b) (hc : ga r 19 ix = nI c) (hcp : c ≤ cp) (hb : b + s * 2 + cp ≤ 161 + s) (hix2 : ix < 161) (hlo : lo < 2 ^ 31) (hhi : hi < 2 ^ 31) (o0 : ok 0 = true ↔ (lo ≤ nval u n (tke u n p) ∧ nval u n (tke u n p) ≤ hi)) : NumOut u n (kdL r lo hi ix b s cp) (tke u n p) 1 (fun r' => AtM r' u n (pz u n (tke u n p) 1) ∧ FS r' (fa ff u n ok (tke u n p) 1) (tks u n (pz u n (tke u n p) 1)) ∧ Fr r r' ∧ gi r' 21 = gi r 21 ∧ gi r' 22 = gi r 22 ∧ (c = cp → ga r' 19 = ga r 19) ∧ (c < cp → ∀ y, ga r' 19 y = if y = ix then nI (c + 1) else if y = b + s * 1 + c then nI (nval u n (tke u n p)) else if y = b + s * 0 + c then nI k else ga r 19 y)) (fun r' => Fr r r') := by
  obtain ⟨r1, f1, A1, i1, a1, b1⟩ := (takeKind_nI h).1 k hk4 hm hm2
  have hbt := tok_b (u := u) h.2.1
  have hbt2 := tok_b (u := u) hbt.2.2.1
  have F1 : FS r1 ff (tks u n (tke u n p)) := hF.to (i1 17 (by decide) (by decide) (by decide) (by decide)) (i1 18 (by decide) (by decide) (by decide) (by decide)) (by omega)
  have R1 : Fr r r1 := fun x _ x2 => b1 x x2
  have e1 : kdL r lo hi ix b s cp = (fX10_take r1 1 (nI lo) (nI hi)).bind fun z5 => if z5.2 = 0 then some ((z5.1, 0)) else (fX10_keep z5.1 (nI ix) (nI b) (nI s) (nI 2) (nI cp)).bind fun z1 => some ((z1, 1)) := by
    unfold kdL
    rw [f1, bd_some]
    rfl
  rw [e1]
  by_cases k0 : tkk u n (tke u n p) = 2
  · obtain ⟨r2, f2, t2⟩ := take_nI (j := 1) (ok := ok 0) A1 k0 (by decide) F1 hlo hhi o0
    refine NumOut.yes k0 ?_
    rw [show fX10_take r1 1 (nI lo) (nI hi) = some (r2, 1) from f2, bd_some]
    dsimp only
    rw [if_neg (show ¬ (1 : Int32) = 0 by decide)]
    have g19 : ga r2 19 = ga r 19 := by rw [t2.2.2.2.1 19 (by decide), b1 19 (by decide)]
    have a2 : ga r2 20 0 = nI k ∧ ga r2 20 1 = nI (nval u n (tke u n p)) := by
      rw [t2.2.2.1, upd_if, if_neg (by decide), upd_if, if_pos rfl, a1, upd_if, if_pos rfl]
      exact ⟨rfl, rfl⟩
    have hFr : Fr r r2 := R1.tr t2.fr
    have g21 : gi r2 21 = gi r 21 := by rw [t2.2.2.2.2.2.2.1, i1 21 (by decide) (by decide) (by decide) (by decide)]
    have g22 : gi r2 22 = gi r 22 := by rw [t2.2.2.2.2.2.2.2, i1 22 (by decide) (by decide) (by decide) (by decide)]
    by_cases e : c = cp
    · subst e
      refine NumOut.fin (r' := r2) ?_ ⟨t2.1, t2.2.1, hFr, g21, g22, fun _ => g19, fun z => by omega⟩
      rw [keep_no hix2 (by rw [g19]; exact hc), bd_some]
    · have hk := keep_nI (r := r2) (v1 := ix) (b := b) (s := s) (w := 2) (c := c) (cp := cp) hix (by rw [g19]; exact hc) (by omega) (by decide) (by decide) hb
      refine NumOut.fin (r' := sa r2 19 (upd (kpx (ga r2 19) (fun j => b + s * j + c) (ga r2 20) 2) ix (nI (c + 1)))) ?_ ⟨t2.1.to (ga_san (by decide)) (fun _ _ _ => rfl) rfl, t2.2.1, fun k k1 k2 => by rw [ga_san k1]; exact hFr k k1 k2, g21, g22, fun z => absurd z e, fun _ y => ?_⟩
      · rw [hk, bd_some]
      · rw [ga_sae, g19]
        show upd (upd (upd (ga r 19) (b + s * 0 + c) (ga r2 20 0)) (b + s * 1 + c) (ga r2 20 1)) ix (nI (c + 1)) y = _
        rw [upd_if, upd_if, upd_if, a2.1, a2.2]
  · refine NumOut.no k0 (r' := si r1 16 (nI (tks u n (tke u n p)))) ?_ (gi_sie _ _ _) (fun k k1 k2 => R1 k k1 k2)
    rw [take_no A1 k0, bd_some]
    rfl
theorem kdL_no {r : Rec} {u : Nat → Nat} {n p lo hi ix b s cp : Nat} (h : AtM r u n p) (hm : ∀ k, k < 4 → ¬ MtV u n p (13 + k)) : kdL r lo hi ix b s cp = some (si r 16 (nI (tks u n p)), 0) := by
  unfold kdL
  rw [(takeKind_nI h).2 hm, bd_some]
  rfl
