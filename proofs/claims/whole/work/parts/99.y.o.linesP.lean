theorem lines_step {so : Nat} {r : Rec} {u : Nat → Nat} {n : Nat} {ps vs ks : Nat → Nat} {l : Nat} (hso : so < 4) (h : AtM r u n (ps l)) (hF : FS r (ffl u n ps vs l) (tks u n (ps l))) (hS : Sst so r u n ps vs ks l) (hl : l ≤ 120) (hL : LnS u n so (ps l) (vs l) (ks l)) : ∃ r', bX10_lines_2 r (nI so) 1 = some (.inl (1, r')) ∧ AtM r' u n (pz u n (qn u n (ps l) (vs l)) (nmb (vs l) + 1)) ∧ FS r' (ffl u n ps vs (l + 1)) (tks u n (pz u n (qn u n (ps l) (vs l)) (nmb (vs l) + 1))) ∧ Sst so r' u n ps vs ks (l + 1) ∧ Fr r r' := by
  obtain ⟨⟨v1, v2, v3, v4⟩, hn, h3⟩ := hL
  have A9 : AtM (si r 24 1) u n (ps l) := h.to rfl (fun k _ _ => gi_sin (by omega)) rfl
  have F9 : FS (si r 24 1) (ffl u n ps vs l) (tks u n (ps l)) := hF.to (gi_sin (by decide)) (gi_sin (by decide)) (Nat.le_refl _)
  have S9 : Sst so (si r 24 1) u n ps vs ks l := hS.to rfl (fun k _ _ => gi_sin (by omega))
  have G := lineOf_go hso A9 F9 S9 (gi_sie _ _ _) v3 v1 v2 hl
  obtain ⟨r1, f1, A1, F1, S1, R1⟩ := (G.2 v4).1 hn
  obtain ⟨r2, g1, g2, g3, g4⟩ := A1.next
  have hb := tok_b (u := u) A1.2.1
  have hb2 := tok_b (u := u) hb.2.2.1
  refine ⟨r2, ?_, g2, F1.to (g3 17 (by decide) (by decide) (by decide) (by decide)) (g3 18 (by decide) (by decide) (by decide) (by decide)) ?_, S1.to (g4 19) (fun k k1 k2 => g3 k (by omega) (by omega) (by omega) (by omega)), fun k k1 k2 => (g4 k).trans (R1 k k1 k2)⟩
  · rw [lines2 h (by rw [v3.1]; decide)]
    unfold bX10_lines_41
    rw [f1, bd_some]
    dsimp only
    rw [if_neg (show ¬ (1 : Int32) = 0 by decide), if_pos (show gi r1 13 = 4 by rw [A1.2.2.2.2.1, h3]; rfl)]
    unfold bX10_lines_63 bX10_lines_71
    rw [if_neg (show ¬ (1 : Int32) = 0 by decide), g1, bd_some]
  · show _ ≤ tks u n (tke u n (pz u n (qn u n (ps l) (vs l)) (nmb (vs l))))
    omega
theorem lines_bad {so : Nat} {r : Rec} {u : Nat → Nat} {n : Nat} {ps vs ks : Nat → Nat} {l F : Nat} (hso : so < 4) (h : AtM r u n (ps l)) (hF : FS r (ffl u n ps vs l) (tks u n (ps l))) (hS : Sst so r u n ps vs ks l) (hl : l ≤ 120) (hk : ¬ tkk u n (ps l) = 0) (hL : LnFv u n so ps vs ks l F) : ∃ r', iter (fun st : Int32 × Rec => bX10_lines_2 st.2 (nI so) st.1) (1, r) = some (r', 0) ∧ gi r' 16 = nI F ∧ Fr r r' := by
  have A9 : AtM (si r 24 1) u n (ps l) := h.to rfl (fun k _ _ => gi_sin (by omega)) rfl
  have F9 : FS (si r 24 1) (ffl u n ps vs l) (tks u n (ps l)) := hF.to (gi_sin (by decide)) (gi_sin (by decide)) (Nat.le_refl _)
  have S9 : Sst so (si r 24 1) u n ps vs ks l := hS.to rfl (fun k _ _ => gi_sin (by omega))
  have step : ∃ r', bX10_lines_2 r (nI so) 1 = some (.inl (0, r')) ∧ gi r' 16 = nI F ∧ Fr r r' := by
    rw [lines2 h hk]
    have sub : (∃ r', fX10_lineOf (si r 24 1) (nI so) (wdq u n (ps l)) (nI (tks u n (ps l))) = some (r', 0) ∧ gi r' 16 = nI F ∧ Fr r r') → ∃ r', bX10_lines_41 (si r 24 1) (nI so) (nI (tks u n (ps l))) (wdq u n (ps l)) (nI so) = some (.inl (0, r')) ∧ gi r' 16 = nI F ∧ Fr r r' := by
      rintro ⟨r', f1, f2, f3⟩
      refine ⟨r', ?_, f2, f3⟩
      unfold bX10_lines_41
      rw [f1, bd_some]
      dsimp only
      rw [if_pos rfl]
      unfold bX10_lines_63 bX10_lines_71
      rw [if_pos rfl]
    rcases hL with ⟨h1, h2⟩ | ⟨h1, h2, h3, h4, h5, h6⟩ | ⟨j, h1, h2, h3, h4, h5⟩ | ⟨h1, h2, h3, h4⟩
    · refine sub ⟨_, lineOf_none hso A9 h1, by rw [gi_sie, h2], fun _ _ _ => rfl⟩
    · obtain ⟨r', f1, f2, f3⟩ := (lineOf_go hso A9 F9 S9 (gi_sie _ _ _) h3 h1 h2 hl).1 h4 h5
      exact sub ⟨r', f1, by rw [f2, h6], fun k k1 k2 => f3 k k1 k2⟩
    · obtain ⟨r', f1, f2, f3⟩ := ((lineOf_go hso A9 F9 S9 (gi_sie _ _ _) h1.2.2.1 h1.1 h1.2.1 hl).2 h1.2.2.2).2 j h2 h3 h4
      exact sub ⟨r', f1, by rw [f2, h5], fun k k1 k2 => f3 k k1 k2⟩
    · obtain ⟨r1, f1, A1, F1, S1, R1⟩ := ((lineOf_go hso A9 F9 S9 (gi_sie _ _ _) h1.2.2.1 h1.1 h1.2.1 hl).2 h1.2.2.2).1 h2
      have hb := (tok_b (u := u) A1.2.1).2.2.2.1
      have hr := rk_b _ hb
      refine ⟨si r1 16 (nI F), ?_, gi_sie _ _ _, fun k k1 k2 => R1 k k1 k2⟩
      unfold bX10_lines_41
      rw [f1, bd_some]
      dsimp only
      rw [if_neg (show ¬ (1 : Int32) = 0 by decide), if_neg (show ¬ gi r1 13 = 4 from fun z => h3 (by rw [A1.2.2.2.2.1] at z; exact (rk_3 _ hb).mp ((nI_eq (b := 4) (by omega) (by decide)).mp z))), fails_nI A1, bd_some, ← h4]
      unfold bX10_lines_63 bX10_lines_71
      rw [if_pos rfl]
  obtain ⟨r', f1, f2, f3⟩ := step
  refine ⟨r', ?_, f2, f3⟩
  rw [iter_step (step := fun st : Int32 × Rec => bX10_lines_2 st.2 (nI so) st.1) (s := (1, r)) (s' := (0, r')) f1]
  refine iter_end (step := fun st : Int32 × Rec => bX10_lines_2 st.2 (nI so) st.1) (s := (0, r')) ?_
  show bX10_lines_2 r' (nI so) 0 = _
  unfold bX10_lines_2
  rw [if_pos rfl]
  rfl
theorem lines_end {so : Nat} {r : Rec} {u : Nat → Nat} {n i : Nat} (h : AtM r u n i) (hk : tkk u n i = 0) : iter (fun st : Int32 × Rec => bX10_lines_2 st.2 (nI so) st.1) (1, r) = some (r, 1) := by
  refine iter_end (step := fun st : Int32 × Rec => bX10_lines_2 st.2 (nI so) st.1) (s := (1, r)) ?_
  show bX10_lines_2 r (nI so) 1 = _
  unfold bX10_lines_2
  rw [if_neg (show ¬ (1 : Int32) = 0 by decide), if_pos (show gi r 13 = 0 by rw [h.2.2.2.2.1, hk]; rfl)]
  rfl
theorem lines_run {so : Nat} {r : Rec} {u : Nat → Nat} {n : Nat} {ps vs ks : Nat → Nat} {L : Nat} (hso : so < 4) (hP : Ptx u n so ps vs ks L) (hL : L ≤ 120) (h : AtM r u n 0) (hF : FS r none 0) (hS : Sst so r u n ps vs ks 0) : ∃ r', iter (fun st : Int32 × Rec => bX10_lines_2 st.2 (nI so) st.1) (1, r) = iter (fun st : Int32 × Rec => bX10_lines_2 st.2 (nI so) st.1) (1, r') ∧ AtM r' u n (ps L) ∧ FS r' (ffl u n ps vs L) (tks u n (ps L)) ∧ Sst so r' u n ps vs ks L ∧ Fr r r' := by
  have key : ∀ l, l ≤ L → ∃ r', iter (fun st : Int32 × Rec => bX10_lines_2 st.2 (nI so) st.1) (1, r) = iter (fun st : Int32 × Rec => bX10_lines_2 st.2 (nI so) st.1) (1, r') ∧ AtM r' u n (ps l) ∧ FS r' (ffl u n ps vs l) (tks u n (ps l)) ∧ Sst so r' u n ps vs ks l ∧ Fr r r' := by
    intro l
    induction l with
    | zero => exact fun _ => ⟨r, rfl, by rw [hP.1]; exact h, hF.to rfl rfl (Nat.zero_le _), hS, Fr.rf r⟩
    | succ l ih =>
      intro hl
      obtain ⟨r1, e1, A1, F1, S1, R1⟩ := ih (by omega)
      obtain ⟨hs1, hs2⟩ := hP.2 l (by omega)
      obtain ⟨r2, e2, A2, F2, S2, R2⟩ := lines_step hso A1 F1 S1 (by omega) hs1
      refine ⟨r2, ?_, by rw [hs2]; exact A2, by rw [hs2]; exact F2, S2, R1.tr R2⟩
      rw [e1, iter_step (step := fun st : Int32 × Rec => bX10_lines_2 st.2 (nI so) st.1) (s := (1, r1)) (s' := (1, r2)) e2]
  exact key L (Nat.le_refl L)
