def RwX (h : Rec) (u : Nat → Nat) (n : Nat) (ps vs : Nat → Nat) (cp l : Nat) : Prop := gi h 0 = nI cp ∧ gi h 2 = nI l ∧ ∀ k, k < l → ga h 1 (4 * k) = nI (vs k) ∧ ∀ c, c < 3 → ga h 1 (4 * k + c + 1) = nmv u n (qn u n (ps k) (vs k)) (vs k) c
theorem add5 {h : Rec} {l cp : Nat} {a b c d : Int32} (h0 : gi h 0 = nI cp) (h2 : gi h 2 = nI l) (hl : l < cp) (hcp : cp ≤ 40) : fX5_add h a b c d = some (si (sa h 1 (upd (upd (upd (upd (ga h 1) (4 * l) a) (4 * l + 1) b) (4 * l + 2) c) (4 * l + 3) d)) 2 (nI (l + 1))) := by
  have i0 : nI l * 4 = nI (4 * l) := by rw [show (4 : Int32) = nI 4 from rfl, pk_mul, Nat.mul_comm]
  have i2 : nI (4 * l) + 2 = nI (4 * l + 2) := by rw [show (2 : Int32) = nI 2 from rfl, nI_add]
  have i3 : nI (4 * l) + 3 = nI (4 * l + 3) := by rw [show (3 : Int32) = nI 3 from rfl, nI_add]
  unfold fX5_add
  rw [h2, h0, if_pos ((nI_ltI (by omega) (by omega)).mpr hl)]
  simp only [i0, i2, i3, nI_1, gi_sa, h0, h2, nI_clamp (show cp < 2 ^ 31 by omega), inR_nI (show 4 * l < 4 * cp by omega) (show 4 * cp < 2 ^ 31 by omega), inR_nI (show 4 * l + 1 < 4 * cp by omega) (show 4 * cp < 2 ^ 31 by omega), inR_nI (show 4 * l + 2 < 4 * cp by omega) (show 4 * cp < 2 ^ 31 by omega), inR_nI (show 4 * l + 3 < 4 * cp by omega) (show 4 * cp < 2 ^ 31 by omega), gd_true, bd_some, nI_clamp (show 4 * l < 2 ^ 31 by omega), nI_clamp (show 4 * l + 1 < 2 ^ 31 by omega), nI_clamp (show 4 * l + 2 < 2 ^ 31 by omega), nI_clamp (show 4 * l + 3 < 2 ^ 31 by omega), ga_sae, sa_sa2]
theorem fillRows_nI {g : Gs} {u : Nat → Nat} {n : Nat} {ps vs ks : Nat → Nat} {L h cp : Nat} (hh : h ≠ 401) (hL2 : L ≤ cp) (hcp : cp ≤ 40) (hX : LnsX (g 401) u n ps vs ks L) (h5 : gi (g 401) 5 = nI L) (h0 : gi (g h) 0 = nI cp) : ∃ z, fX4_fillRows g (some h) = some (ug g h z) ∧ RwX z u n ps vs cp L := by
  have es : fX4_fillRows g (some h) = iter (fun st : Int32 × Gs => bX4_fillRows_12 st.2 h st.1) (nI 0, ug g h (si (g h) 2 (nI 0))) := by
    unfold fX4_fillRows
    rw [oc_s, bd_some]
    rfl
  have step : ∀ l z, l < L → RwX z u n ps vs cp l → ∃ z', bX4_fillRows_12 (ug g h z) h (nI l) = some (.inl (nI (l + 1), ug g h z')) ∧ RwX z' u n ps vs cp (l + 1) := by
    intro l z hl hz
    obtain ⟨w6, -, -, w9⟩ := hX l hl
    have i0 : nI l * 3 = nI (3 * l) := by rw [show (3 : Int32) = nI 3 from rfl, pk_mul, Nat.mul_comm]
    have i2 : nI (3 * l) + 2 = nI (3 * l + 2) := by rw [show (2 : Int32) = nI 2 from rfl, nI_add]
    have ec : (ug g h z) 401 = g 401 := ug_ne (fun y => hh y.symm)
    have a0 := (w9 0 (by decide)).1
    have a1 := (w9 1 (by decide)).1
    have a2 := (w9 2 (by decide)).1
    rw [Nat.add_zero] at a0
    refine ⟨si (sa z 1 (upd (upd (upd (upd (ga z 1) (4 * l) (nI (vs l))) (4 * l + 1) (nmv u n (qn u n (ps l) (vs l)) (vs l) 0)) (4 * l + 2) (nmv u n (qn u n (ps l) (vs l)) (vs l) 1)) (4 * l + 3) (nmv u n (qn u n (ps l) (vs l)) (vs l) 2))) 2 (nI (l + 1)), ?_, ?_⟩
    · unfold bX4_fillRows_12
      rw [ec, h5, if_neg (show ¬ nI L ≤ nI l from fun y => by have := (nI_leI (by omega) (by omega)).mp y; omega)]
      simp only [inR_nI (show l < 120 by omega) (by decide), gd_true, i0, i2, nI_1, inR_nI (show 3 * l < 360 by omega) (by decide), inR_nI (show 3 * l + 1 < 360 by omega) (by decide), inR_nI (show 3 * l + 2 < 360 by omega) (by decide), nI_clamp (show l < 2 ^ 31 by omega), nI_clamp (show 3 * l < 2 ^ 31 by omega), nI_clamp (show 3 * l + 1 < 2 ^ 31 by omega), nI_clamp (show 3 * l + 2 < 2 ^ 31 by omega), w6, a0, a1, a2, ug_same]
      rw [add5 hz.1 hz.2.1 (by omega) hcp, bd_some, bd_some, ug_ug]
    · refine ⟨hz.1, gi_sie _ _ _, fun k hk => ?_⟩
      rw [ga_si, ga_sae]
      by_cases e : k = l
      · subst e
        refine ⟨?_, fun c hc => ?_⟩
        · rw [upd_if, if_neg (by omega), upd_if, if_neg (by omega), upd_if, if_neg (by omega), upd_if, if_pos rfl]
        · match c, hc with
          | 0, _ => rw [upd_if, if_neg (by omega), upd_if, if_neg (by omega), upd_if, if_pos (by omega)]
          | 1, _ => rw [upd_if, if_neg (by omega), upd_if, if_pos (by omega)]
          | 2, _ => rw [upd_if, if_pos (by omega)]
          | c + 3, hc => omega
      · have hq := hz.2.2 k (by omega)
        refine ⟨?_, fun c hc => ?_⟩
        · rw [upd_if, if_neg (by omega), upd_if, if_neg (by omega), upd_if, if_neg (by omega), upd_if, if_neg (by omega)]
          exact hq.1
        · rw [upd_if, if_neg (by omega), upd_if, if_neg (by omega), upd_if, if_neg (by omega), upd_if, if_neg (by omega)]
          exact hq.2 c hc
  have key : ∀ d l z, l + d = L → RwX z u n ps vs cp l → ∃ z', iter (fun st : Int32 × Gs => bX4_fillRows_12 st.2 h st.1) (nI l, ug g h z) = some (ug g h z') ∧ RwX z' u n ps vs cp L := by
    intro d
    induction d with
    | zero =>
      intro l z hl hz
      have hl : l = L := by omega
      subst hl
      refine ⟨z, ?_, hz⟩
      refine iter_end (step := fun st : Int32 × Gs => bX4_fillRows_12 st.2 h st.1) (s := (nI l, ug g h z)) ?_
      show bX4_fillRows_12 (ug g h z) h (nI l) = _
      unfold bX4_fillRows_12
      rw [show (ug g h z) 401 = g 401 from ug_ne (fun y => hh y.symm), h5, if_pos ((nI_leI (by omega) (by omega)).mpr (Nat.le_refl _))]
    | succ d ih =>
      intro l z hl hz
      obtain ⟨z', f1, f2⟩ := step l z (by omega) hz
      rw [iter_step (step := fun st : Int32 × Gs => bX4_fillRows_12 st.2 h st.1) (s := (nI l, ug g h z)) (s' := (nI (l + 1), ug g h z')) f1]
      exact ih (l + 1) z' (by omega) f2
  rw [es]
  exact key L 0 _ (by omega) ⟨h0, gi_sie _ _ _, fun k hk => absurd hk (Nat.not_lt_zero k)⟩
