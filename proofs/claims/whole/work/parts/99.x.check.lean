def Tal (c : Rec) (vs : Nat → Nat) (l : Nat) : Prop := ∀ x, x < 4 → ga c 11 x = nI (cnt vs x l)
theorem tooMany_nI {c : Rec} {u : Nat → Nat} {n so : Nat} {ps vs ks : Nat → Nat} {L l : Nat} (hP : Ptx u n so ps vs ks L) (hso : so < 4) (h : LnsX c u n ps vs ks L) (hL : L ≤ 120) (hl : l < L) (hT : Tal c vs l) : ∃ c', fX4_isTooMany c (nI l) = some (c', if tmy vs l = true then nI 1 else nI 0) ∧ Tal c' vs (l + 1) ∧ (∀ k, k ≠ 11 → ga c' k = ga c k) ∧ ∀ k, gi c' k = gi c k := by
  obtain ⟨v1, v2, v3⟩ := hP.v hso hl
  have h6 := (h l hl).1
  have hc := cap_d (vs l) v3
  have hcb := hc.2
  have hn := cnt_b vs (vs l) l
  by_cases b3 : vs l ≤ 3
  · refine ⟨sa c 11 (upd (ga c 11) (vs l) (nI (cnt vs (vs l) l + 1))), ?_, fun x hx => ?_, fun k hk => ga_san hk, fun k => rfl⟩
    · unfold fX4_isTooMany
      rw [inR_nI (show l < 120 by omega) (by decide), gd_true, bd_some, nI_clamp (show l < 2 ^ 31 by omega), h6, if_pos (show nI (vs l) ≤ 3 from (nI_leI (b := 3) (by omega) (by decide)).mpr b3), inR_nI (show vs l < 4 by omega) (by decide), gd_true, gd_true, bd_some, gd_true, sLn_2, inR_nI (show vs l < 12 by omega) (by decide), gd_true, nI_clamp (show vs l < 2 ^ 31 by omega), hT (vs l) (by omega), nI_1, ga_sae, upd_if, if_pos rfl, hc.1]
      by_cases t : cnt vs (vs l) l + 1 ≤ cap (vs l)
      · rw [if_pos ((nI_leI (by omega) (by omega)).mpr t), if_neg (show ¬ tmy vs l = true by unfold tmy; rw [if_pos b3, decide_eq_true_iff]; omega)]
        rfl
      · rw [if_neg (fun z => t ((nI_leI (by omega) (by omega)).mp z)), if_pos (show tmy vs l = true by unfold tmy; rw [if_pos b3, decide_eq_true_iff]; omega)]
        rfl
    · rw [ga_sae, upd_if]
      by_cases e : x = vs l
      · rw [if_pos e]
        show _ = nI (cnt vs x l + if vs l = x then 1 else 0)
        rw [if_pos e.symm, e]
      · rw [if_neg e, hT x hx]
        show _ = nI (cnt vs x l + if vs l = x then 1 else 0)
        rw [if_neg (fun z => e z.symm), Nat.add_zero]
  · refine ⟨c, ?_, fun x hx => ?_, fun k hk => rfl, fun k => rfl⟩
    · unfold fX4_isTooMany
      rw [inR_nI (show l < 120 by omega) (by decide), gd_true, bd_some, nI_clamp (show l < 2 ^ 31 by omega), h6, if_neg (show ¬ nI (vs l) ≤ 3 from fun z => b3 ((nI_leI (b := 3) (by omega) (by decide)).mp z)), sLn_2, inR_nI (show vs l < 12 by omega) (by decide), gd_true, nI_clamp (show vs l < 2 ^ 31 by omega), hc.1]
      by_cases t : l < cap (vs l)
      · rw [if_pos ((nI_ltI (by omega) (by omega)).mpr t), if_neg (show ¬ tmy vs l = true by unfold tmy; rw [if_neg b3, decide_eq_true_iff]; omega)]
        rfl
      · rw [if_neg (fun z => t ((nI_ltI (by omega) (by omega)).mp z)), if_pos (show tmy vs l = true by unfold tmy; rw [if_neg b3, decide_eq_true_iff]; omega)]
        rfl
    · rw [hT x hx]
      show _ = nI (cnt vs x l + if vs l = x then 1 else 0)
      rw [if_neg (show ¬ vs l = x by omega), Nat.add_zero]
theorem check40 {c : Rec} {u : Nat → Nat} {n so : Nat} {ps vs ks : Nat → Nat} {L l : Nat} {ff : Option (Nat × Nat)} (hP : Ptx u n so ps vs ks L) (hso : so < 4) (h : LnsX c u n ps vs ks L) (hL : L ≤ 120) (hl : l < L) : ∀ d j, j + d = nmb (vs l) → ffn ff (okP (num u n ps vs) vs l) (plc u n ps vs l) j = none → ∃ y, iter (fun st : Int32 => bX4_checkLines_40 c (nI l) st) (nI j) = some y ∧ (ffn ff (okP (num u n ps vs) vs l) (plc u n ps vs l) (nmb (vs l)) = none → y = .inl (nI (l + 1), c)) ∧ ∀ f p, ffn ff (okP (num u n ps vs) vs l) (plc u n ps vs l) (nmb (vs l)) = some (f, p) → y = .inr (si (si c 12 (nI f)) 13 (nI p)) := by
  obtain ⟨v1, v2, v3⟩ := hP.v hso hl
  have h6 := (h l hl).1
  have hm := nmb_b (vs l) v3
  have hd := nmb_d (vs l) v3
  have e40 : ∀ j, bX4_checkLines_40 c (nI l) (nI j) = if nI (nmb (vs l)) ≤ nI j then some (.inr (.inl (nI (l + 1), c))) else (fX4_mayBe c (nI l) (nI j)).bind fun z9 => if z9 = 0 then out1 (out1 (bX4_checkLines_63 c (nI l) (nI j))) else some (.inl (nI j + 1)) := by
    intro j
    unfold bX4_checkLines_40 bX4_checkLines_85
    rw [inR_nI (show l < 120 by omega) (by decide), gd_true, bd_some, nI_clamp (show l < 2 ^ 31 by omega), h6, sLn_1, inR_nI v3 (by decide), gd_true, nI_clamp (show vs l < 2 ^ 31 by omega), hd, nI_1]
    rfl
  intro d
  induction d with
  | zero =>
    intro j hj h0
    have hj : j = nmb (vs l) := by omega
    subst hj
    refine ⟨.inl (nI (l + 1), c), ?_, fun _ => rfl, fun f p hf => by rw [h0] at hf; (cases hf)⟩
    refine iter_end (step := fun st : Int32 => bX4_checkLines_40 c (nI l) st) ?_
    show bX4_checkLines_40 c (nI l) (nI (nmb (vs l))) = _
    rw [e40, if_pos ((nI_leI (by omega) (by omega)).mpr (Nat.le_refl _))]
  | succ d ih =>
    intro j hj h0
    have hmb := mayBe_nI hP hso h hL hl (show j < nmb (vs l) by omega)
    by_cases c1 : okP (num u n ps vs) vs l j = true
    · have h1 : ffn ff (okP (num u n ps vs) vs l) (plc u n ps vs l) (j + 1) = none := by
        show lt1 _ (okP (num u n ps vs) vs l j) 2 _ = none
        rw [h0, c1]
        rfl
      rw [iter_step (step := fun st : Int32 => bX4_checkLines_40 c (nI l) st) (s := nI j) (s' := nI (j + 1)) (by
        show bX4_checkLines_40 c (nI l) (nI j) = _
        rw [e40, if_neg (fun z => by have := (nI_leI (by omega) (by omega)).mp z; omega), hmb, bd_some, if_pos c1, if_neg (show ¬ nI 1 = 0 by decide), nI_1])]
      exact ih (j + 1) (by omega) h1
    · have h1 : ffn ff (okP (num u n ps vs) vs l) (plc u n ps vs l) (j + 1) = some (2, plc u n ps vs l j) := by
        show lt1 _ (okP (num u n ps vs) vs l j) 2 _ = _
        rw [h0]
        exact if_neg c1
      have h2 := ffn_keep h1 d
      rw [show j + 1 + d = nmb (vs l) by omega] at h2
      refine ⟨.inr (si (si c 12 (nI 2)) 13 (nI (plc u n ps vs l j))), ?_, fun hf => by rw [h2] at hf; (cases hf), fun f p hf => by rw [h2] at hf; cases hf; rfl⟩
      refine iter_end (step := fun st : Int32 => bX4_checkLines_40 c (nI l) st) ?_
      show bX4_checkLines_40 c (nI l) (nI j) = _
      rw [e40, if_neg (fun z => by have := (nI_leI (by omega) (by omega)).mp z; omega), hmb, bd_some, if_neg c1, if_pos (show nI 0 = 0 from rfl)]
      unfold bX4_checkLines_63 fX4_blame
      rw [show nI l * 3 + nI j = nI (3 * l + j) by rw [show (3 : Int32) = nI 3 from rfl, pk_mul, nI_add, Nat.mul_comm], inR_nI (show 3 * l + j < 360 by omega) (by decide), gd_true, nI_clamp (show 3 * l + j < 2 ^ 31 by omega), (h.n9 hl (show j < 3 by omega) (by omega)).2]
      rfl
theorem LnsX.to {c c' : Rec} {u : Nat → Nat} {n : Nat} {ps vs ks : Nat → Nat} {L : Nat} (h : LnsX c u n ps vs ks L) (h2 : ∀ k, k ≠ 11 → ga c' k = ga c k) : LnsX c' u n ps vs ks L := by
  intro l hl
  rw [h2 6 (by decide), h2 7 (by decide), h2 8 (by decide), h2 9 (by decide), h2 10 (by decide)]
  exact h l hl
theorem checkLines_nI {c : Rec} {u : Nat → Nat} {n so : Nat} {ps vs ks : Nat → Nat} {L : Nat} (hP : Ptx u n so ps vs ks L) (hso : so < 4) (h : LnsX c u n ps vs ks L) (hL : L ≤ 120) (h5 : gi c 5 = nI L) : ∃ c', fX4_checkLines c = some c' ∧ (ffl u n ps vs L = none → gi c' 12 = gi c 12 ∧ gi c' 13 = gi c 13 ∧ Tal c' vs L) ∧ (∀ f p, ffl u n ps vs L = some (f, p) → gi c' 12 = nI f ∧ gi c' 13 = nI p) ∧ (∀ k, k ≠ 11 → ga c' k = ga c k) ∧ ∀ k, k ≠ 12 → k ≠ 13 → gi c' k = gi c k := by
  have key : ∀ d l q, l + d = L → Tal q vs l → (∀ k, k ≠ 11 → ga q k = ga c k) → (∀ k, gi q k = gi c k) → ffl u n ps vs l = none → ∃ c', iter (fun st : Int32 × Rec => bX4_checkLines_10 st.2 st.1) (nI l, q) = some c' ∧ (ffl u n ps vs L = none → gi c' 12 = gi c 12 ∧ gi c' 13 = gi c 13 ∧ Tal c' vs L) ∧ (∀ f p, ffl u n ps vs L = some (f, p) → gi c' 12 = nI f ∧ gi c' 13 = nI p) ∧ (∀ k, k ≠ 11 → ga c' k = ga c k) ∧ ∀ k, k ≠ 12 → k ≠ 13 → gi c' k = gi c k := by
    intro d
    induction d with
    | zero =>
      intro l q hl hT ha hg h0
      have hl : l = L := by omega
      subst hl
      refine ⟨q, ?_, fun _ => ⟨hg 12, hg 13, hT⟩, fun f p hf => by rw [h0] at hf; (cases hf), ha, fun k _ _ => hg k⟩
      refine iter_end (step := fun st : Int32 × Rec => bX4_checkLines_10 st.2 st.1) (s := (nI l, q)) ?_
      show bX4_checkLines_10 q (nI l) = _
      unfold bX4_checkLines_10
      rw [hg 5, h5, if_pos ((nI_leI (by omega) (by omega)).mpr (Nat.le_refl _))]
    | succ d ih =>
      intro l q hl hT ha hg h0
      have hl2 : l < L := by omega
      have hq : LnsX q u n ps vs ks L := h.to ha
      obtain ⟨q', f1, f2, f3, f4⟩ := tooMany_nI hP hso hq hL hl2 hT
      have hq' : LnsX q' u n ps vs ks L := hq.to f3
      have e10 : bX4_checkLines_10 q (nI l) = if tmy vs l = true then out1 (bX4_checkLines_26 q' (nI l)) else iter (fun st : Int32 => bX4_checkLines_40 q' (nI l) st) (nI 0) := by
        unfold bX4_checkLines_10
        rw [hg 5, h5, if_neg (fun z => by have := (nI_leI (by omega) (by omega)).mp z; omega), f1, bd_some]
        dsimp only
        by_cases t : tmy vs l = true
        · rw [if_pos t, if_pos t, if_neg (show ¬ nI 1 = 0 by decide)]
        · rw [if_neg t, if_neg t, if_pos (show nI 0 = 0 from rfl)]
          rfl
      by_cases t : tmy vs l = true
      · have hf : ffl u n ps vs (l + 1) = some (3, tks u n (ps l)) := by
          show ffn (lt1 (ffl u n ps vs l) (!tmy vs l) 3 (tks u n (ps l))) _ _ _ = _
          rw [h0, t]
          exact ffn_some _
        have hf2 := ffl_keep hf d
        rw [show l + 1 + d = L by omega] at hf2
        refine ⟨si (si q' 12 (nI 3)) 13 (nI (tks u n (ps l))), ?_, fun hx => by rw [hf2] at hx; (cases hx), fun f p hx => ?_, fun k hk => ?_, fun k k1 k2 => ?_⟩
        · refine iter_end (step := fun st : Int32 × Rec => bX4_checkLines_10 st.2 st.1) (s := (nI l, q)) ?_
          show bX4_checkLines_10 q (nI l) = _
          rw [e10, if_pos t]
          unfold bX4_checkLines_26 fX4_blame
          rw [inR_nI (show l < 120 by omega) (by decide), gd_true, nI_clamp (show l < 2 ^ 31 by omega), (hq' l hl2).2.2.1]
          rfl
        · rw [hf2] at hx
          cases hx
          rw [gi_sin (by decide), gi_sie, gi_sie]
          exact ⟨rfl, rfl⟩
        · show ga q' k = _
          rw [f3 k hk, ha k hk]
        · rw [gi_sin k2, gi_sin k1, f4 k, hg k]
      · have h0' : ffn (lt1 (ffl u n ps vs l) (!tmy vs l) 3 (tks u n (ps l))) (okP (num u n ps vs) vs l) (plc u n ps vs l) 0 = none := by
          show lt1 (ffl u n ps vs l) (!tmy vs l) 3 (tks u n (ps l)) = none
          rw [h0, show tmy vs l = false from Bool.eq_false_iff.mpr t]
          rfl
        obtain ⟨y, y1, y2, y3⟩ := check40 hP hso hq' hL hl2 (nmb (vs l)) 0 (Nat.zero_add _) h0'
        have hstep : bX4_checkLines_10 q (nI l) = some y := by rw [e10, if_neg t]; exact y1
        cases hff : ffl u n ps vs (l + 1) with
        | none =>
          have := y2 hff
          subst this
          rw [iter_step (step := fun st : Int32 × Rec => bX4_checkLines_10 st.2 st.1) (s := (nI l, q)) (s' := (nI (l + 1), q')) hstep]
          exact ih (l + 1) q' (by omega) f2 (fun k hk => by rw [f3 k hk, ha k hk]) (fun k => by rw [f4 k, hg k]) hff
        | some x =>
          obtain ⟨f, p⟩ := x
          have := y3 f p hff
          subst this
          have hf2 := ffl_keep hff d
          rw [show l + 1 + d = L by omega] at hf2
          refine ⟨si (si q' 12 (nI f)) 13 (nI p), iter_end (step := fun st : Int32 × Rec => bX4_checkLines_10 st.2 st.1) (s := (nI l, q)) hstep, fun hx => by rw [hf2] at hx; (cases hx), fun f' p' hx => ?_, fun k hk => ?_, fun k k1 k2 => ?_⟩
          · rw [hf2] at hx
            cases hx
            rw [gi_sin (by decide), gi_sie, gi_sie]
            exact ⟨rfl, rfl⟩
          · show ga q' k = _
            rw [f3 k hk, ha k hk]
          · rw [gi_sin k2, gi_sin k1, f4 k, hg k]
  unfold fX4_checkLines
  rw [bd_some]
  refine key L 0 _ (by omega) (fun x hx => ?_) (fun k hk => ga_san hk) (fun k => rfl) rfl
  rw [ga_sae]
  show fl 4 0 (ga c 11) x = nI 0
  unfold fl
  rw [if_pos hx]
  rfl
