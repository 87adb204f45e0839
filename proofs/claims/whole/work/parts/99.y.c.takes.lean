def grt (a b : Int32) : Int32 := if a ≤ b then b else a
theorem greater_eq (a b : Int32) : fX10_greater a b = some (grt a b) := by
  unfold fX10_greater grt
  by_cases c : a ≤ b
  · rw [if_pos c, if_pos c]
  · rw [if_neg c, if_neg c]
theorem nI_m1 {x : Nat} (hx : x < 2 ^ 31) : nI x ≠ (-1 : Int32) := fun z => by
  have h : (nI x).toInt = (-1 : Int32).toInt := by rw [z]
  rw [nI_toInt hx, show (-1 : Int32).toInt = -1 by decide] at h
  omega
theorem take_nI {r : Rec} {u : Nat → Nat} {n p j a b : Nat} {ff : Option (Nat × Nat)} {ok : Bool} (h : AtM r u n p) (hk : tkk u n p = 2) (hj : j < 4) (hF : FS r ff (tks u n p)) (ha : a < 2 ^ 31) (hb2 : b < 2 ^ 31) (hok : ok = true ↔ (a ≤ nval u n p ∧ nval u n p ≤ b)) : ∃ r', fX10_take r (nI j) (nI a) (nI b) = some (r', 1) ∧ TkR r r' u n p j ff ok (gi r 21) (gi r 22) := by
  have hx := nval_b h.2.1 hk
  obtain ⟨r', h1, h2⟩ := takeBut_nI (v4 := -1) (v5 := -1) h hk hj hF ha hb2 (by rw [hok]; exact ⟨fun z => ⟨z.1, z.2, nI_m1 (by omega), nI_m1 (by omega)⟩, fun z => ⟨z.1, z.2.1⟩⟩)
  refine ⟨r', ?_, h2⟩
  unfold fX10_take
  rw [h1]
  rfl
theorem take_no {r : Rec} {u : Nat → Nat} {n p : Nat} {j a b : Int32} (h : AtM r u n p) (hk : ¬ tkk u n p = 2) : fX10_take r j a b = some (si r 16 (nI (tks u n p)), 0) := by
  unfold fX10_take
  rw [takeBut_no h hk]
  rfl
theorem takeP_nI {r : Rec} {u : Nat → Nat} {n p j : Nat} {v2 : Int32} {ff : Option (Nat × Nat)} {ok : Bool} (h : AtM r u n p) (hk : tkk u n p = 2) (hj : j < 4) (hF : FS r ff (tks u n p)) (hok : ok = true ↔ (nval u n p ≤ 7 ∧ nI (nval u n p) ≠ v2)) : ∃ r', fX10_takePiece r (nI j) v2 = some (r', 1) ∧ TkR r r' u n p j ff ok (grt (gi r 21) (nI (nval u n p))) (gi r 22) := by
  have hx := nval_b h.2.1 hk
  obtain ⟨q, h1, a, b, c, d, e, f, g, i⟩ := takeBut_nI (v4 := v2) (v5 := -1) (a := 0) (b := 7) h hk hj hF (by decide) (by decide) (by rw [hok]; exact ⟨fun z => ⟨Nat.zero_le _, z.1, z.2, nI_m1 (by omega)⟩, fun z => ⟨z.2.1, z.2.2.1⟩⟩)
  refine ⟨si q 21 (grt (gi r 21) (nI (nval u n p))), ?_, a.to rfl (fun k _ _ => gi_sin (by omega)) rfl, b.to (gi_sin (by decide)) (gi_sin (by decide)) (Nat.le_refl _), c, d, by rw [gi_sin (by decide)]; exact e, by rw [gi_sin (by decide)]; exact f, gi_sie _ _ _, by rw [gi_sin (by decide)]; exact i⟩
  unfold fX10_takePiece
  rw [show (0 : Int32) = nI 0 from rfl, show (7 : Int32) = nI 7 from rfl, h1, bd_some]
  dsimp only
  rw [if_neg (show ¬ (1 : Int32) = nI 0 by decide), inR_nI hj (by decide), gd_true, nI_clamp (show j < 2 ^ 31 by omega), c, upd_if, if_pos rfl, greater_eq, bd_some, bd_some, g]
theorem takeP_no {r : Rec} {u : Nat → Nat} {n p : Nat} {j v2 : Int32} (h : AtM r u n p) (hk : ¬ tkk u n p = 2) : fX10_takePiece r j v2 = some (si r 16 (nI (tks u n p)), 0) := by
  unfold fX10_takePiece
  rw [takeBut_no h hk]
  rfl
theorem takeS_nI {r : Rec} {u : Nat → Nat} {n p j : Nat} {v2 v3 : Int32} {ff : Option (Nat × Nat)} {ok : Bool} (h : AtM r u n p) (hk : tkk u n p = 2) (hj : j < 4) (hF : FS r ff (tks u n p)) (hok : ok = true ↔ (nval u n p ≤ 9 ∧ nI (nval u n p) ≠ v2 ∧ nI (nval u n p) ≠ v3)) : ∃ r', fX10_takeSecret r (nI j) v2 v3 = some (r', 1) ∧ TkR r r' u n p j ff ok (gi r 21) (grt (gi r 22) (nI (nval u n p))) := by
  have hx := nval_b h.2.1 hk
  obtain ⟨q, h1, a, b, c, d, e, f, g, i⟩ := takeBut_nI (v4 := v2) (v5 := v3) (a := 0) (b := 9) h hk hj hF (by decide) (by decide) (by rw [hok]; exact ⟨fun z => ⟨Nat.zero_le _, z.1, z.2⟩, fun z => z.2⟩)
  refine ⟨si q 22 (grt (gi r 22) (nI (nval u n p))), ?_, a.to rfl (fun k _ _ => gi_sin (by omega)) rfl, b.to (gi_sin (by decide)) (gi_sin (by decide)) (Nat.le_refl _), c, d, by rw [gi_sin (by decide)]; exact e, by rw [gi_sin (by decide)]; exact f, by rw [gi_sin (by decide)]; exact g, gi_sie _ _ _⟩
  unfold fX10_takeSecret
  rw [show (0 : Int32) = nI 0 from rfl, show (9 : Int32) = nI 9 from rfl, h1, bd_some]
  dsimp only
  rw [if_neg (show ¬ (1 : Int32) = nI 0 by decide), inR_nI hj (by decide), gd_true, nI_clamp (show j < 2 ^ 31 by omega), c, upd_if, if_pos rfl, greater_eq, bd_some, bd_some, i]
theorem takeS_no {r : Rec} {u : Nat → Nat} {n p : Nat} {j v2 v3 : Int32} (h : AtM r u n p) (hk : ¬ tkk u n p = 2) : fX10_takeSecret r j v2 v3 = some (si r 16 (nI (tks u n p)), 0) := by
  unfold fX10_takeSecret
  rw [takeBut_no h hk]
  rfl
/-! words -/
theorem wq (r : Rec) {u : Nat → Nat} {n p k C : Nat} (h : AtM r u n p) (hk : k < 17) (hk2 : 0 < wln k) (hC : pkw (wch k) 0 (wln k) = C) : (if gi r 13 = 2 then gl r 15 else 0) = wdq u n p ∧ (lg_cmp (wdq u n p) (lN C) = 0 ↔ MtV u n p k) := by
  have hb := (tok_b (u := u) h.2.1).2.2.2.1
  have hr := rk_b _ hb
  refine ⟨?_, word_iff h.1.2.2.1 h.2.1 hk hk2 hC⟩
  rw [h.2.2.2.2.1]
  by_cases c : tkk u n p = 1
  · rw [if_pos (show nI (rk (tkk u n p)) = 2 by rw [c]; rfl), h.2.2.2.2.2.2 c]
  · rw [if_neg (show ¬ nI (rk (tkk u n p)) = 2 from fun z => c ((rk_1 _ hb).mp ((nI_eq (b := 2) (by omega) (by decide)).mp z)))]
    unfold wdq
    rw [if_neg c]
theorem takeKind_nI {r : Rec} {u : Nat → Nat} {n p : Nat} (h : AtM r u n p) : (∀ k, k < 4 → MtV u n p (13 + k) → (∀ j, j < k → ¬ MtV u n p (13 + j)) → ∃ r', fX10_takeKind r 0 = some (r', 1) ∧ AtM r' u n (tke u n p) ∧ (∀ k, k ≠ 10 → k ≠ 12 → k ≠ 13 → k ≠ 14 → gi r' k = gi r k) ∧ ga r' 20 = upd (ga r 20) 0 (nI k) ∧ ∀ k, k ≠ 20 → ga r' k = ga r k) ∧ ((∀ k, k < 4 → ¬ MtV u n p (13 + k)) → fX10_takeKind r 0 = some (si r 16 (nI (tks u n p)), 0)) := by
  have w0 := (wq r h (k := 13) (C := 1819244133) (by decide) (by decide) (by decide +kernel)).2
  have w1 := (wq r h (k := 14) (C := 1684365940) (by decide) (by decide) (by decide +kernel)).2
  have w2 := (wq r h (k := 15) (C := 431197615208) (by decide) (by decide) (by decide +kernel)).2
  have w3 := (wq r h (k := 16) (C := 2003397740) (by decide) (by decide) (by decide +kernel)).2
  have hb := (tok_b (u := u) h.2.1).2.2.2.1
  have hr := rk_b _ hb
  have eN : bX10_takeKind_73 r 0 (-1) = some (si r 16 (nI (tks u n p)), 0) := by
    unfold bX10_takeKind_73
    rw [if_pos rfl, fails_nI h]
    rfl
  have eY : ∀ k, k < 4 → ∃ r', bX10_takeKind_73 r 0 (nI k) = some (r', 1) ∧ AtM r' u n (tke u n p) ∧ (∀ k, k ≠ 10 → k ≠ 12 → k ≠ 13 → k ≠ 14 → gi r' k = gi r k) ∧ ga r' 20 = upd (ga r 20) 0 (nI k) ∧ ∀ k, k ≠ 20 → ga r' k = ga r k := by
    intro k hk
    have hq : AtM (sa r 20 (upd (ga r 20) 0 (nI k))) u n p := h.to (ga_san (by decide)) (fun _ _ _ => rfl) rfl
    obtain ⟨r', f1, f2, f3, f4⟩ := hq.next
    refine ⟨r', ?_, f2, f3, by rw [f4, ga_sae], fun x hx => by rw [f4, ga_san hx]⟩
    unfold bX10_takeKind_73
    rw [if_neg (nI_m1 (by omega)), show (0 : Int32) = nI 0 from rfl, inR_nI (show 0 < 4 by decide) (by decide), gd_true, nI_clamp (by decide), bd_some, f1]
    rfl
  have e0 : tkk u n p = 1 → fX10_takeKind r 0 = if (lg_cmp (wdq u n p) (lN 1819244133)) = 0 then bX10_takeKind_73 r 0 (nI 0) else if (lg_cmp (wdq u n p) (lN 1684365940)) = 0 then bX10_takeKind_73 r 0 (nI 1) else if (lg_cmp (wdq u n p) (lN 431197615208)) = 0 then bX10_takeKind_73 r 0 (nI 2) else if (lg_cmp (wdq u n p) (lN 2003397740)) = 0 then bX10_takeKind_73 r 0 (nI 3) else bX10_takeKind_73 r 0 (-1) := by
    intro c
    unfold fX10_takeKind
    rw [h.2.2.2.2.1, if_pos (show nI (rk (tkk u n p)) = 2 by rw [c]; rfl), h.2.2.2.2.2.2 c]
    rfl
  refine ⟨fun k hk hm hn => ?_, fun hn => ?_⟩
  · rw [e0 hm.1]
    match k, hk, hm, hn with
    | 0, _, hm, _ => rw [if_pos (w0.mpr hm)]; exact eY 0 (by decide)
    | 1, _, hm, hn => rw [if_neg (fun z => hn 0 (by decide) (w0.mp z)), if_pos (w1.mpr hm)]; exact eY 1 (by decide)
    | 2, _, hm, hn => rw [if_neg (fun z => hn 0 (by decide) (w0.mp z)), if_neg (fun z => hn 1 (by decide) (w1.mp z)), if_pos (w2.mpr hm)]; exact eY 2 (by decide)
    | 3, _, hm, hn => rw [if_neg (fun z => hn 0 (by decide) (w0.mp z)), if_neg (fun z => hn 1 (by decide) (w1.mp z)), if_neg (fun z => hn 2 (by decide) (w2.mp z)), if_pos (w3.mpr hm)]; exact eY 3 (by decide)
    | k + 4, hk, _, _ => omega
  · by_cases c : tkk u n p = 1
    · rw [e0 c, if_neg (fun z => hn 0 (by decide) (w0.mp z)), if_neg (fun z => hn 1 (by decide) (w1.mp z)), if_neg (fun z => hn 2 (by decide) (w2.mp z)), if_neg (fun z => hn 3 (by decide) (w3.mp z)), eN]
    · unfold fX10_takeKind
      rw [h.2.2.2.2.1, if_neg (show ¬ nI (rk (tkk u n p)) = 2 from fun z => c ((rk_1 _ hb).mp ((nI_eq (b := 2) (by omega) (by decide)).mp z))), eN]
