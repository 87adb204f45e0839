def LineGo (f : Option (Rec × Int32)) (u : Nat → Nat) (n : Nat) (ps vs ks : Nat → Nat) (l : Nat) (S fr : Rec → Prop) : Prop := (vs l ≤ 1 → (∀ k, k < 4 → ¬ MtV u n (tke u n (ps l)) (13 + k)) → ∃ r', f = some (r', 0) ∧ gi r' 16 = nI (tks u n (tke u n (ps l))) ∧ fr r') ∧ ((vs l ≤ 1 → ks l < 4 ∧ MtV u n (tke u n (ps l)) (13 + ks l) ∧ ∀ j, j < ks l → ¬ MtV u n (tke u n (ps l)) (13 + j)) → NumOut u n f (qn u n (ps l) (vs l)) (nmb (vs l)) (fun r' => AtM r' u n (pz u n (qn u n (ps l) (vs l)) (nmb (vs l))) ∧ FS r' (ffl u n ps vs (l + 1)) (tks u n (pz u n (qn u n (ps l) (vs l)) (nmb (vs l)))) ∧ S r' ∧ fr r') fr)
theorem tmy_h {vs : Nat → Nat} {l v cp : Nat} (hv : vs l = v) (h3 : v ≤ 3) (hc : cap v = cp) : tmy vs l = true ↔ min cp (cnt vs v l) = cp := by
  unfold tmy
  rw [hv, if_pos h3, decide_eq_true_iff, hc]
  omega
theorem notm {b : Bool} (h : (!b) = true) : ¬ b = true := fun z => by rw [z] at h; cases h
theorem ffl_s (u : Nat → Nat) (n : Nat) (ps vs : Nat → Nat) (l m : Nat) (hm : nmb (vs l) = m) : ffl u n ps vs (l + 1) = fa (lt1 (ffl u n ps vs l) (!tmy vs l) 3 (tks u n (ps l))) u n (okP (num u n ps vs) vs l) (qn u n (ps l) (vs l)) m := by
  show ffn _ _ _ (nmb (vs l)) = _
  rw [hm]
  rfl
theorem house0 {r : Rec} {u : Nat → Nat} {n : Nat} {ps vs ks : Nat → Nat} {l : Nat} (h : AtM r u n (ps l)) (hF : FS r (ffl u n ps vs l) (tks u n (ps l))) (hH : HSt r u n ps vs ks l) (hm : MtV u n (ps l) (vs l)) (hv : vs l = 0) (hl : l ≤ 120) : LineGo (fX10_houseLine r (wdq u n (ps l)) (nI (tks u n (ps l)))) u n ps vs ks l (fun r' => HSt r' u n ps vs ks (l + 1)) (Fr r) := by
  have red := (hl_red (r := r) (p := nI (tks u n (ps l))) h.1.2.2.1 h.2.1 (by omega) hm).1 hv
  have htm := tmy_h hv (by decide) (show cap 0 = 8 from rfl)
  have hcb := cnt_b vs 0 l
  obtain ⟨r1, r2, f1, f2, A2, F2, a2, g21, g22, -, -⟩ := begin_nI (v1 := 0) (c := min 8 (cnt vs 0 l)) (cp := 8) (tm := tmy vs l) h hF (by rw [hm.1]; decide) (by decide) hH.1.1 (by omega) (by decide) htm
  have e : fX10_houseLine r (wdq u n (ps l)) (nI (tks u n (ps l))) = (kdL r2 0 9 0 3 8 8).bind fun z => gd (isB z.2) (some ((z.1, z.2))) := by rw [red, show fX10_full r 0 8 (nI (tks u n (ps l))) = some r1 from f1, bd_some, f2, bd_some]
  rw [e]
  refine ⟨fun _ hn => ?_, fun hk => ?_⟩
  · rw [kdL_no A2 hn]
    exact ⟨_, rfl, gi_sie _ _ _, fun k _ _ => a2 k⟩
  · obtain ⟨hk1, hk2, hk3⟩ := hk (by omega)
    have hq : qn u n (ps l) (vs l) = tke u n (tke u n (ps l)) := by rw [hv]; rfl
    have hn0 : num u n ps vs l 0 = nval u n (tke u n (tke u n (ps l))) := by unfold num; rw [hq]; rfl
    have hnb : nmb (vs l) = 1 := by rw [hv]; rfl
    have hff := ffl_s u n ps vs l 1 hnb
    rw [hq] at hff
    rw [hnb, hff, hq]
    refine ((kdL_nI (k := ks l) (c := min 8 (cnt vs 0 l)) (ok := okP (num u n ps vs) vs l) A2 F2 hk1 hk2 hk3 (by decide) (by rw [a2]; exact hH.1.1) (by omega) (by decide) (by decide) (by decide) (by decide) (by rw [ok_0 hv, hn0])).isb).mono (fun r' hr => ?_) (fun r' hr => fun k k1 k2 => (hr k k1 k2).trans (a2 k))
    obtain ⟨A, F, R, e21, e22, n1, n2⟩ := hr
    have c1 : cnt vs 0 (l + 1) = cnt vs 0 l + 1 := by rw [cnt_s, if_pos hv]
    have c2 : cnt vs 1 (l + 1) = cnt vs 1 l := by rw [cnt_s, if_neg (by omega), Nat.add_zero]
    have c3 : cnt vs 3 (l + 1) = cnt vs 3 l := by rw [cnt_s, if_neg (by omega), Nat.add_zero]
    refine ⟨A, F, ⟨⟨?_, ?_, ?_⟩, fun hnone => ?_⟩, fun k k1 k2 => (R k k1 k2).trans (a2 k)⟩
    · rw [c1]
      by_cases e8 : min 8 (cnt vs 0 l) = 8
      · rw [n1 e8, a2, hH.1.1, show min 8 (cnt vs 0 l + 1) = min 8 (cnt vs 0 l) by omega]
      · rw [n2 (by omega) 0, if_pos rfl, show min 8 (cnt vs 0 l + 1) = min 8 (cnt vs 0 l) + 1 by omega]
    · rw [c2]
      by_cases e8 : min 8 (cnt vs 0 l) = 8
      · rw [n1 e8, a2]; exact hH.1.2.1
      · rw [n2 (by omega) 1, if_neg (by omega), if_neg (by omega), if_neg (by omega), a2]; exact hH.1.2.1
    · rw [c3]
      by_cases e8 : min 8 (cnt vs 0 l) = 8
      · rw [n1 e8, a2]; exact hH.1.2.2
      · rw [n2 (by omega) 2, if_neg (by omega), if_neg (by omega), if_neg (by omega), a2]; exact hH.1.2.2
    · rw [hff] at hnone
      obtain ⟨h1, o0⟩ := lt1_none hnone
      obtain ⟨h2, tmf⟩ := lt1_none h1
      obtain ⟨b0, b1, b3, p0, p1, p3, M, q21, q22, qa, qb⟩ := hH.2 h2
      have e8 : ¬ min 8 (cnt vs 0 l) = 8 := fun z => notm tmf (htm.mpr z)
      have ce : min 8 (cnt vs 0 l) = hP (hvl u n ps vs ks l) := by omega
      have hh : hvl u n ps vs ks (l + 1) = hadP (hvl u n ps vs ks l) (ks l) (num u n ps vs l 0) := if_pos hv
      have fp : farP u n ps vs (l + 1) = farP u n ps vs l := if_neg (by omega)
      have fs : farS u n ps vs (l + 1) = farS u n ps vs l := by
        show (if vs l = 2 then _ else if vs l = 3 then _ else _) = _
        rw [if_neg (by omega), if_neg (by omega)]
      unfold HC
      rw [hh, c1, c2, c3, fp, fs]
      exact ⟨by omega, b1, b3, by show hP _ + 1 = _; rw [p0], p1, p3, M.adP (by omega) (fun y => by rw [n2 (by omega) y, ce, hn0, a2]), by rw [e21, g21]; exact q21, by rw [e22, g22]; exact q22, qa, qb⟩
theorem house1 {r : Rec} {u : Nat → Nat} {n : Nat} {ps vs ks : Nat → Nat} {l : Nat} (h : AtM r u n (ps l)) (hF : FS r (ffl u n ps vs l) (tks u n (ps l))) (hH : HSt r u n ps vs ks l) (hm : MtV u n (ps l) (vs l)) (hv : vs l = 1) (hl : l ≤ 120) : LineGo (fX10_houseLine r (wdq u n (ps l)) (nI (tks u n (ps l)))) u n ps vs ks l (fun r' => HSt r' u n ps vs ks (l + 1)) (Fr r) := by
  have red := (hl_red (r := r) (p := nI (tks u n (ps l))) h.1.2.2.1 h.2.1 (by omega) hm).2.1 hv
  have htm := tmy_h hv (by decide) (show cap 1 = 10 from rfl)
  have hcb := cnt_b vs 1 l
  obtain ⟨r1, r2, f1, f2, A2, F2, a2, g21, g22, -, -⟩ := begin_nI (v1 := 1) (c := min 10 (cnt vs 1 l)) (cp := 10) (tm := tmy vs l) h hF (by rw [hm.1]; decide) (by decide) hH.1.2.1 (by omega) (by decide) htm
  have e : fX10_houseLine r (wdq u n (ps l)) (nI (tks u n (ps l))) = (kdL r2 1 30 1 27 10 10).bind fun z => gd (isB z.2) (some ((z.1, z.2))) := by rw [red, show fX10_full r 1 10 (nI (tks u n (ps l))) = some r1 from f1, bd_some, f2, bd_some]
  rw [e]
  refine ⟨fun _ hn => ?_, fun hk => ?_⟩
  · rw [kdL_no A2 hn]
    exact ⟨_, rfl, gi_sie _ _ _, fun k _ _ => a2 k⟩
  · obtain ⟨hk1, hk2, hk3⟩ := hk (by omega)
    have hq : qn u n (ps l) (vs l) = tke u n (tke u n (ps l)) := by rw [hv]; rfl
    have hn0 : num u n ps vs l 0 = nval u n (tke u n (tke u n (ps l))) := by unfold num; rw [hq]; rfl
    have hnb : nmb (vs l) = 1 := by rw [hv]; rfl
    have hff := ffl_s u n ps vs l 1 hnb
    rw [hq] at hff
    rw [hnb, hff, hq]
    refine ((kdL_nI (k := ks l) (c := min 10 (cnt vs 1 l)) (ok := okP (num u n ps vs) vs l) A2 F2 hk1 hk2 hk3 (by decide) (by rw [a2]; exact hH.1.2.1) (by omega) (by decide) (by decide) (by decide) (by decide) (by rw [ok_1 hv, hn0])).isb).mono (fun r' hr => ?_) (fun r' hr => fun k k1 k2 => (hr k k1 k2).trans (a2 k))
    obtain ⟨A, F, R, e21, e22, n1, n2⟩ := hr
    have c1 : cnt vs 0 (l + 1) = cnt vs 0 l := by rw [cnt_s, if_neg (by omega), Nat.add_zero]
    have c2 : cnt vs 1 (l + 1) = cnt vs 1 l + 1 := by rw [cnt_s, if_pos hv]
    have c3 : cnt vs 3 (l + 1) = cnt vs 3 l := by rw [cnt_s, if_neg (by omega), Nat.add_zero]
    refine ⟨A, F, ⟨⟨?_, ?_, ?_⟩, fun hnone => ?_⟩, fun k k1 k2 => (R k k1 k2).trans (a2 k)⟩
    · rw [c1]
      by_cases e8 : min 10 (cnt vs 1 l) = 10
      · rw [n1 e8, a2]; exact hH.1.1
      · rw [n2 (by omega) 0, if_neg (by omega), if_neg (by omega), if_neg (by omega), a2]; exact hH.1.1
    · rw [c2]
      by_cases e8 : min 10 (cnt vs 1 l) = 10
      · rw [n1 e8, a2, hH.1.2.1, show min 10 (cnt vs 1 l + 1) = min 10 (cnt vs 1 l) by omega]
      · rw [n2 (by omega) 1, if_pos rfl, show min 10 (cnt vs 1 l + 1) = min 10 (cnt vs 1 l) + 1 by omega]
    · rw [c3]
      by_cases e8 : min 10 (cnt vs 1 l) = 10
      · rw [n1 e8, a2]; exact hH.1.2.2
      · rw [n2 (by omega) 2, if_neg (by omega), if_neg (by omega), if_neg (by omega), a2]; exact hH.1.2.2
    · rw [hff] at hnone
      obtain ⟨h1, o0⟩ := lt1_none hnone
      obtain ⟨h2, tmf⟩ := lt1_none h1
      obtain ⟨b0, b1, b3, p0, p1, p3, M, q21, q22, qa, qb⟩ := hH.2 h2
      have e8 : ¬ min 10 (cnt vs 1 l) = 10 := fun z => notm tmf (htm.mpr z)
      have ce : min 10 (cnt vs 1 l) = hS (hvl u n ps vs ks l) := by omega
      have hh : hvl u n ps vs ks (l + 1) = hadS (hvl u n ps vs ks l) (ks l) (num u n ps vs l 0) := by
        show (if vs l = 0 then _ else if vs l = 1 then _ else _) = _
        rw [if_neg (by omega), if_pos hv]
      have fp : farP u n ps vs (l + 1) = farP u n ps vs l := if_neg (by omega)
      have fs : farS u n ps vs (l + 1) = farS u n ps vs l := by
        show (if vs l = 2 then _ else if vs l = 3 then _ else _) = _
        rw [if_neg (by omega), if_neg (by omega)]
      unfold HC
      rw [hh, c1, c2, c3, fp, fs]
      exact ⟨b0, by omega, b3, p0, by show hS _ + 1 = _; rw [p1], p3, M.adS (by omega) (by omega) (by omega) (fun y => by rw [n2 (by omega) y, ce, hn0, a2]), by rw [e21, g21]; exact q21, by rw [e22, g22]; exact q22, qa, qb⟩
