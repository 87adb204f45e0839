theorem house2 {r : Rec} {u : Nat → Nat} {n : Nat} {ps vs ks : Nat → Nat} {l : Nat} (h : AtM r u n (ps l)) (hF : FS r (ffl u n ps vs l) (tks u n (ps l))) (hH : HSt r u n ps vs ks l) (h24 : gi r 24 = 1) (hm : MtV u n (ps l) (vs l)) (hv : vs l = 2) (hl : l ≤ 120) : LineGo (fX10_houseLine r (wdq u n (ps l)) (nI (tks u n (ps l)))) u n ps vs ks l (fun r' => HSt r' u n ps vs ks (l + 1)) (Fr r) := by
  have red := (hl_red (r := r) (p := nI (tks u n (ps l))) h.1.2.2.1 h.2.1 (by omega) hm).2.2.1 hv
  have htm : tmy vs l = false := by
    have hcb := cnt_b vs 2 l
    unfold tmy
    rw [hv, if_pos (by decide), decide_eq_false_iff_not, show cap 2 = 600 from rfl]
    omega
  have hb := tok_b (u := u) h.2.1
  have hb2 := tok_b (u := u) hb.2.2.1
  obtain ⟨r2, f2, A2, i2, a2⟩ := h.next
  have F2 : FS r2 (ffl u n ps vs l) (tks u n (tke u n (ps l))) := hF.to (i2 17 (by decide) (by decide) (by decide) (by decide)) (i2 18 (by decide) (by decide) (by decide) (by decide)) (by omega)
  have g24 : gi r2 24 = 1 := by rw [i2 24 (by decide) (by decide) (by decide) (by decide)]; exact h24
  have e : fX10_houseLine r (wdq u n (ps l)) (nI (tks u n (ps l))) = (fX10_knowsLine r2).bind fun z => gd (isB z.2) (some ((z.1, z.2))) := by rw [red, f2, bd_some]
  rw [e]
  refine ⟨fun z => by omega, fun _ => ?_⟩
  have hq : qn u n (ps l) (vs l) = tke u n (ps l) := by rw [hv]; rfl
  have hn0 : num u n ps vs l 0 = nval u n (tke u n (ps l)) := by unfold num; rw [hq]; rfl
  have hn1 : num u n ps vs l 1 = nval u n (tke u n (tke u n (ps l))) := by unfold num; rw [hq]; rfl
  have hnb : nmb (vs l) = 2 := by rw [hv]; rfl
  have hff := ffl_s u n ps vs l 2 hnb
  rw [hq, htm, show lt1 (ffl u n ps vs l) (!false) 3 (tks u n (ps l)) = ffl u n ps vs l by cases ffl u n ps vs l <;> rfl] at hff
  rw [hnb, hff, hq]
  obtain ⟨k0, k1⟩ := ok_2 (m := num u n ps vs) hv
  refine ((knows_nI (ok := okP (num u n ps vs) vs l) A2 F2 g24 (by rw [k0, hn0]) (by rw [k1, hn1])).isb).mono (fun r' hr => ?_) (fun r' hr => fun k k1 k2 => (hr k k1 k2).trans (a2 k))
  obtain ⟨A, F, R, e21, e22, n1, n2⟩ := hr
  have c1 : cnt vs 0 (l + 1) = cnt vs 0 l := by rw [cnt_s, if_neg (by omega), Nat.add_zero]
  have c2 : cnt vs 1 (l + 1) = cnt vs 1 l := by rw [cnt_s, if_neg (by omega), Nat.add_zero]
  have c3 : cnt vs 3 (l + 1) = cnt vs 3 l := by rw [cnt_s, if_neg (by omega), Nat.add_zero]
  have low : ∀ y, y < 19 → ga r' 19 y = ga r 19 y := by
    intro y hy
    rcases n1 with z | ⟨x, x1, w, z⟩
    · rw [z, a2]
    · rw [z, upd_if, if_neg (by omega), a2]
  refine ⟨A, F, ⟨⟨by rw [c1, low 0 (by decide)]; exact hH.1.1, by rw [c2, low 1 (by decide)]; exact hH.1.2.1, by rw [c3, low 2 (by decide)]; exact hH.1.2.2⟩, fun hnone => ?_⟩, fun k k1 k2 => (R k k1 k2).trans (a2 k)⟩
  rw [hff] at hnone
  obtain ⟨h1, o1⟩ := lt1_none hnone
  obtain ⟨h2, o0⟩ := lt1_none h1
  obtain ⟨b0, b1, b3, p0, p1, p3, M, q21, q22, qa, qb⟩ := hH.2 h2
  have x7 := k0.mp o0
  have x9 := k1.mp o1
  have hh : hvl u n ps vs ks (l + 1) = hadK (hvl u n ps vs ks l) (num u n ps vs l 0) (num u n ps vs l 1) := by
    show (if vs l = 0 then _ else if vs l = 1 then _ else if vs l = 2 then _ else _) = _
    rw [if_neg (by omega), if_neg (by omega), if_pos hv]
  have fp : farP u n ps vs (l + 1) = max (farP u n ps vs l) (num u n ps vs l 0 + 1) := if_pos hv
  have fs : farS u n ps vs (l + 1) = max (farS u n ps vs l) (num u n ps vs l 1 + 1) := if_pos hv
  unfold HC
  rw [hh, c1, c2, c3, fp, fs]
  refine ⟨b0, b1, b3, p0, p1, p3, M.adK (by omega) (by omega) (fun y => ?_), ?_, ?_, by omega, by omega⟩
  · rw [n2 o0 o1, a2, upd_if, ← hn0, ← hn1]
    have hM := M.2.2.2.2.2.1 (num u n ps vs l 0) (by omega)
    rw [show 0 + 19 + num u n ps vs l 0 = 19 + num u n ps vs l 0 by omega] at hM
    rw [hM, or_nI]
  · rw [e21, i2 21 (by decide) (by decide) (by decide) (by decide), q21, ← hn0, grt_nI (by omega) (by omega)]
  · rw [e22, i2 22 (by decide) (by decide) (by decide) (by decide), q22, ← hn1, grt_nI (by omega) (by omega)]
theorem house3 {r : Rec} {u : Nat → Nat} {n : Nat} {ps vs ks : Nat → Nat} {l : Nat} (h : AtM r u n (ps l)) (hF : FS r (ffl u n ps vs l) (tks u n (ps l))) (hH : HSt r u n ps vs ks l) (hm : MtV u n (ps l) (vs l)) (hv : vs l = 3) (hl : l ≤ 120) : LineGo (fX10_houseLine r (wdq u n (ps l)) (nI (tks u n (ps l)))) u n ps vs ks l (fun r' => HSt r' u n ps vs ks (l + 1)) (Fr r) := by
  have red := (hl_red (r := r) (p := nI (tks u n (ps l))) h.1.2.2.1 h.2.1 (by omega) hm).2.2.2 hv
  have htm := tmy_h hv (by decide) (show cap 3 = 8 from rfl)
  have hcb := cnt_b vs 3 l
  obtain ⟨r1, r2, f1, f2, A2, F2, a2, g21, g22, -, -⟩ := begin_nI (v1 := 2) (c := min 8 (cnt vs 3 l)) (cp := 8) (tm := tmy vs l) h hF (by rw [hm.1]; decide) (by decide) hH.1.2.2 (by omega) (by decide) htm
  have e : fX10_houseLine r (wdq u n (ps l)) (nI (tks u n (ps l))) = lkL r2 := by rw [red, show fX10_full r 2 8 (nI (tks u n (ps l))) = some r1 from f1, bd_some, f2, bd_some]
  rw [e]
  refine ⟨fun z => by omega, fun _ => ?_⟩
  have hq : qn u n (ps l) (vs l) = tke u n (ps l) := by rw [hv]; rfl
  have hn0 : num u n ps vs l 0 = nval u n (tke u n (ps l)) := by unfold num; rw [hq]; rfl
  have hn1 : num u n ps vs l 1 = nval u n (tke u n (tke u n (ps l))) := by unfold num; rw [hq]; rfl
  have hn2 : num u n ps vs l 2 = nval u n (tke u n (tke u n (tke u n (ps l)))) := by unfold num; rw [hq]; rfl
  have hnb : nmb (vs l) = 3 := by rw [hv]; rfl
  have hff := ffl_s u n ps vs l 3 hnb
  rw [hq] at hff
  rw [hnb, hff, hq]
  obtain ⟨k0, k1, k2⟩ := ok_3 (m := num u n ps vs) hv
  refine (link_nI (c := min 8 (cnt vs 3 l)) (ok := okP (num u n ps vs) vs l) A2 F2 (by rw [a2]; exact hH.1.2.2) (by omega) (by rw [k0, hn0]) (by rw [k1, hn0, hn1]) (by rw [k2, hn0, hn1, hn2])).mono (fun r' hr => ?_) (fun r' hr => fun k k1 k2 => (hr k k1 k2).trans (a2 k))
  obtain ⟨A, F, R, e21, e22, n1, n2⟩ := hr
  have c1 : cnt vs 0 (l + 1) = cnt vs 0 l := by rw [cnt_s, if_neg (by omega), Nat.add_zero]
  have c2 : cnt vs 1 (l + 1) = cnt vs 1 l := by rw [cnt_s, if_neg (by omega), Nat.add_zero]
  have c3 : cnt vs 3 (l + 1) = cnt vs 3 l + 1 := by rw [cnt_s, if_pos hv]
  refine ⟨A, F, ⟨⟨?_, ?_, ?_⟩, fun hnone => ?_⟩, fun k k1 k2 => (R k k1 k2).trans (a2 k)⟩
  · rw [c1]
    by_cases e8 : min 8 (cnt vs 3 l) = 8
    · rw [n1 e8, a2]; exact hH.1.1
    · rw [n2 (by omega) 0, if_neg (by omega), if_neg (by omega), if_neg (by omega), if_neg (by omega), a2]; exact hH.1.1
  · rw [c2]
    by_cases e8 : min 8 (cnt vs 3 l) = 8
    · rw [n1 e8, a2]; exact hH.1.2.1
    · rw [n2 (by omega) 1, if_neg (by omega), if_neg (by omega), if_neg (by omega), if_neg (by omega), a2]; exact hH.1.2.1
  · rw [c3]
    by_cases e8 : min 8 (cnt vs 3 l) = 8
    · rw [n1 e8, a2, hH.1.2.2, show min 8 (cnt vs 3 l + 1) = min 8 (cnt vs 3 l) by omega]
    · rw [n2 (by omega) 2, if_pos rfl, show min 8 (cnt vs 3 l + 1) = min 8 (cnt vs 3 l) + 1 by omega]
  · rw [hff] at hnone
    obtain ⟨h1, o2⟩ := lt1_none hnone
    obtain ⟨h1, o1⟩ := lt1_none h1
    obtain ⟨h1, o0⟩ := lt1_none h1
    obtain ⟨h2, tmf⟩ := lt1_none h1
    obtain ⟨b0, b1, b3, p0, p1, p3, M, q21, q22, qa, qb⟩ := hH.2 h2
    have x0 := k0.mp o0
    have x1 := (k1.mp o1).1
    have x2 := (k2.mp o2).1
    have e8 : ¬ min 8 (cnt vs 3 l) = 8 := fun z => notm tmf (htm.mpr z)
    have ce : min 8 (cnt vs 3 l) = hL (hvl u n ps vs ks l) := by omega
    have hh : hvl u n ps vs ks (l + 1) = hadL (hvl u n ps vs ks l) (num u n ps vs l 0) (num u n ps vs l 1) (num u n ps vs l 2) := by
      show (if vs l = 0 then _ else if vs l = 1 then _ else if vs l = 2 then _ else _) = _
      rw [if_neg (by omega), if_neg (by omega), if_neg (by omega)]
    have fp : farP u n ps vs (l + 1) = farP u n ps vs l := if_neg (by omega)
    have fs : farS u n ps vs (l + 1) = max (max (max (farS u n ps vs l) (num u n ps vs l 0 + 1)) (num u n ps vs l 1 + 1)) (num u n ps vs l 2 + 1) := by
      show (if vs l = 2 then _ else if vs l = 3 then _ else _) = _
      rw [if_neg (by omega), if_pos hv]
    unfold HC
    rw [hh, c1, c2, c3, fp, fs]
    refine ⟨b0, b1, by omega, p0, p1, by show hL _ + 1 = _; rw [p3], M.adL (by omega) (by omega) (by omega) (fun y => by rw [n2 (by omega) y, ce, hn0, hn1, hn2, a2]), by rw [e21, g21]; exact q21, ?_, qa, by omega⟩
    rw [e22, g22, q22, ← hn0, ← hn1, ← hn2, grt_nI (by omega) (by omega), grt_nI (by omega) (by omega), grt_nI (by omega) (by omega)]
theorem house_nI {r : Rec} {u : Nat → Nat} {n : Nat} {ps vs ks : Nat → Nat} {l : Nat} (h : AtM r u n (ps l)) (hF : FS r (ffl u n ps vs l) (tks u n (ps l))) (hH : HSt r u n ps vs ks l) (h24 : gi r 24 = 1) (hm : MtV u n (ps l) (vs l)) (hv : vs l < 4) (hl : l ≤ 120) : LineGo (fX10_houseLine r (wdq u n (ps l)) (nI (tks u n (ps l)))) u n ps vs ks l (fun r' => HSt r' u n ps vs ks (l + 1)) (Fr r) := by
  by_cases c0 : vs l = 0
  · exact house0 h hF hH hm c0 hl
  by_cases c1 : vs l = 1
  · exact house1 h hF hH hm c1 hl
  by_cases c2 : vs l = 2
  · exact house2 h hF hH h24 hm c2 hl
  · exact house3 h hF hH hm (by omega) hl
