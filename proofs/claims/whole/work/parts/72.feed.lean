/-- the told's tape and numbers change, nothing else of what is kept -/
theorem Inv.told {g : Gs} {T r : Rec} {n : Nat} (h : Inv g) (hn : n ≤ 600) (h1 : gi T 1 = nI n) (h2 : ga r 2 0 = nI n) (h3 : ∀ i, i < 600 → ga T 0 i = ga r 1 i ∧ isBy (ga T 0 i)) (h4 : gi T 2 = ga r 3 0) (h5 : gi T 3 = ga r 4 0) (h6 : ga T 4 = ga (g 800) 4) (m5 : ga r 5 = ga (g 1001) 5) (m6 : ga r 6 = ga (g 1001) 6) (m7 : ga r 7 = ga (g 1001) 7) (m8 : ga r 8 = ga (g 1001) 8) (m9 : ga r 9 = ga (g 1001) 9) (m48 : ga r 48 = ga (g 1001) 48)
    (o1 : ∀ i, 600 ≤ i → ga r 1 i = ga (g 1001) 1 i) (o2 : ∀ t, 1 ≤ t → ga r 2 t = ga (g 1001) 2 t) (o3 : ∀ t, 1 ≤ t → ga r 3 t = ga (g 1001) 3 t) (o4 : ∀ t, 1 ≤ t → ga r 4 t = ga (g 1001) 4 t) : Inv (ug (ug g 800 T) 1001 r) := by
  have e8 : ∀ o, o ≠ 800 → o ≠ 1001 → (ug (ug g 800 T) 1001 r) o = g o := fun o a b => by rw [ug_ne b, ug_ne a]
  have e0 : (ug (ug g 800 T) 1001 r) 800 = T := by rw [ug_ne (by decide), ug_same]
  have e1 : (ug (ug g 800 T) 1001 r) 1001 = r := ug_same _ _ _
  obtain ⟨i1, i2, i3, i4⟩ := h
  refine ⟨by rw [e8 1 (by decide) (by decide)]; exact i1, ?_, fun k hk => ?_, fun k hk hne => ?_⟩
  · unfold BR at i2 ⊢
    rw [e1, m5, m6, m7, m8, m9, show 800 + 0 = 800 from rfl, e0]
    refine ⟨⟨n, hn, h1, h2⟩, fun i hi => ?_, h4, h5, ?_, fun i hi => ?_, fun i hi => ?_, fun i hi => ?_, fun i hi => ?_⟩
    · rw [show 600 * 0 + i = i by omega]; exact h3 i hi
    · rw [h6]; exact i2.2.2.2.2.1
    · rw [e8 _ (by omega) (by omega)]; exact i2.2.2.2.2.2.1 i hi
    · rw [e8 _ (by omega) (by omega)]; exact i2.2.2.2.2.2.2.1 i hi
    · rw [e8 _ (by omega) (by omega)]; exact i2.2.2.2.2.2.2.2.1 i hi
    · rw [e8 _ (by omega) (by omega)]; exact i2.2.2.2.2.2.2.2.2 i hi
  · rw [e1, e8 901 (by decide) (by decide), m48]; exact i3 k hk
  · rw [e8 901 (by decide) (by decide)] at hne
    have hb := i4 k hk hne
    unfold BR at hb ⊢
    rw [e1, m5, m6, m7, m8, m9, e8 (800 + (k + 1)) (by omega) (by omega), o2 (k + 1) (by omega), o3 (k + 1) (by omega), o4 (k + 1) (by omega)]
    refine ⟨hb.1, fun i hi => ?_, hb.2.2.1, hb.2.2.2.1, hb.2.2.2.2.1, fun i hi => ?_, fun i hi => ?_, fun i hi => ?_, fun i hi => ?_⟩
    · rw [o1 _ (by omega)]; exact hb.2.1 i hi
    · rw [e8 _ (by omega) (by omega)]; exact hb.2.2.2.2.2.1 i hi
    · rw [e8 _ (by omega) (by omega)]; exact hb.2.2.2.2.2.2.1 i hi
    · rw [e8 _ (by omega) (by omega)]; exact hb.2.2.2.2.2.2.2.1 i hi
    · rw [e8 _ (by omega) (by omega)]; exact hb.2.2.2.2.2.2.2.2 i hi
theorem bt_by (v sh : Int32) : isBy (bt v sh) := by
  unfold isBy bt
  rw [pk_vb]
  exact pk_fb _
theorem wr4_out {f : Nat → Int32} {n : Nat} {v : Int32} {i : Nat} (h : i < n ∨ n + 4 ≤ i) : wr4 f n v i = f i := by
  unfold wr4
  rw [upd_if, if_neg (by omega), upd_if, if_neg (by omega), upd_if, if_neg (by omega), upd_if, if_neg (by omega)]
theorem wr4_eq {f f' : Nat → Int32} {n : Nat} {v : Int32} {i : Nat} (h : f i = f' i) : wr4 f n v i = wr4 f' n v i := by
  unfold wr4
  simp only [upd_if, h]
theorem wr4_by {f : Nat → Int32} {n : Nat} {v : Int32} {i : Nat} (h : isBy (f i)) : isBy (wr4 f n v i) := by
  unfold wr4
  simp only [upd_if]
  split
  · exact bt_by _ _
  · split
    · exact bt_by _ _
    · split
      · exact bt_by _ _
      · split
        · exact bt_by _ _
        · exact h
theorem ob_end : Ob_end Inv := by
  intro g a1 hI
  obtain ⟨n, hn, e1, e2⟩ := hI.2.1.1
  have e1 : gi (g 800) 1 = nI n := e1
  have no : ∀ v, fX9_end g a1 = some (g, -1) → fX10_in a1 0 (nI n) = some 0 → v = (-1 : Int32) → ∃ (g1 : Gs) (v : Int32) (r : Rec), fX9_end g a1 = some (g1, v) ∧ fX10_end (g1 1001) a1 = some (r, v) ∧ gr (g1 901) = gr (g 901) ∧ isHm (gr (g1 1) 0) = true ∧ Inv (ug g1 1001 r) := by
    intro v h1 h2 _
    refine ⟨g, -1, si (g 1001) 0 0, h1, ?_, rfl, hI.1, hI.keep (XP.rf hI.1) (MP.si _ _ _)⟩
    unfold fX10_end
    rw [bd_some, show ga (si (g 1001) 0 0) 2 (Int32.toNatClampNeg 0) = nI n from e2, h2]
    rfl
  rcases i32_cases a1 with h | ⟨k, hk, rfl⟩
  · exact no (-1) (by unfold fX9_end; rw [if_pos h]) (in_lt0 h) rfl
  · by_cases hkn : k ≤ n
    · refine ⟨ug g 800 (si (g 800) 1 (nI k)), nI k, sa (si (g 1001) 0 0) 2 (upd (ga (g 1001) 2) 0 (nI k)), ?_, ?_, ?_, ?_, ?_⟩
      · unfold fX9_end
        rw [if_neg (nI_nlt0 hk), e1, if_pos ((nI_leI hk (by omega)).mpr hkn)]
        rfl
      · rw [ug_ne (by decide)]
        unfold fX10_end
        rw [bd_some, show ga (si (g 1001) 0 0) 2 (Int32.toNatClampNeg 0) = nI n from e2, in_nI hk (by omega), if_pos hkn, bd_some, if_neg (by decide)]
        rfl
      · rw [ug_ne (by decide)]
      · rw [ug_ne (by decide)]; exact hI.1
      · refine hI.told (n := k) (by omega) rfl rfl (fun i hi => ?_) hI.2.1.2.2.1 hI.2.1.2.2.2.1 rfl rfl rfl rfl rfl rfl rfl (fun _ _ => rfl) (fun t ht => ?_) (fun _ _ => rfl) (fun _ _ => rfl)
        · have := hI.2.1.2.1 i hi
          rw [show 600 * 0 + i = i by omega] at this
          exact this
        · show upd (ga (g 1001) 2) 0 (nI k) t = _
          rw [upd_if, if_neg (by omega)]
    · exact no (-1) (by unfold fX9_end; rw [if_neg (nI_nlt0 hk), e1, if_neg (fun h => hkn ((nI_leI hk (by omega)).mp h))]) (by rw [in_nI hk (by omega), if_neg hkn]) rfl
theorem ob_feed : Ob_feed Inv := by
  intro g a1 a2 a3 a4 a5 hI
  obtain ⟨n, hn, e1, e2⟩ := hI.2.1.1
  have e1 : gi (g 800) 1 = nI n := e1
  have e2 : ga (g 1001) 2 0 = nI n := e2
  by_cases h : n + 20 ≤ 600
  · obtain ⟨T1, x1, y1, z1, w1⟩ := app_spec (o := 800) a1 e1 (by omega)
    obtain ⟨T2, x2, y2, z2, w2⟩ := app_spec (o := 800) a2 z1 (by omega)
    obtain ⟨T3, x3, y3, z3, w3⟩ := app_spec (o := 800) a3 z2 (by omega)
    obtain ⟨T4, x4, y4, z4, w4⟩ := app_spec (o := 800) a4 z3 (by omega)
    obtain ⟨T5, x5, y5, z5, w5⟩ := app_spec (o := 800) a5 z4 (by omega)
    have f0 : ga (si (g 1001) 0 0) 2 0 = nI n := e2
    obtain ⟨r1, p1, q1, s1, t1⟩ := four_spec a1 f0 (by omega)
    obtain ⟨r2, p2, q2, s2, t2⟩ := four_spec (n := n + 4) a2 (by rw [s1]; rfl) (by omega)
    obtain ⟨r3, p3, q3, s3, t3⟩ := four_spec (n := n + 4 + 4) a3 (by rw [s2]; rfl) (by omega)
    obtain ⟨r4, p4, q4, s4, t4⟩ := four_spec (n := n + 4 + 4 + 4) a4 (by rw [s3]; rfl) (by omega)
    obtain ⟨r5, p5, q5, s5, t5⟩ := four_spec (n := n + 4 + 4 + 4 + 4) a5 (by rw [s4]; rfl) (by omega)
    have w := (((w1.tr w2).tr w3).tr w4).tr w5
    have t : ∀ k, k ≠ 1 → k ≠ 2 → ga r5 k = ga (g 1001) k := fun k h1 h2 => by rw [t5 k h1 h2, t4 k h1 h2, t3 k h1 h2, t2 k h1 h2, t1 k h1 h2]; rfl
    have s : ga r5 2 = upd (ga (g 1001) 2) 0 (nI (n + 20)) := by rw [s5, s4, s3, s2, s1, upd_upd, upd_upd, upd_upd, upd_upd]; rfl
    refine ⟨ug g 800 T5, nI (n + 20), r5, ?_, ?_, ?_, ?_, ?_⟩
    · unfold fX9_feed
      rw [e1, if_pos (show nI n + 20 ≤ 600 from by rw [show (20 : Int32) = nI 20 from rfl, nI_add]; exact (nI_leI (by omega) (by decide)).mpr h)]
      rw [x1, bd_some, bd_some, ug_same, x2, bd_some, bd_some, ug_ug, ug_same, x3, bd_some, bd_some, ug_ug, ug_same, x4, bd_some, bd_some, ug_ug, ug_same, x5, bd_some, bd_some, ug_ug, ug_same, z5]
    · rw [ug_ne (by decide)]
      unfold fX10_feed
      rw [bd_some, show ga (si (g 1001) 0 0) 2 (Int32.toNatClampNeg 0) = nI n from e2, if_pos (show nI n + 20 ≤ 600 from by rw [show (20 : Int32) = nI 20 from rfl, nI_add]; exact (nI_leI (by omega) (by decide)).mpr h)]
      rw [p1, bd_some, p2, bd_some, p3, bd_some, p4, bd_some, p5, bd_some, s]
      rfl
    · rw [ug_ne (by decide)]
    · rw [ug_ne (by decide)]; exact hI.1
    · refine hI.told (n := n + 20) h z5 (by rw [s]; rfl) (fun i hi => ?_) ?_ ?_ (w.1 4 (by decide)) (t 5 (by decide) (by decide)) (t 6 (by decide) (by decide)) (t 7 (by decide) (by decide)) (t 8 (by decide) (by decide)) (t 9 (by decide) (by decide)) (t 48 (by decide) (by decide)) (fun i hi => ?_) (fun k hk => ?_) (fun k _ => by rw [t 3 (by decide) (by decide)]) (fun k _ => by rw [t 4 (by decide) (by decide)])
      · have hb := hI.2.1.2.1 i hi
        rw [show 600 * 0 + i = i by omega] at hb
        rw [y5, y4, y3, y2, y1, q5, q4, q3, q2, q1]
        exact ⟨wr4_eq (wr4_eq (wr4_eq (wr4_eq (wr4_eq hb.1)))), wr4_by (wr4_by (wr4_by (wr4_by (wr4_by hb.2))))⟩
      · rw [w.2.1 2 (by decide), t 3 (by decide) (by decide)]; exact hI.2.1.2.2.1
      · rw [w.2.1 3 (by decide), t 4 (by decide) (by decide)]; exact hI.2.1.2.2.2.1
      · rw [q5, q4, q3, q2, q1, wr4_out (by omega), wr4_out (by omega), wr4_out (by omega), wr4_out (by omega), wr4_out (by omega)]; rfl
      · rw [s, upd_if, if_neg (by omega)]
  · have h1 : ¬ nI n + 20 ≤ 600 := by
      rw [show (20 : Int32) = nI 20 from rfl, nI_add]
      exact fun h2 => h ((nI_leI (b := 600) (by omega) (by decide)).mp h2)
    refine ⟨g, -1, si (g 1001) 0 0, ?_, ?_, rfl, hI.1, hI.keep (XP.rf hI.1) (MP.si _ _ _)⟩
    · unfold fX9_feed
      rw [e1, if_neg h1]
    · unfold fX10_feed
      rw [bd_some, show ga (si (g 1001) 0 0) 2 (Int32.toNatClampNeg 0) = nI n from e2, if_neg h1]
