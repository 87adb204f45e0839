theorem ffn_none {ff : Option (Nat × Nat)} {ok : Nat → Bool} {pl : Nat → Nat} : ∀ m, ffn ff ok pl m = none → ff = none ∧ ∀ j, j < m → ok j = true
  | 0, h => ⟨h, fun j hj => absurd hj (Nat.not_lt_zero j)⟩
  | m + 1, h => by
    obtain ⟨h1, h2⟩ := lt1_none h
    obtain ⟨h3, h4⟩ := ffn_none m h1
    refine ⟨h3, fun j hj => ?_⟩
    by_cases e : j = m
    · rw [e]; exact h2
    · exact h4 j (by omega)
theorem ffl_none {u : Nat → Nat} {n : Nat} {ps vs : Nat → Nat} {l : Nat} (h : ffl u n ps vs (l + 1) = none) : ffl u n ps vs l = none ∧ ¬ tmy vs l = true ∧ ∀ j, j < nmb (vs l) → okP (num u n ps vs) vs l j = true := by
  obtain ⟨h1, h2⟩ := ffn_none _ (show ffn _ _ _ (nmb (vs l)) = none from h)
  obtain ⟨h3, h4⟩ := lt1_none h1
  exact ⟨h3, notm h4, h2⟩
theorem wR {u : Nat → Nat} {n i : Nat} (hu : ∀ j, u j < 256) (hi : i ≤ n) : (lg_cmp (wdq u n i) 1952803948 = 0 ↔ MtV u n i 4) ∧ (lg_cmp (wdq u n i) 1651471464 = 0 ↔ MtV u n i 5) ∧ (lg_cmp (wdq u n i) 123623862530920 = 0 ↔ MtV u n i 6) ∧ (lg_cmp (wdq u n i) 495874040172 = 0 ↔ MtV u n i 7) ∧ (lg_cmp (wdq u n i) 1650549611 = 0 ↔ MtV u n i 8) ∧ (lg_cmp (wdq u n i) 1752135026 = 0 ↔ MtV u n i 9) ∧ (lg_cmp (wdq u n i) 110403987072370 = 0 ↔ MtV u n i 10) ∧ (lg_cmp (wdq u n i) 495673372261 = 0 ↔ MtV u n i 11) := by
  have w4 := word_iff (k := 4) (C := 1952803948) hu hi (by decide) (by decide) (by decide +kernel)
  have w5 := word_iff (k := 5) (C := 1651471464) hu hi (by decide) (by decide) (by decide +kernel)
  have w6 := word_iff (k := 6) (C := 123623862530920) hu hi (by decide) (by decide) (by decide +kernel)
  have w7 := word_iff (k := 7) (C := 495874040172) hu hi (by decide) (by decide) (by decide +kernel)
  have w8 := word_iff (k := 8) (C := 1650549611) hu hi (by decide) (by decide) (by decide +kernel)
  have w9 := word_iff (k := 9) (C := 1752135026) hu hi (by decide) (by decide) (by decide +kernel)
  have w10 := word_iff (k := 10) (C := 110403987072370) hu hi (by decide) (by decide) (by decide +kernel)
  have w11 := word_iff (k := 11) (C := 495673372261) hu hi (by decide) (by decide) (by decide +kernel)
  exact ⟨w4, w5, w6, w7, w8, w9, w10, w11⟩
theorem deedBy_nI {u : Nat → Nat} {n i v : Nat} (hu : ∀ j, u j < 256) (hi : i ≤ n) (hv : 4 ≤ v) (hv2 : v < 10) (hm : MtV u n i v) : fX10_deedBy (wdq u n i) = some (nI (v - 4)) := by
  obtain ⟨w4, w5, w6, w7, w8, w9, -, -⟩ := wR hu hi
  have f : ∀ k, k < 12 → (MtV u n i k ↔ v = k) := fun k hk => ⟨fun z => MtV_inj (by omega) hk hm z, fun z => z ▸ hm⟩
  rw [f 4 (by decide)] at w4
  rw [f 5 (by decide)] at w5
  rw [f 6 (by decide)] at w6
  rw [f 7 (by decide)] at w7
  rw [f 8 (by decide)] at w8
  rw [f 9 (by decide)] at w9
  unfold fX10_deedBy
  by_cases c4 : v = 4
  · rw [if_pos (w4.mpr c4), c4]; rfl
  rw [if_neg (fun z => c4 (w4.mp z))]
  by_cases c5 : v = 5
  · rw [if_pos (w5.mpr c5), c5]; rfl
  rw [if_neg (fun z => c5 (w5.mp z))]
  by_cases c6 : v = 6
  · rw [if_pos (w6.mpr c6), c6]; rfl
  rw [if_neg (fun z => c6 (w6.mp z))]
  by_cases c7 : v = 7
  · rw [if_pos (w7.mpr c7), c7]; rfl
  rw [if_neg (fun z => c7 (w7.mp z))]
  by_cases c8 : v = 8
  · rw [if_pos (w8.mpr c8), c8]; rfl
  rw [if_neg (fun z => c8 (w8.mp z)), if_pos (w9.mpr (by omega)), show v = 9 by omega]
  rfl
theorem ml_none {r : Rec} {u : Nat → Nat} {n i : Nat} {p : Int32} (h : AtM r u n i) (hm : ∀ v, 4 ≤ v → v < 10 → ¬ MtV u n i v) : fX10_monthLine r (wdq u n i) p = some (si r 16 (nI (tks u n i)), 0) := by
  obtain ⟨w4, w5, w6, w7, w8, w9, -, -⟩ := wR h.1.2.2.1 h.2.1
  have e : fX10_deedBy (wdq u n i) = some (-1) := by
    unfold fX10_deedBy
    rw [if_neg (fun z => hm 4 (by decide) (by decide) (w4.mp z)), if_neg (fun z => hm 5 (by decide) (by decide) (w5.mp z)), if_neg (fun z => hm 6 (by decide) (by decide) (w6.mp z)), if_neg (fun z => hm 7 (by decide) (by decide) (w7.mp z)), if_neg (fun z => hm 8 (by decide) (by decide) (w8.mp z)), if_neg (fun z => hm 9 (by decide) (by decide) (w9.mp z))]
  unfold fX10_monthLine
  rw [e, bd_some, if_pos rfl, fails_nI h]
  rfl
theorem dl_none {r : Rec} {u : Nat → Nat} {n i : Nat} {p : Int32} (h : AtM r u n i) (hm : ¬ MtV u n i 10) : fX10_dinnerLine r (wdq u n i) p = some (si r 16 (nI (tks u n i)), 0) := by
  obtain ⟨-, -, -, -, -, -, w10, -⟩ := wR h.1.2.2.1 h.2.1
  unfold fX10_dinnerLine
  rw [if_neg (fun z => hm (w10.mp z)), fails_nI h]
  rfl
theorem ll_none {r : Rec} {u : Nat → Nat} {n i : Nat} {p : Int32} (h : AtM r u n i) (hm : ¬ MtV u n i 11) : fX10_logLine r (wdq u n i) p = some (si r 16 (nI (tks u n i)), 0) := by
  obtain ⟨-, -, -, -, -, -, -, w11⟩ := wR h.1.2.2.1 h.2.1
  unfold fX10_logLine
  rw [if_neg (fun z => hm (w11.mp z)), fails_nI h]
  rfl
theorem monthLn {r : Rec} {u : Nat → Nat} {n : Nat} {ps vs ks : Nat → Nat} {l : Nat} (h : AtM r u n (ps l)) (hF : FS r (ffl u n ps vs l) (tks u n (ps l))) (hH : RSt r u n ps vs 4 40 (mrv u n ps vs) l) (hm : MtV u n (ps l) (vs l)) (hv : 4 ≤ vs l) (hv2 : vs l < 10) (hl : l ≤ 120) : LineGo (fX10_monthLine r (wdq u n (ps l)) (nI (tks u n (ps l)))) u n ps vs ks l (fun r' => RSt r' u n ps vs 4 40 (mrv u n ps vs) (l + 1)) (Fr r) := by
  have hcap : cap (vs l) = 40 := (show ∀ v, 4 ≤ v → v < 10 → cap v = 40 from fun v a b => by
    rcases (show v = 4 ∨ v = 5 ∨ v = 6 ∨ v = 7 ∨ v = 8 ∨ v = 9 by omega) with z | z | z | z | z | z <;> (rw [z]; rfl)) (vs l) hv hv2
  have htm := tmy_r (show ¬ vs l ≤ 3 by omega) hcap
  obtain ⟨r1, r2, f1, f2, A2, F2, a2, -, -, -, -⟩ := begin_nI (v1 := 0) (c := min 40 l) (cp := 40) (tm := tmy vs l) h hF (by rw [hm.1]; decide) (by decide) hH.1 (by omega) (by decide) htm
  obtain ⟨r3, hr3⟩ : ∃ r3, r3 = sa r2 20 (kpx (ga r2 20) (fun j => 1 + j) (fun _ => -nI 1) 3) := ⟨_, rfl⟩
  have e : fX10_monthLine r (wdq u n (ps l)) (nI (tks u n (ps l))) = bX10_monthLine_52 r3 (nI (vs l - 4)) := by
    unfold fX10_monthLine
    rw [deedBy_nI h.1.2.2.1 h.2.1 hv hv2 hm, bd_some, if_neg (nI_m1 (by omega)), show fX10_full r 0 40 (nI (tks u n (ps l))) = some r1 from f1, bd_some, f2, bd_some]
    have h0 : ((1 : Int32), r2) = (fun j => (nI (1 + j), sa r2 20 (kpx (ga r2 20) (fun j => 1 + j) (fun _ => -nI 1) j))) 0 := by
      show _ = (nI 1, sa r2 20 (ga r2 20))
      rw [sa_self]
      rfl
    rw [h0]
    refine loopO (step := fun st : Int32 × Rec => bX10_monthLine_32 st.2 (nI (vs l - 4)) st.1) (fun j => (nI (1 + j), sa r2 20 (kpx (ga r2 20) (fun j => 1 + j) (fun _ => -nI 1) j))) 3 (fun j hj => ?_) ?_
    · show bX10_monthLine_32 _ (nI (vs l - 4)) (nI (1 + j)) = some (.inl (nI (1 + (j + 1)), sa r2 20 (upd (kpx (ga r2 20) (fun j => 1 + j) (fun _ => -nI 1) j) (1 + j) (-nI 1))))
      unfold bX10_monthLine_32
      rw [if_neg (show ¬ (4 : Int32) ≤ nI (1 + j) from fun z => by have := (nI_leI (a := 4) (by decide) (by omega)).mp z; omega), inR_nI (show 1 + j < 4 by omega) (by decide), gd_true, bd_some, nI_clamp (by omega), nI_1, ga_sae, sa_sa2]
      rfl
    · show bX10_monthLine_32 _ (nI (vs l - 4)) (nI (1 + 3)) = _
      unfold bX10_monthLine_32
      rw [if_pos (show (4 : Int32) ≤ nI (1 + 3) by decide), hr3]
  rw [e]
  refine ⟨fun z => by omega, fun _ => ?_⟩
  have hq : qn u n (ps l) (vs l) = tke u n (ps l) := by
    unfold qn off
    rw [if_neg (by omega)]
    rfl
  have hnum : ∀ j, num u n ps vs l j = nval u n (pz u n (tke u n (ps l)) j) := fun j => by unfold num; rw [hq]
  have hff := ffl_s u n ps vs l (nmb (vs l)) rfl
  rw [hq] at hff
  rw [hff, hq]
  have A3 : AtM r3 u n (tke u n (ps l)) := A2.to (by rw [hr3, ga_san (by decide)]) (fun _ _ _ => by rw [hr3]; rfl) (by rw [hr3]; rfl)
  have F3 : FS r3 (lt1 (ffl u n ps vs l) (!tmy vs l) 3 (tks u n (ps l))) (tks u n (tke u n (ps l))) := F2.to (by rw [hr3]; rfl) (by rw [hr3]; rfl) (Nat.le_refl _)
  have h19 : ga r3 19 = ga r 19 := by rw [hr3, ga_san (by decide), a2]
  have hFr3 : Fr r r3 := fun k k1 k2 => by rw [hr3, ga_san k2, a2]
  have hm20 : ∀ j, 1 ≤ j → j ≤ 3 → ga r3 20 j = -nI 1 := by
    intro j j1 j2
    rw [hr3, ga_sae]
    match j, j1, j2 with
    | 1, _, _ => rfl
    | 2, _, _ => rfl
    | 3, _, _ => rfl
    | 0, j1, _ => omega
    | j + 4, _, j2 => omega
  have key := month_nI (d := vs l - 4) (c := min 40 l) (ok := okP (num u n ps vs) vs l) A3 F3 (by omega) (by rw [h19]; exact hH.1) (by omega) hm20
    (fun hd => by
      rcases (show vs l = 4 ∨ vs l = 5 by omega) with z | z
      · rw [(ok_4 z).1, hnum]; rfl
      · rw [(ok_5 z).1, hnum]; rfl)
    (fun hd hd2 => by rw [ok_678 (by omega), hnum]; rfl)
    (fun hd => by
      rcases (show vs l = 4 ∨ vs l = 5 by omega) with z | z
      · rw [(ok_4 z).2, hnum]; rfl
      · rw [(ok_5 z).2.1, hnum]; rfl)
    (fun hd => by rw [(ok_5 (show vs l = 5 by omega)).2.2, hnum, hnum]; rfl)
  rw [show vs l - 4 + 4 = vs l by omega] at key
  refine key.mono (fun r' hr => ?_) (fun r' hr => hFr3.tr hr)
  obtain ⟨A, F, R, row, hrow, hK⟩ := hr
  refine ⟨A, F, ?_, hFr3.tr R⟩
  have hK' : KpR r r' 4 (min 40 l) 40 row := by
    unfold KpR at hK ⊢
    rw [h19] at hK
    exact hK
  refine hH.step hK' (fun j hj => ?_) (fun z => ?_)
  · rw [hrow j hj]
    unfold mrv
    rw [hnum]
  · obtain ⟨z1, z2, z3⟩ := ffl_none z
    exact ⟨z1, by have : ¬ min 40 l = 40 := fun y => z2 (htm.mpr y); omega⟩
