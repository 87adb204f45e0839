noncomputable def rtR (so : Int32) (z16 : Rec × Int32) : Option (Rec × Int32) := if z16.2 = 0 then bX10_readText_107 z16.1 z16.2 else if so = 0 then if (gi z16.1 17) = 0 then if (ga z16.1 19 (Int32.toNatClampNeg 0)) ≤ (gi z16.1 21) then bX10_readText_98 z16.1 z16.2 else if (gi z16.1 22) < (ga z16.1 19 (Int32.toNatClampNeg 1)) then bX10_readText_107 z16.1 z16.2 else bX10_readText_98 z16.1 z16.2 else bX10_readText_107 z16.1 z16.2 else bX10_readText_107 z16.1 z16.2
theorem rt_start {r : Rec} {u : Nat → Nat} {n so : Nat} (h : MTp r u n) (hso : so < 4) : ∃ z, AtM z u n 0 ∧ FS z none 0 ∧ (∀ ps vs ks, Sst so z u n ps vs ks 0) ∧ Fr r z ∧ fX10_readText r (nI so) = (iter (fun st : Int32 × Rec => bX10_lines_2 st.2 (nI so) st.1) (1, z)).bind (rtR (nI so)) := by
  obtain ⟨rz, hrz⟩ : ∃ rz, rz = sa r 19 (kpx (ga r 19) (fun j => j) (fun _ => 0) 161) := ⟨_, rfl⟩
  have z19 : ∀ x, x < 161 → ga rz 19 x = 0 := fun x hx => by
    rw [hrz, ga_sae]
    exact kpx_at (m := ga r 19) (ix := fun j => j) (g := fun _ => 0) 161 x hx (fun i _ h2 => h2)
  obtain ⟨r14, hr⟩ : ∃ r14, r14 = si (si (si (si (si rz 21 (-1)) 22 (-1)) 23 0) 10 0) 17 0 := ⟨_, rfl⟩
  have m14 : MTp r14 u n := h.to (by rw [hr, gi_sin (by decide), gi_sin (by decide), gi_sin (by decide), gi_sin (by decide), gi_sin (by decide), hrz]; rfl) (by rw [hr]; show ga rz 1 = _; rw [hrz, ga_san (by decide)])
  have g10 : gi r14 10 = nI 0 := by rw [hr, gi_sin (by decide), gi_sie]; rfl
  obtain ⟨z, t1, t2⟩ := tokM m14 g10 (Nat.zero_le n)
  have A := AtM.of m14 (Nat.zero_le n) t2
  have tg := t2.2.2.2.2.2.1
  have ta := t2.2.2.2.2.2.2
  have zg : ∀ k, k = 17 ∨ k = 21 ∨ k = 22 ∨ k = 23 → gi z k = gi r14 k := fun k hk => tg k (by omega) (by omega) (by omega) (by omega)
  have y17 : gi z 17 = 0 := by rw [zg 17 (by omega), hr, gi_sie]
  have y21 : gi z 21 = -1 := by rw [zg 21 (by omega), hr, gi_sin (by decide), gi_sin (by decide), gi_sin (by decide), gi_sin (by decide), gi_sie]
  have y22 : gi z 22 = -1 := by rw [zg 22 (by omega), hr, gi_sin (by decide), gi_sin (by decide), gi_sin (by decide), gi_sie]
  have y23 : gi z 23 = 0 := by rw [zg 23 (by omega), hr, gi_sin (by decide), gi_sin (by decide), gi_sie]
  have y19 : ga z 19 = ga rz 19 := by rw [ta 19, hr]; rfl
  have hRSt : ∀ (ps vs : Nat → Nat) (w cp : Nat) (rv : Nat → Nat → Int32), RSt z u n ps vs w cp rv 0 := fun ps vs w cp rv => ⟨by rw [y19, z19 0 (by decide), Nat.min_zero]; rfl, fun _ => ⟨Nat.zero_le _, fun k hk => absurd hk (Nat.not_lt_zero k)⟩⟩
  refine ⟨z, A, y17, fun ps vs ks => ?_, fun k k1 k2 => by rw [ta k, hr]; show ga rz k = _; rw [hrz, ga_san k1], ?_⟩
  · match so, hso with
    | 0, _ =>
      show HSt z u n ps vs ks 0
      refine ⟨⟨by rw [y19, z19 0 (by decide)]; rfl, by rw [y19, z19 1 (by decide)]; rfl, by rw [y19, z19 2 (by decide)]; rfl⟩, fun _ => ⟨Nat.zero_le _, Nat.zero_le _, Nat.zero_le _, rfl, rfl, rfl, HM.zero (fun x hx => by rw [y19]; exact z19 x hx), by rw [y21]; show (-1 : Int32) = nI 0 - 1; decide, by rw [y22]; show (-1 : Int32) = nI 0 - 1; decide, Nat.zero_le _, Nat.zero_le _⟩⟩
    | 1, _ => exact hRSt _ _ _ _ _
    | 2, _ => exact ⟨hRSt _ _ _ _ _, y23, by show 0 < 100; decide⟩
    | 3, _ => exact hRSt _ _ _ _ _
    | so + 4, hso => omega
  · unfold fX10_readText
    have h0 : ((0 : Int32), r) = (fun j => (nI j, sa r 19 (kpx (ga r 19) (fun j => j) (fun _ => 0) j))) 0 := by
      show _ = (nI 0, sa r 19 (ga r 19))
      rw [sa_self]
      rfl
    rw [h0]
    refine loopO (step := fun st : Int32 × Rec => bX10_readText_2 st.2 (nI so) st.1) (fun j => (nI j, sa r 19 (kpx (ga r 19) (fun j => j) (fun _ => 0) j))) 161 (fun j hj => ?_) ?_
    · show bX10_readText_2 _ (nI so) (nI j) = some (.inl (nI (j + 1), sa r 19 (upd (kpx (ga r 19) (fun j => j) (fun _ => 0) j) j 0)))
      unfold bX10_readText_2
      rw [if_neg (show ¬ (161 : Int32) ≤ nI j from fun z => by have := (nI_leI (a := 161) (by decide) (by omega)).mp z; omega), inR_nI hj (by decide), gd_true, bd_some, nI_clamp (by omega), nI_1, ga_sae, sa_sa2]
    · show bX10_readText_2 (sa r 19 (kpx (ga r 19) (fun j => j) (fun _ => 0) 161)) (nI so) (nI 161) = _
      unfold bX10_readText_2
      rw [if_pos (show (161 : Int32) ≤ nI 161 by decide), ← hrz]
      unfold bX10_readText_22
      rw [bd_some, bd_some, bd_some, bd_some, bd_some, ← hr, t1, bd_some]
      rfl
theorem rt_lines_bad {r : Rec} {u : Nat → Nat} {n so : Nat} {ps vs ks : Nat → Nat} {L F : Nat} (h : MTp r u n) (hso : so < 4) (hP : Ptx u n so ps vs ks L) (hL : L ≤ 120) (hk : ¬ tkk u n (ps L) = 0) (hF : LnFv u n so ps vs ks L F) : ∃ r', fX10_readText r (nI so) = some (ft r' (nI 1) (nI F), 0) ∧ Fr r r' := by
  obtain ⟨z, A, F0, S0, R0, e⟩ := rt_start h hso
  obtain ⟨r1, e1, A1, F1, S1, R1⟩ := lines_run hso hP hL A F0 (S0 ps vs ks)
  obtain ⟨r2, e2, g2, R2⟩ := lines_bad hso A1 F1 S1 hL hk hF
  refine ⟨r2, ?_, (R0.tr R1).tr R2⟩
  rw [e, e1, e2, bd_some]
  unfold rtR
  rw [if_pos rfl]
  exact rt_bad g2
theorem rt_lines_end {r : Rec} {u : Nat → Nat} {n so : Nat} {ps vs ks : Nat → Nat} {L : Nat} (h : MTp r u n) (hso : so < 4) (hP : Ptx u n so ps vs ks L) (hL : L ≤ 120) (hk : tkk u n (ps L) = 0) : (∀ x, ffl u n ps vs L = some x → ∃ r', fX10_readText r (nI so) = some (ft r' (nI x.1) (nI x.2), 0) ∧ Fr r r') ∧ (ffl u n ps vs L = none → so = 0 → (∃ l, l < L ∧ msg u n ps vs L l) → ∃ r', fX10_readText r (nI so) = some (ft r' (nI 4) (nI n), 0) ∧ Fr r r') ∧ (ffl u n ps vs L = none → (so = 0 → ¬ ∃ l, l < L ∧ msg u n ps vs L l) → ∃ r', fX10_readText r (nI so) = some (ft r' 0 (-1), 1) ∧ Fr r r' ∧ Sst so r' u n ps vs ks L) := by
  obtain ⟨z, A, F0, S0, R0, e⟩ := rt_start h hso
  obtain ⟨r1, e1, A1, F1, S1, R1⟩ := lines_run hso hP hL A F0 (S0 ps vs ks)
  have e2 := lines_end (so := so) A1 hk
  have hn := h.1
  have hR := R0.tr R1
  have hE : fX10_readText r (nI so) = rtR (nI so) (r1, 1) := by rw [e, e1, e2, bd_some]
  have ht := (tok_b (u := u) A1.2.1).2.2.2.2.1 hk
  refine ⟨fun x hx => ⟨r1, ?_, hR⟩, fun hx h0 hm => ?_, fun hx hm => ⟨r1, ?_, hR, S1⟩⟩
  · rw [hx] at F1
    have q := rt_some F1
    rw [hE]
    unfold rtR
    dsimp only
    rw [if_neg (show ¬ (1 : Int32) = 0 by decide), if_neg (show ¬ gi r1 17 = 0 from fun z => by
      have a := F1.1
      have b := F1.2.2.1
      have c := F1.2.2.2.1
      rw [z] at a
      have := (nI_eq (a := 0) (by decide) (by omega)).mp a
      omega), q, ite_self]
  · subst h0
    rw [hx] at F1
    obtain ⟨⟨c0, c1, -⟩, hc⟩ := (show HSt r1 u n ps vs ks L from S1)
    obtain ⟨b0, b1, b3, -, -, -, -, q21, q22, qa, qb⟩ := hc hx
    obtain ⟨r2, f1, f2, f3, f4, f5⟩ := later_nI (f := 4) (p := n) F1 (by omega) (by omega) (by decide) (by decide)
    have q98 : bX10_readText_98 r1 1 = some (ft r2 (nI 4) (nI n), 0) := by
      unfold bX10_readText_98
      rw [A1.2.2.2.1, ht, show (4 : Int32) = nI 4 from rfl, f1, bd_some]
      exact rt_some f2
    refine ⟨r2, ?_, fun k k1 k2 => (f4 k).trans (hR k k1 k2)⟩
    rw [hE]
    unfold rtR
    dsimp only
    rw [if_neg (show ¬ (1 : Int32) = 0 by decide), if_pos (show nI 0 = 0 from rfl), if_pos (show gi r1 17 = 0 from F1), show Int32.toNatClampNeg 0 = 0 from rfl, show Int32.toNatClampNeg 1 = 1 from rfl, c0, c1, q21, q22, show min 8 (cnt vs 0 L) = cnt vs 0 L by omega, show min 10 (cnt vs 1 L) = cnt vs 1 L by omega, q98]
    rcases far_msg.mpr hm with m | m
    · rw [if_pos ((le_fm (by omega) (by omega)).mpr m)]
    · by_cases w : nI (cnt vs 0 L) ≤ nI (farP u n ps vs L) - 1
      · rw [if_pos w]
      · have hle := (le_fm (c := cnt vs 1 L) (m := farS u n ps vs L) (by omega) (by omega)).mpr m
        rw [if_neg w, if_neg (fun z => by
          have a := Int32.lt_iff_toInt_lt.mp z
          have b := Int32.le_iff_toInt_le.mp hle
          omega)]
  · rw [hx] at F1
    have q := rt_none F1
    rw [hE]
    unfold rtR
    dsimp only
    rw [if_neg (show ¬ (1 : Int32) = 0 by decide), if_pos (show gi r1 17 = 0 from F1)]
    by_cases h0 : so = 0
    · subst h0
      obtain ⟨⟨c0, c1, -⟩, hc⟩ := (show HSt r1 u n ps vs ks L from S1)
      obtain ⟨b0, b1, b3, -, -, -, -, q21, q22, qa, qb⟩ := hc hx
      have hnm := hm rfl
      have n0 : ¬ cnt vs 0 L < farP u n ps vs L := fun z => hnm (far_msg.mp (Or.inl z))
      have n1 : ¬ cnt vs 1 L < farS u n ps vs L := fun z => hnm (far_msg.mp (Or.inr z))
      rw [if_pos (show nI 0 = 0 from rfl), show Int32.toNatClampNeg 0 = 0 from rfl, show Int32.toNatClampNeg 1 = 1 from rfl, c0, c1, q21, q22, show min 8 (cnt vs 0 L) = cnt vs 0 L by omega, show min 10 (cnt vs 1 L) = cnt vs 1 L by omega, if_neg (fun z => n0 ((le_fm (by omega) (by omega)).mp z)), if_pos, q]
      have a := fun z => n1 ((le_fm (c := cnt vs 1 L) (m := farS u n ps vs L) (by omega) (by omega)).mp z)
      refine Int32.lt_iff_toInt_lt.mpr ?_
      have b : ¬ (nI (cnt vs 1 L)).toInt ≤ (nI (farS u n ps vs L) - 1).toInt := fun z => a (Int32.le_iff_toInt_le.mpr z)
      omega
    · rw [if_neg (show ¬ nI so = 0 from fun z => h0 ((nI_eq (b := 0) (by omega) (by decide)).mp z)), q]
