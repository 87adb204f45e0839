def pz (u : Nat → Nat) (n i : Nat) : Nat → Nat
  | 0 => i
  | k + 1 => tke u n (pz u n i k)
theorem pz_shift {u : Nat → Nat} {n i : Nat} : ∀ k, pz u n i (k + 1) = pz u n (tke u n i) k
  | 0 => rfl
  | k + 1 => by
    show tke u n (pz u n i (k + 1)) = tke u n (pz u n (tke u n i) k)
    rw [pz_shift k]
theorem pz_b {u : Nat → Nat} {n i : Nat} (hi : i ≤ n) : ∀ k, i ≤ pz u n i k ∧ pz u n i k ≤ n
  | 0 => ⟨Nat.le_refl _, hi⟩
  | k + 1 => by
    have h := pz_b (u := u) hi k
    have hb := tok_b (u := u) h.2
    exact ⟨by show i ≤ tke u n (pz u n i k); omega, hb.2.2.1⟩
theorem At.to {c c' : Rec} {u : Nat → Nat} {n i : Nat} (h : At c u n i) (h0 : ga c' 0 = ga c 0) (h1 : ∀ k, k = 1 ∨ k = 2 ∨ k = 3 ∨ k = 4 → gi c' k = gi c k) : At c' u n i := by
  obtain ⟨⟨a1, a2, a3⟩, b, d, e, f⟩ := h
  exact ⟨⟨a1, by rw [h1 1 (by omega)]; exact a2, by rw [h0]; exact a3⟩, b, by rw [h1 2 (by omega)]; exact d, by rw [h1 3 (by omega)]; exact e, by rw [h1 4 (by omega)]; exact f⟩
theorem nxR_ga (c : Rec) (u : Nat → Nat) (n i k : Nat) : ga (nxR c u n i) k = ga c k := rfl
theorem nxR_gi {c : Rec} {u : Nat → Nat} {n i k : Nat} (h2 : k ≠ 2) (h3 : k ≠ 3) (h4 : k ≠ 4) : gi (nxR c u n i) k = gi c k := by
  unfold nxR
  rw [gi_sin h4, gi_sin h2, gi_sin h3]
def nmb (v : Nat) : Nat := ([1, 1, 2, 3, 2, 3, 1, 1, 1, 0, 3, 2] : List Nat).getD v 0
theorem nmb_d : ∀ v, v < 12 → sDt 1 v = nI (nmb v) := by decide +kernel
theorem nmb_b : ∀ v, v < 12 → nmb v ≤ 3 := by decide +kernel
theorem sLn_1 : sLn 1 = 12 := rfl
def nval (u : Nat → Nat) (n p : Nat) : Nat := nvF u (tks u n p) (tke u n p - tks u n p)
def nmv (u : Nat → Nat) (n q v j : Nat) : Int32 := if j < nmb v then nI (nval u n (pz u n q j)) else -nI 1
def plv (u : Nat → Nat) (n q v j : Nat) : Int32 := if j < nmb v then nI (tks u n (pz u n q j)) else -nI 1
/-- what numbers leave in the reader -/
def RNf (c c' : Rec) (L : Nat) : Prop := (∀ k, k ≠ 9 → k ≠ 10 → ga c' k = ga c k) ∧ (∀ x, x < 3 * L ∨ 3 * L + 3 ≤ x → ga c' 9 x = ga c 9 x ∧ ga c' 10 x = ga c 10 x) ∧ ∀ k, k ≠ 2 → k ≠ 3 → k ≠ 4 → gi c' k = gi c k
theorem rn_step {c : Rec} {u : Nat → Nat} {n q L v j : Nat} (hv : v < 12) (hL : gi c 5 = nI L) (hL2 : L < 120) (hj : j < 3) : (nmb v ≤ j → At c u n q → ∃ c', bX4_readNumbers_2 c (nI v) (nI j) = some (.inl (nI (j + 1), c')) ∧ At c' u n q ∧ ga c' 9 = upd (ga c 9) (3 * L + j) (-nI 1) ∧ ga c' 10 = upd (ga c 10) (3 * L + j) (-nI 1) ∧ (∀ k, k ≠ 9 → k ≠ 10 → ga c' k = ga c k) ∧ ∀ k, gi c' k = gi c k) ∧ (j < nmb v → At c u n q → tkk u n q = 2 → ∃ c', bX4_readNumbers_2 c (nI v) (nI j) = some (.inl (nI (j + 1), c')) ∧ At c' u n (tke u n q) ∧ ga c' 9 = upd (ga c 9) (3 * L + j) (nI (nval u n q)) ∧ ga c' 10 = upd (ga c 10) (3 * L + j) (nI (tks u n q)) ∧ (∀ k, k ≠ 9 → k ≠ 10 → ga c' k = ga c k) ∧ ∀ k, k ≠ 2 → k ≠ 3 → k ≠ 4 → gi c' k = gi c k) ∧ (j < nmb v → At c u n q → ¬ tkk u n q = 2 → ∃ c', bX4_readNumbers_2 c (nI v) (nI j) = some (.inr (c', nI 0)) ∧ At c' u n q ∧ (∀ k, k ≠ 9 → k ≠ 10 → ga c' k = ga c k) ∧ (∀ x, x < 3 * L ∨ 3 * L + 3 ≤ x → ga c' 9 x = ga c 9 x ∧ ga c' 10 x = ga c 10 x) ∧ ∀ k, gi c' k = gi c k) := by
  have hd := nmb_d v hv
  have hm := nmb_b v hv
  obtain ⟨r4, hr4⟩ : ∃ r4, r4 = sa (sa c 9 (upd (ga c 9) (3 * L + j) (-1))) 10 (upd (ga c 10) (3 * L + j) (-1)) := ⟨_, rfl⟩
  have g9 : ga r4 9 = upd (ga c 9) (3 * L + j) (-nI 1) := by rw [hr4, ga_san (by decide), ga_sae]; rfl
  have g10 : ga r4 10 = upd (ga c 10) (3 * L + j) (-nI 1) := by rw [hr4, ga_sae]; rfl
  have gk : ∀ k, k ≠ 9 → k ≠ 10 → ga r4 k = ga c k := fun k k1 k2 => by rw [hr4, ga_san k2, ga_san k1]
  have gik : ∀ k, gi r4 k = gi c k := fun k => by rw [hr4]; rfl
  have e0 : bX4_readNumbers_2 c (nI v) (nI j) = (if nI j < nI (nmb v) then if (gi r4 2) = 2 then (fX4_tokenNumber r4).bind fun z6 => gd (inR (nI (3 * L + j)) 360) ((some (sa r4 9 (upd (ga r4 9) (3 * L + j) z6))).bind fun r8 => gd (inR (nI (3 * L + j)) 360) ((some (sa r8 10 (upd (ga r8 10) (3 * L + j) (gi r8 3)))).bind fun r10 => (fX4_nextToken r10).bind fun z11 => bX4_readNumbers_76 z11 (nI v) (nI j))) else some (.inr ((r4, 0))) else bX4_readNumbers_76 r4 (nI v) (nI j)) := by
    have ei : (gi c 5) * 3 + nI j = nI (3 * L + j) := by rw [hL, show (3 : Int32) = nI 3 from rfl, pk_mul, nI_add, Nat.mul_comm]
    unfold bX4_readNumbers_2
    rw [if_neg (show ¬ (3 : Int32) ≤ nI j from fun z => by have := (nI_leI (a := 3) (by decide) (by omega)).mp z; omega), ei, inR_nI (show 3 * L + j < 360 by omega) (by decide), gd_true, bd_some, gd_true, bd_some, nI_clamp (by omega), nI_clamp (by omega), sLn_1, inR_nI hv (by decide), gd_true, hd]
    rw [show ga (sa c 9 (upd (ga c 9) (3 * L + j) (-1))) 10 = ga c 10 from ga_san (by decide), ← hr4]
  refine ⟨fun h1 hA => ⟨r4, ?_, hA.to (gk 0 (by decide) (by decide)) (fun k _ => gik k), g9, g10, gk, gik⟩, fun h1 hA hk => ?_, fun h1 hA hk => ⟨r4, ?_, hA.to (gk 0 (by decide) (by decide)) (fun k _ => gik k), gk, fun x hx => ?_, gik⟩⟩
  · rw [e0, if_neg (show ¬ nI j < nI (nmb v) from fun z => by have := (nI_ltI (by omega) (by omega)).mp z; omega)]
    unfold bX4_readNumbers_76
    rw [nI_1]
  · have hA4 : At r4 u n q := hA.to (gk 0 (by decide) (by decide)) (fun k _ => gik k)
    have hnum := numX hA4 hk
    obtain ⟨r10, hr10⟩ : ∃ r10, r10 = sa (sa r4 9 (upd (ga r4 9) (3 * L + j) (nI (nval u n q)))) 10 (upd (ga r4 10) (3 * L + j) (nI (tks u n q))) := ⟨_, rfl⟩
    have f9 : ga r10 9 = upd (ga c 9) (3 * L + j) (nI (nval u n q)) := by rw [hr10, ga_san (by decide), ga_sae, g9, upd_upd]
    have f10 : ga r10 10 = upd (ga c 10) (3 * L + j) (nI (tks u n q)) := by rw [hr10, ga_sae, g10, upd_upd]
    have fk : ∀ k, k ≠ 9 → k ≠ 10 → ga r10 k = ga c k := fun k k1 k2 => by rw [hr10, ga_san k2, ga_san k1]; exact gk k k1 k2
    have fik : ∀ k, gi r10 k = gi c k := fun k => by rw [hr10]; exact gik k
    have hA10 : At r10 u n q := hA.to (fk 0 (by decide) (by decide)) (fun k _ => fik k)
    obtain ⟨n1, n2⟩ := hA10.next
    refine ⟨nxR r10 u n (tke u n q), ?_, n2, f9, f10, fk, fun k k2 k3 k4 => by rw [nxR_gi k2 k3 k4]; exact fik k⟩
    have g3 : gi (sa r4 9 (upd (ga r4 9) (3 * L + j) (nI (nval u n q)))) 3 = nI (tks u n q) := hA4.2.2.2.1
    have e2 : gi r4 2 = 2 := by rw [hA4.2.2.1, hk]; rfl
    rw [e0, if_pos (show nI j < nI (nmb v) from (nI_ltI (by omega) (by omega)).mpr h1), if_pos e2, hnum, bd_some, inR_nI (show 3 * L + j < 360 by omega) (by decide), gd_true, bd_some, gd_true, bd_some, show nvF u (tks u n q) (tke u n q - tks u n q) = nval u n q from rfl, g3, show ga (sa r4 9 (upd (ga r4 9) (3 * L + j) (nI (nval u n q)))) 10 = ga r4 10 from ga_san (by decide), ← hr10, n1, bd_some]
    unfold bX4_readNumbers_76
    rw [nI_1]
  · have hA4 : At r4 u n q := hA.to (gk 0 (by decide) (by decide)) (fun k _ => gik k)
    have hb := tok_b (u := u) hA.2.1
    have e2 : ¬ gi r4 2 = 2 := fun z => hk (by rw [hA4.2.2.1] at z; exact (nI_eq (b := 2) (by omega) (by decide)).mp z)
    rw [e0, if_pos (show nI j < nI (nmb v) from (nI_ltI (by omega) (by omega)).mpr h1), if_neg e2]
    rfl
  · rw [g9, g10, upd_if, upd_if, if_neg (by omega), if_neg (by omega)]
    exact ⟨rfl, rfl⟩
theorem readNums {c : Rec} {u : Nat → Nat} {n q L v : Nat} (h : At c u n q) (hv : v < 12) (hL : gi c 5 = nI L) (hL2 : L < 120) : ((∀ j, j < nmb v → tkk u n (pz u n q j) = 2) ∧ ∃ c', fX4_readNumbers c (nI v) = some (c', nI 1) ∧ At c' u n (pz u n q (nmb v)) ∧ (∀ j, j < 3 → ga c' 9 (3 * L + j) = nmv u n q v j ∧ ga c' 10 (3 * L + j) = plv u n q v j) ∧ RNf c c' L) ∨ (∃ j, j < nmb v ∧ (∀ k, k < j → tkk u n (pz u n q k) = 2) ∧ ¬ tkk u n (pz u n q j) = 2 ∧ ∃ c', fX4_readNumbers c (nI v) = some (c', nI 0) ∧ At c' u n (pz u n q j) ∧ RNf c c' L) := by
  have hm := nmb_b v hv
  unfold fX4_readNumbers
  have key : ∀ d j c', j + d = 3 → At c' u n (pz u n q (min j (nmb v))) → (∀ k, k < j → k < nmb v → tkk u n (pz u n q k) = 2) → (∀ k, k < j → ga c' 9 (3 * L + k) = nmv u n q v k ∧ ga c' 10 (3 * L + k) = plv u n q v k) → RNf c c' L → ((∀ j, j < nmb v → tkk u n (pz u n q j) = 2) ∧ ∃ c2, iter (fun st : Int32 × Rec => bX4_readNumbers_2 st.2 (nI v) st.1) (nI j, c') = some (c2, nI 1) ∧ At c2 u n (pz u n q (nmb v)) ∧ (∀ j, j < 3 → ga c2 9 (3 * L + j) = nmv u n q v j ∧ ga c2 10 (3 * L + j) = plv u n q v j) ∧ RNf c c2 L) ∨ (∃ i, i < nmb v ∧ (∀ k, k < i → tkk u n (pz u n q k) = 2) ∧ ¬ tkk u n (pz u n q i) = 2 ∧ ∃ c2, iter (fun st : Int32 × Rec => bX4_readNumbers_2 st.2 (nI v) st.1) (nI j, c') = some (c2, nI 0) ∧ At c2 u n (pz u n q i) ∧ RNf c c2 L) := by
    intro d
    induction d with
    | zero =>
      intro j c' hj hA hk he hf
      have h3 : j = 3 := by omega
      subst h3
      refine Or.inl ⟨fun k hk2 => hk k (by omega) hk2, c', ?_, by rw [show min 3 (nmb v) = nmb v by omega] at hA; exact hA, he, hf⟩
      refine iter_end (step := fun st : Int32 × Rec => bX4_readNumbers_2 st.2 (nI v) st.1) (s := (nI 3, c')) ?_
      show bX4_readNumbers_2 c' (nI v) (nI 3) = _
      unfold bX4_readNumbers_2
      rw [if_pos (show (3 : Int32) ≤ nI 3 by decide)]
      rfl
    | succ d ih =>
      intro j c' hj hA hk he hf
      have hL' : gi c' 5 = nI L := by rw [hf.2.2 5 (by decide) (by decide) (by decide)]; exact hL
      obtain ⟨s1, s2, s3⟩ := rn_step (c := c') (u := u) (n := n) (q := pz u n q (min j (nmb v))) hv hL' hL2 (show j < 3 by omega)
      by_cases c1 : j < nmb v
      · rw [show min j (nmb v) = j by omega] at hA s1 s2 s3
        by_cases c2 : tkk u n (pz u n q j) = 2
        · obtain ⟨c2', f1, f2, f3, f4, f5, f6⟩ := s2 c1 hA c2
          rw [iter_step (step := fun st : Int32 × Rec => bX4_readNumbers_2 st.2 (nI v) st.1) (s := (nI j, c')) (s' := (nI (j + 1), c2')) f1]
          refine ih (j + 1) c2' (by omega) (by rw [show min (j + 1) (nmb v) = j + 1 by omega]; exact f2) (fun k k1 k2 => ?_) (fun k hk2 => ?_) ⟨fun k k1 k2 => by rw [f5 k k1 k2]; exact hf.1 k k1 k2, fun x hx => ?_, fun k k1 k2 k3 => by rw [f6 k k1 k2 k3]; exact hf.2.2 k k1 k2 k3⟩
          · by_cases e : k = j
            · rw [e]; exact c2
            · exact hk k (by omega) k2
          · rw [f3, f4, upd_if, upd_if]
            by_cases e : k = j
            · subst e
              rw [if_pos rfl, if_pos rfl]
              unfold nmv plv
              rw [if_pos c1, if_pos c1]
              exact ⟨rfl, rfl⟩
            · rw [if_neg (by omega), if_neg (by omega)]
              exact he k (by omega)
          · rw [f3, f4, upd_if, upd_if, if_neg (by omega), if_neg (by omega)]
            exact hf.2.1 x hx
        · obtain ⟨c2', f1, f2, f3, f4, f5⟩ := s3 c1 hA c2
          refine Or.inr ⟨j, c1, fun k hk2 => hk k hk2 (by omega), c2, c2', ?_, f2, ⟨fun k k1 k2 => by rw [f3 k k1 k2]; exact hf.1 k k1 k2, fun x hx => ?_, fun k k1 k2 k3 => by rw [f5 k]; exact hf.2.2 k k1 k2 k3⟩⟩
          · exact iter_end (step := fun st : Int32 × Rec => bX4_readNumbers_2 st.2 (nI v) st.1) (s := (nI j, c')) f1
          · have h1 := f4 x hx
            have h2 := hf.2.1 x hx
            exact ⟨h1.1.trans h2.1, h1.2.trans h2.2⟩
      · rw [show min j (nmb v) = nmb v by omega] at hA s1
        obtain ⟨c2', f1, f2, f3, f4, f5, f6⟩ := s1 (by omega) hA
        rw [iter_step (step := fun st : Int32 × Rec => bX4_readNumbers_2 st.2 (nI v) st.1) (s := (nI j, c')) (s' := (nI (j + 1), c2')) f1]
        refine ih (j + 1) c2' (by omega) (by rw [show min (j + 1) (nmb v) = nmb v by omega]; exact f2) (fun k k1 k2 => hk k (by omega) k2) (fun k hk2 => ?_) ⟨fun k k1 k2 => by rw [f5 k k1 k2]; exact hf.1 k k1 k2, fun x hx => ?_, fun k k1 k2 k3 => by rw [f6 k]; exact hf.2.2 k k1 k2 k3⟩
        · rw [f3, f4, upd_if, upd_if]
          by_cases e : k = j
          · subst e
            rw [if_pos rfl, if_pos rfl]
            unfold nmv plv
            rw [if_neg c1, if_neg c1]
            exact ⟨rfl, rfl⟩
          · rw [if_neg (by omega), if_neg (by omega)]
            exact he k (by omega)
        · rw [f3, f4, upd_if, upd_if, if_neg (by omega), if_neg (by omega)]
          exact hf.2.1 x hx
  exact key 3 0 c (by omega) (by rw [Nat.zero_min]; exact h) (fun k k1 => by omega) (fun k k1 => by omega) ⟨fun _ _ _ => rfl, fun _ _ => ⟨rfl, rfl⟩, fun _ _ _ _ => rfl⟩
