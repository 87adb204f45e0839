theorem Hd.to {r r' : Rec} {n : Nat} {v : Hv} (hd : Hd r n v) (h1 : ∀ k, k ≠ 36 → k ≠ 37 → k ≠ 39 → k ≠ 40 → ga r' k = ga r k) (h2 : ∀ k, gi r' k = gi r k) : Hd r' n v := by
  obtain ⟨a1, a2, a3, a4, a5, a6⟩ := hd
  refine ⟨a1, by rw [h2]; exact a2, by rw [h2]; exact a3, by rw [h2]; exact a4, ?_, ?_⟩
  · rw [h1 28 (by decide) (by decide) (by decide) (by decide)]; exact a5
  · rw [h1 6 (by decide) (by decide) (by decide) (by decide)]; exact a6
theorem Sub.le {T A : Nat} (h : Sub T A) : T ≤ A := by
  have e : T &&& A = T := by
    apply Nat.eq_of_testBit_eq
    intro i
    rw [Nat.testBit_and]
    cases c : T.testBit i
    · rfl
    · rw [h i c]; rfl
  rw [← e]
  exact Nat.and_le_right
theorem Sub.dl {T A s : Nat} (h : Sub T A) : Sub (andn T (2 ^ s)) A := by
  intro k hk
  rw [dl_bit] at hk
  cases c : T.testBit k
  · rw [c] at hk; cases hk
  · exact h k c
theorem andn_Sub {k A : Nat} (h : andn k A = 0) : Sub k A := by
  intro i hi
  have := andn_bit k A i
  rw [h, hi, Nat.zero_testBit] at this
  cases c : A.testBit i
  · rw [c] at this; cases this
  · rfl
def Cd (v : Hv) (b : Nat → Nat) (W k j T s : Nat) : Prop := T.testBit s = true ∧ (andn T (2 ^ s) < k ∨ (andn T (2 ^ s) = k ∧ s < j)) ∧ fD v b W (andn T (2 ^ s)) < 1000000
def fS (v : Hv) (b : Nat → Nat) (W T s : Nat) : Nat := stq b W (fD v b W (andn T (2 ^ s))) (hWt v s)
def FI (v : Hv) (b : Nat → Nat) (W A : Nat) (r0 r : Rec) (k j : Nat) : Prop := (∀ i, i ≠ 39 → ga r i = ga r0 i) ∧ (∀ i, gi r i = gi r0 i) ∧ ∃ a : Nat → Nat, (∀ t, t ≤ A → ga r 39 t = nI (a t)) ∧ (∀ t, a t ≤ 1000000) ∧ a 0 = b 0 ∧ ∀ T, Sub T A → T ≠ 0 → MnC 1000000 (Cd v b W k j T) (fS v b W T) (hS v) (a T)
theorem FI.val {v : Hv} {b : Nat → Nat} {W A k j T : Nat} {r0 r : Rec} (h : FI v b W A r0 r k j) (hs : Sub T A) (hk : T ≤ k) : ga r 39 T = nI (fD v b W T) := by
  obtain ⟨-, -, a, a1, a2, a3, a4⟩ := h
  rw [a1 T hs.le]
  by_cases h0 : T = 0
  · subst h0
    rw [a3]
    rfl
  · rw [((a4 T hs h0).iff (fun s _ => ⟨fun q => ⟨q.1, q.2.2⟩, fun q => ⟨q.1, Or.inl (by have := dl_lt q.1; omega), q.2⟩⟩)).un (fD_mn h0)]
theorem MnC.add {ini : Nat} {c c' : Nat → Prop} {f : Nat → Nat} {n x j : Nat} (h : MnC ini c f n x) (hj : j < n) (e : ∀ s, s < n → (c' s ↔ (c s ∨ s = j))) : MnC ini c' f n (min x (f j)) := by
  obtain ⟨h1, h2, h3⟩ := h
  refine ⟨by omega, fun s hs hc => ?_, ?_⟩
  · rcases (e s hs).mp hc with q | q
    · have := h2 s hs q; omega
    · subst q; omega
  · by_cases q : f j ≤ x
    · exact Or.inr ⟨j, hj, (e j hj).mpr (Or.inr rfl), by omega⟩
    · rw [Nat.min_eq_left (by omega)]
      rcases h3 with z | ⟨s, a, d, z⟩
      · exact Or.inl z
      · exact Or.inr ⟨s, a, (e s a).mpr (Or.inl d), z⟩
theorem FI.step {v : Hv} {b : Nat → Nat} {W A k j : Nat} {r0 r : Rec} (h : FI v b W A r0 r k j) (hj : j < hS v) (hA : A.testBit j = true) (hk : Sub k A) (hkj : k.testBit j = false) (hF : fD v b W k < 1000000) : ∃ x, ga r 39 (k ||| 2 ^ j) = nI x ∧ x ≤ 1000000 ∧ FI v b W A r0 (sa r 39 (upd (ga r 39) (k ||| 2 ^ j) (nI (min x (stq b W (fD v b W k) (hWt v j)))))) k (j + 1) := by
  obtain ⟨f1, f2, a, a1, a2, a3, a4⟩ := h
  have hs0 : Sub (k ||| 2 ^ j) A := by
    intro i hi
    rw [Nat.testBit_or, Nat.testBit_two_pow] at hi
    cases c : k.testBit i
    · rw [c] at hi
      have : j = i := by simpa using hi
      rw [← this]; exact hA
    · exact hk i c
  have hb0 : (k ||| 2 ^ j).testBit j = true := bit_or k j
  have hne : k ||| 2 ^ j ≠ 0 := fun q => by rw [q, Nat.zero_testBit] at hb0; cases hb0
  have ed : andn (k ||| 2 ^ j) (2 ^ j) = k := or_dl hkj
  refine ⟨a (k ||| 2 ^ j), a1 _ hs0.le, a2 _, fun i hi => ?_, f2, fun t => if t = k ||| 2 ^ j then min (a (k ||| 2 ^ j)) (stq b W (fD v b W k) (hWt v j)) else a t, fun t ht => ?_, fun t => ?_, ?_, fun T hT h0 => ?_⟩
  · rw [ga_san hi]; exact f1 i hi
  · rw [ga_sae, upd_if]
    dsimp only
    by_cases c : t = k ||| 2 ^ j
    · rw [if_pos c, if_pos c]
    · rw [if_neg c, if_neg c]; exact a1 t ht
  · dsimp only
    have := a2 (k ||| 2 ^ j)
    have := a2 t
    split <;> omega
  · dsimp only
    rw [if_neg (fun q => hne q.symm)]; exact a3
  · dsimp only
    by_cases c : T = k ||| 2 ^ j
    · rw [if_pos c]
      have hm := (a4 T hT h0).add (c' := Cd v b W k (j + 1) T) hj (fun s hs => by
        constructor
        · rintro ⟨q1, q2, q3⟩
          rcases q2 with q2 | ⟨q2, q4⟩
          · exact Or.inl ⟨q1, Or.inl q2, q3⟩
          · by_cases e : s = j
            · exact Or.inr e
            · exact Or.inl ⟨q1, Or.inr ⟨q2, by omega⟩, q3⟩
        · rintro (⟨q1, q2, q3⟩ | q)
          · refine ⟨q1, ?_, q3⟩
            rcases q2 with q2 | ⟨q2, q4⟩
            · exact Or.inl q2
            · exact Or.inr ⟨q2, by omega⟩
          · subst q
            rw [c]
            exact ⟨hb0, Or.inr ⟨ed, by omega⟩, by rw [ed]; exact hF⟩)
      have e2 : fS v b W T j = stq b W (fD v b W k) (hWt v j) := by unfold fS; rw [c, ed]
      rw [e2] at hm
      rw [← c]
      exact hm
    · rw [if_neg c]
      refine (a4 T hT h0).iff (fun s hs => ⟨?_, ?_⟩)
      · rintro ⟨q1, q2, q3⟩
        refine ⟨q1, ?_, q3⟩
        rcases q2 with q2 | ⟨q2, q4⟩
        · exact Or.inl q2
        · exact Or.inr ⟨q2, by omega⟩
      · rintro ⟨q1, q2, q3⟩
        refine ⟨q1, ?_, q3⟩
        rcases q2 with q2 | ⟨q2, q4⟩
        · exact Or.inl q2
        · refine Or.inr ⟨q2, ?_⟩
          by_cases e : s = j
          · subst e
            have := dl_or q1
            rw [q2] at this
            exact absurd this.symm c
          · omega
theorem FI.same {v : Hv} {b : Nat → Nat} {W A k j : Nat} {r0 r : Rec} (h : FI v b W A r0 r k j) (hn : A.testBit j = false ∨ k.testBit j = true) : FI v b W A r0 r k (j + 1) := by
  obtain ⟨f1, f2, a, a1, a2, a3, a4⟩ := h
  refine ⟨f1, f2, a, a1, a2, a3, fun T hT h0 => (a4 T hT h0).iff (fun s hs => ⟨?_, ?_⟩)⟩
  · rintro ⟨q1, q2, q3⟩
    refine ⟨q1, ?_, q3⟩
    rcases q2 with q2 | ⟨q2, q4⟩
    · exact Or.inl q2
    · exact Or.inr ⟨q2, by omega⟩
  · rintro ⟨q1, q2, q3⟩
    refine ⟨q1, ?_, q3⟩
    rcases q2 with q2 | ⟨q2, q4⟩
    · exact Or.inl q2
    · refine Or.inr ⟨q2, ?_⟩
      by_cases e : s = j
      · subst e
        exfalso
        rcases hn with z | z
        · rw [hT s q1] at z; cases z
        · rw [← q2, dl_bit] at z
          simp at z
      · omega
theorem FI.next {v : Hv} {b : Nat → Nat} {W A k : Nat} {r0 r : Rec} (h : FI v b W A r0 r k (hS v)) : FI v b W A r0 r (k + 1) 0 := by
  obtain ⟨f1, f2, a, a1, a2, a3, a4⟩ := h
  refine ⟨f1, f2, a, a1, a2, a3, fun T hT h0 => (a4 T hT h0).iff (fun s hs => ⟨?_, ?_⟩)⟩
  · rintro ⟨q1, q2, q3⟩
    exact ⟨q1, Or.inl (by omega), q3⟩
  · rintro ⟨q1, q2, q3⟩
    exact ⟨q1, by omega, q3⟩
theorem FI.skip {v : Hv} {b : Nat → Nat} {W A k : Nat} {r0 r : Rec} (h : FI v b W A r0 r k 0) (hn : ¬ (Sub k A ∧ fD v b W k < 1000000)) : FI v b W A r0 r (k + 1) 0 := by
  obtain ⟨f1, f2, a, a1, a2, a3, a4⟩ := h
  refine ⟨f1, f2, a, a1, a2, a3, fun T hT h0 => (a4 T hT h0).iff (fun s hs => ⟨?_, ?_⟩)⟩
  · rintro ⟨q1, q2, q3⟩
    exact ⟨q1, Or.inl (by omega), q3⟩
  · rintro ⟨q1, q2, q3⟩
    refine ⟨q1, Or.inl ?_, q3⟩
    by_cases e : andn T (2 ^ s) = k
    · exact absurd ⟨by rw [← e]; exact hT.dl, by rw [← e]; exact q3⟩ hn
    · omega
theorem fill45_no {r : Rec} {n : Nat} {v : Hv} (ok : HvOK v) (hd : Hd r n v) {W A k j q : Nat} (hA : A < 2 ^ hS v) (hk : k ≤ A) (hj : j < hS v) (hsub : Sub k A) (hq : ga r 39 k = nI q) (hq2 : q ≤ 999) (hn : A.testBit j = false ∨ k.testBit j = true) : bX10_fill_45 r (nI A) (nI W) (nI k) (nI j) = some (.inl (nI (j + 1), r)) := by
  have hpS := pS ok
  have hS10 := ok.2.1
  have e0 := andn_self hsub
  unfold bX10_fill_45 bX10_fill_223
  cases c : A.testBit j
  · simp (disch := omega) only [hd.S, andn_nI, e0, hq, has_nI, c, Bool.false_eq_true, bd_some, gd_true, inR_nI, nI_clamp, nI_add, pk_mul, pk_sub, leT, leF, ltT, ltF, eqT, eqF, ite_true, ite_false, reduceIte, nz_nI, oc_s, oc_n, pk_div, pk_rem, m1F, L0, L1, L2, L3, L4, L5, L6, L7, L8, L9, L10, L11, L12, L19, L20, L24, L25, L27, L28, L30, L32, L37, L39, L40, L47, L48, L50, L55, L57, L60, L61, L63, L71, L80, L97, L99, L100, L120, L122, L128, L161, L17, L600, L1000000, L1024, L1408, isB0, isB1, subdm, inT, inFl, inFh]
  · rcases hn with z | z
    · rw [c] at z; cases z
    · simp (disch := omega) only [hd.S, andn_nI, e0, hq, has_nI, c, z, bd_some, gd_true, inR_nI, nI_clamp, nI_add, pk_mul, pk_sub, leT, leF, ltT, ltF, eqT, eqF, ite_true, ite_false, reduceIte, nz_nI, oc_s, oc_n, pk_div, pk_rem, m1F, L0, L1, L2, L3, L4, L5, L6, L7, L8, L9, L10, L11, L12, L19, L20, L24, L25, L27, L28, L30, L32, L37, L39, L40, L47, L48, L50, L55, L57, L60, L61, L63, L71, L80, L97, L99, L100, L120, L122, L128, L161, L17, L600, L1000000, L1024, L1408, isB0, isB1, subdm, inT, inFl, inFh]
theorem fill45_yes {r : Rec} {n : Nat} {v : Hv} {b : Nat → Nat} (ok : HvOK v) (hd : Hd r n v) (hb : ∀ e, e < 10 → ga r 40 e = nI (b e)) (hb2 : ∀ e, e < 10 → b e ≤ 99) {W A k j q x : Nat} (hW : W ≤ 99) (hA : A < 2 ^ hS v) (hk : k ≤ A) (hj : j < hS v) (hsub : Sub k A) (hq : ga r 39 k = nI q) (hq2 : q ≤ 999) (h1 : A.testBit j = true) (h2 : k.testBit j = false) (hx : ga r 39 (k ||| 2 ^ j) = nI x) (hx2 : x ≤ 1000000) : bX10_fill_45 r (nI A) (nI W) (nI k) (nI j) = some (.inl (nI (j + 1), sa r 39 (upd (ga r 39) (k ||| 2 ^ j) (nI (min x (stq b W q (hWt v j))))))) := by
  have hpS := pS ok
  have hS10 := ok.2.1
  have e0 := andn_self hsub
  have hor : k ||| 2 ^ j < 1024 := Nat.lt_of_lt_of_le (Nat.or_lt_two_pow (show k < 2 ^ hS v by omega) (Nat.pow_lt_pow_right (by decide) hj)) hpS
  have hst := stq_le (b := b) (W := W) (q := q) (w := hWt v j) hW
  have hw := fillW (A := nI A) (T := nI k) ok hd hb hb2 hW hj 10 (q / 100) (q % 100) (by omega) (by omega) (by omega)
  unfold bX10_fill_45
  simp (disch := omega) only [hd.S, andn_nI, e0, hq, has_nI, h1, h2, Bool.false_eq_true, bd_some, gd_true, inR_nI, nI_clamp, nI_add, pk_mul, pk_sub, leT, leF, ltT, ltF, eqT, eqF, ite_true, ite_false, reduceIte, nz_nI, oc_s, oc_n, pk_div, pk_rem, m1F, L0, L1, L2, L3, L4, L5, L6, L7, L8, L9, L10, L11, L12, L19, L20, L24, L25, L27, L28, L30, L32, L37, L39, L40, L47, L48, L50, L55, L57, L60, L61, L63, L71, L80, L97, L99, L100, L120, L122, L128, L161, L17, L600, L1000000, L1024, L1408, isB0, isB1, subdm, inT, inFl, inFh]
  refine hw.trans ?_
  show bX10_fill_194 r (nI A) (nI W) (nI k) (nI j) (nI (stq b W q (hWt v j))) = _
  unfold bX10_fill_194 bX10_fill_223
  have hst2 : stq b W q (hWt v j) < 2 ^ 31 := by omega
  simp (disch := omega) only [L31, shl_T, or_nI, hx, ls_nI, bd_some, gd_true, inR_nI, nI_clamp, nI_add, pk_mul, pk_sub, leT, leF, ltT, ltF, eqT, eqF, ite_true, ite_false, reduceIte, nz_nI, oc_s, oc_n, pk_div, pk_rem, m1F, L0, L1, L2, L3, L4, L5, L6, L7, L8, L9, L10, L11, L12, L19, L20, L24, L25, L27, L28, L30, L32, L37, L39, L40, L47, L48, L50, L55, L57, L60, L61, L63, L71, L80, L97, L99, L100, L120, L122, L128, L161, L17, L600, L1000000, L1024, L1408, isB0, isB1, subdm, inT, inFl, inFh]
theorem fill_in {r0 r : Rec} {n : Nat} {v : Hv} {b : Nat → Nat} (ok : HvOK v) (hd : Hd r0 n v) (hb : ∀ e, e < 10 → ga r0 40 e = nI (b e)) (hb2 : ∀ e, e < 10 → b e ≤ 99) {W A k : Nat} (hW : W ≤ 99) (hA : A < 2 ^ hS v) (hk : k ≤ A) (h : FI v b W A r0 r k 0) : ∃ r', iter (fun st : Int32 × Rec => bX10_fill_45 st.2 (nI A) (nI W) (nI k) st.1) (nI 0, r) = some (.inl (nI (k + 1), r')) ∧ FI v b W A r0 r' (k + 1) 0 := by
  have hpS := pS ok
  have hS10 := ok.2.1
  have hfD := fD_le (v := v) (b := b) (T := k) hW (hb2 0 (by decide))
  by_cases hs : Sub k A ∧ fD v b W k < 1000000
  · obtain ⟨x, h1, h2⟩ := iter_loop (step := fun st : Int32 × Rec => bX10_fill_45 st.2 (nI A) (nI W) (nI k) st.1) (fun j st => st.1 = nI j ∧ FI v b W A r0 st.2 k j) (fun y => ∃ r', y = .inl (nI (k + 1), r') ∧ FI v b W A r0 r' (k + 1) 0) (hS v) (by
      rintro j ⟨x, r⟩ hj ⟨e, hF⟩
      dsimp only at e hF
      subst e
      have hdr : Hd r n v := hd.to (fun i _ _ h _ => hF.1 i h) hF.2.1
      have hv := hF.val hs.1 (Nat.le_refl k)
      by_cases c : A.testBit j = true ∧ k.testBit j = false
      · obtain ⟨x, x1, x2, x3⟩ := hF.step hj c.1 hs.1 c.2 hs.2
        exact ⟨_, fill45_yes ok hdr (fun e he => by rw [hF.1 40 (by decide)]; exact hb e he) hb2 hW hA hk hj hs.1 hv (by omega) c.1 c.2 x1 x2, rfl, x3⟩
      · have hn : A.testBit j = false ∨ k.testBit j = true := by
          cases c1 : A.testBit j
          · exact Or.inl rfl
          · cases c2 : k.testBit j
            · exact absurd ⟨c1, c2⟩ c
            · exact Or.inr rfl
        exact ⟨_, fill45_no ok hdr hA hk hj hs.1 hv (by omega) hn, rfl, hF.same hn⟩) (by
      rintro ⟨x, r⟩ ⟨e, hF⟩
      dsimp only at e hF
      subst e
      have hdr : Hd r n v := hd.to (fun i _ _ h _ => hF.1 i h) hF.2.1
      refine ⟨.inl (nI (k + 1), r), ?_, r, rfl, hF.next⟩
      show bX10_fill_45 r (nI A) (nI W) (nI k) (nI (hS v)) = _
      unfold bX10_fill_45 bX10_fill_229
      simp (disch := omega) only [hdr.S, bd_some, gd_true, inR_nI, nI_clamp, nI_add, pk_mul, pk_sub, leT, leF, ltT, ltF, eqT, eqF, ite_true, ite_false, reduceIte, nz_nI, oc_s, oc_n, pk_div, pk_rem, m1F, L0, L1, L2, L3, L4, L5, L6, L7, L8, L9, L10, L11, L12, L19, L20, L24, L25, L27, L28, L30, L32, L37, L39, L40, L47, L48, L50, L55, L57, L60, L61, L63, L71, L80, L97, L99, L100, L120, L122, L128, L161, L17, L600, L1000000, L1024, L1408, isB0, isB1, subdm, inT, inFl, inFh]
      all_goals rfl) (s0 := (nI 0, r)) ⟨rfl, h⟩
    obtain ⟨r', rfl, h3⟩ := h2
    exact ⟨r', h1, h3⟩
  · refine ⟨r, ?_, h.skip hs⟩
    have hdr : Hd r n v := hd.to (fun i _ _ h3 _ => h.1 i h3) h.2.1
    refine iter_end (step := fun st : Int32 × Rec => bX10_fill_45 st.2 (nI A) (nI W) (nI k) st.1) (s := (nI 0, r)) ?_
    show bX10_fill_45 r (nI A) (nI W) (nI k) (nI 0) = _
    unfold bX10_fill_45 bX10_fill_229
    by_cases c0 : hS v = 0
    · simp (disch := omega) only [hdr.S, c0, bd_some, gd_true, inR_nI, nI_clamp, nI_add, pk_mul, pk_sub, leT, leF, ltT, ltF, eqT, eqF, ite_true, ite_false, reduceIte, nz_nI, oc_s, oc_n, pk_div, pk_rem, m1F, L0, L1, L2, L3, L4, L5, L6, L7, L8, L9, L10, L11, L12, L19, L20, L24, L25, L27, L28, L30, L32, L37, L39, L40, L47, L48, L50, L55, L57, L60, L61, L63, L71, L80, L97, L99, L100, L120, L122, L128, L161, L17, L600, L1000000, L1024, L1408, isB0, isB1, subdm, inT, inFl, inFh]
      all_goals rfl
    · by_cases c : andn k A = 0
      · have hsub := andn_Sub c
        have hv := h.val hsub (Nat.le_refl k)
        have hF : fD v b W k = 1000000 := by
          rcases hfD with q | q
          · exact q
          · exact absurd ⟨hsub, by omega⟩ hs
        rw [hF] at hv
        simp (disch := omega) only [hdr.S, andn_nI, c, hv, bd_some, gd_true, inR_nI, nI_clamp, nI_add, pk_mul, pk_sub, leT, leF, ltT, ltF, eqT, eqF, ite_true, ite_false, reduceIte, nz_nI, oc_s, oc_n, pk_div, pk_rem, m1F, L0, L1, L2, L3, L4, L5, L6, L7, L8, L9, L10, L11, L12, L19, L20, L24, L25, L27, L28, L30, L32, L37, L39, L40, L47, L48, L50, L55, L57, L60, L61, L63, L71, L80, L97, L99, L100, L120, L122, L128, L161, L17, L600, L1000000, L1024, L1408, isB0, isB1, subdm, inT, inFl, inFh]
        all_goals rfl
      · have := andn_le k A
        simp (disch := omega) only [hdr.S, andn_nI, bd_some, gd_true, inR_nI, nI_clamp, nI_add, pk_mul, pk_sub, leT, leF, ltT, ltF, eqT, eqF, ite_true, ite_false, reduceIte, nz_nI, oc_s, oc_n, pk_div, pk_rem, m1F, L0, L1, L2, L3, L4, L5, L6, L7, L8, L9, L10, L11, L12, L19, L20, L24, L25, L27, L28, L30, L32, L37, L39, L40, L47, L48, L50, L55, L57, L60, L61, L63, L71, L80, L97, L99, L100, L120, L122, L128, L161, L17, L600, L1000000, L1024, L1408, isB0, isB1, subdm, inT, inFl, inFh]
        all_goals rfl
theorem fill35 {r0 r : Rec} {n : Nat} {v : Hv} {b : Nat → Nat} (ok : HvOK v) (hd : Hd r0 n v) (hb : ∀ e, e < 10 → ga r0 40 e = nI (b e)) (hb2 : ∀ e, e < 10 → b e ≤ 99) {W A : Nat} (hW : W ≤ 99) (hA : A < 2 ^ hS v) (hsA : Sub A A) (h : FI v b W A r0 r 0 0) : ∃ r', bX10_fill_35 r (nI A) (nI W) = some (r', nI (fD v b W A)) ∧ (∀ i, i ≠ 39 → ga r' i = ga r0 i) ∧ ∀ i, gi r' i = gi r0 i := by
  have hpS := pS ok
  unfold bX10_fill_35
  obtain ⟨x, h1, h2⟩ := iter_loop (step := fun st : Int32 × Rec => bX10_fill_37 st.2 (nI A) (nI W) st.1) (fun i st => st.1 = nI i ∧ FI v b W A r0 st.2 i 0) (fun x => x.2 = nI (fD v b W A) ∧ (∀ i, i ≠ 39 → ga x.1 i = ga r0 i) ∧ ∀ i, gi x.1 i = gi r0 i) (A + 1) (by
    rintro k ⟨x, r⟩ hk ⟨e, hF⟩
    dsimp only at e hF
    subst e
    obtain ⟨r', z1, z2⟩ := fill_in ok hd hb hb2 hW hA (show k ≤ A by omega) hF
    refine ⟨(nI (k + 1), r'), ?_, rfl, z2⟩
    show bX10_fill_37 r (nI A) (nI W) (nI k) = _
    unfold bX10_fill_37
    rw [if_neg (show ¬ nI A < nI k from fun q => by have := (nI_ltI (by omega) (by omega)).mp q; omega)]
    exact z1) (by
    rintro ⟨x, r⟩ ⟨e, hF⟩
    dsimp only at e hF
    subst e
    have hv := hF.val hsA (by omega)
    refine ⟨(r, nI (fD v b W A)), ?_, rfl, hF.1, hF.2.1⟩
    show bX10_fill_37 r (nI A) (nI W) (nI (A + 1)) = _
    unfold bX10_fill_37 bX10_fill_235
    simp (disch := omega) only [hv, bd_some, gd_true, inR_nI, nI_clamp, nI_add, pk_mul, pk_sub, leT, leF, ltT, ltF, eqT, eqF, ite_true, ite_false, reduceIte, nz_nI, oc_s, oc_n, pk_div, pk_rem, m1F, L0, L1, L2, L3, L4, L5, L6, L7, L8, L9, L10, L11, L12, L19, L20, L24, L25, L27, L28, L30, L32, L37, L39, L40, L47, L48, L50, L55, L57, L60, L61, L63, L71, L80, L97, L99, L100, L120, L122, L128, L161, L17, L600, L1000000, L1024, L1408, isB0, isB1, subdm, inT, inFl, inFh]
    all_goals rfl) (s0 := ((0 : Int32), r)) ⟨rfl, h⟩
  obtain ⟨x1, x2⟩ := x
  obtain ⟨b0, b1, b2⟩ := h2
  dsimp only at b0 b1 b2
  subst b0
  exact ⟨x1, h1, b1, b2⟩
theorem fill_nI {r : Rec} {n : Nat} {v : Hv} {b : Nat → Nat} (ok : HvOK v) (hd : Hd r n v) (hb : ∀ e, e < 10 → ga r 40 e = nI (b e)) (hb2 : ∀ e, e < 10 → b e ≤ 99) {W A : Nat} (hW : W ≤ 99) (hA : A < 2 ^ hS v) : ∃ r', fX10_fill r (nI A) (nI W) = some (r', nI (fD v b W A)) ∧ (∀ i, i ≠ 39 → ga r' i = ga r i) ∧ ∀ i, gi r' i = gi r i := by
  have hpS := pS ok
  have hb0 := hb 0 (by decide)
  unfold fX10_fill
  obtain ⟨x, h1, h2⟩ := iter_loop (step := fun st : Int32 × Rec => bX10_fill_2 st.2 (nI A) (nI W) st.1) (fun i st => st.1 = nI i ∧ (∀ k, k ≠ 39 → ga st.2 k = ga r k) ∧ (∀ k, gi st.2 k = gi r k) ∧ ∀ t, t < i → ga st.2 39 t = nI (if t = 0 then b 0 else 1000000)) (fun x => x.2 = nI (fD v b W A) ∧ (∀ i, i ≠ 39 → ga x.1 i = ga r i) ∧ ∀ i, gi x.1 i = gi r i) (A + 1) (by
    rintro k ⟨x, q⟩ hk ⟨e, a1, a2, a3⟩
    dsimp only at e a1 a2 a3
    subst e
    refine ⟨(nI (k + 1), sa q 39 (upd (ga q 39) k (nI (if k = 0 then b 0 else 1000000)))), ?_, rfl, fun i hi => ?_, a2, fun t ht => ?_⟩
    · show bX10_fill_2 q (nI A) (nI W) (nI k) = _
      have e40 : ga q 40 0 = nI (b 0) := by rw [a1 40 (by decide)]; exact hb0
      unfold bX10_fill_2 bX10_fill_28
      by_cases c : k = 0
      · subst c
        have e40' : ga q 40 (Int32.toNatClampNeg 0) = nI (b 0) := e40
        simp (disch := omega) only [e40, e40', bd_some, gd_true, inR_nI, nI_clamp, nI_add, pk_mul, pk_sub, leT, leF, ltT, ltF, eqT, eqF, ite_true, ite_false, reduceIte, nz_nI, oc_s, oc_n, pk_div, pk_rem, m1F, L0, L1, L2, L3, L4, L5, L6, L7, L8, L9, L10, L11, L12, L19, L20, L24, L25, L27, L28, L30, L32, L37, L39, L40, L47, L48, L50, L55, L57, L60, L61, L63, L71, L80, L97, L99, L100, L120, L122, L128, L161, L17, L600, L1000000, L1024, L1408, isB0, isB1, subdm, inT, inFl, inFh]
      · simp (disch := omega) only [if_neg c, bd_some, gd_true, inR_nI, nI_clamp, nI_add, pk_mul, pk_sub, leT, leF, ltT, ltF, eqT, eqF, ite_true, ite_false, reduceIte, nz_nI, oc_s, oc_n, pk_div, pk_rem, m1F, L0, L1, L2, L3, L4, L5, L6, L7, L8, L9, L10, L11, L12, L19, L20, L24, L25, L27, L28, L30, L32, L37, L39, L40, L47, L48, L50, L55, L57, L60, L61, L63, L71, L80, L97, L99, L100, L120, L122, L128, L161, L17, L600, L1000000, L1024, L1408, isB0, isB1, subdm, inT, inFl, inFh]
    · show ga (sa q 39 _) i = _
      rw [ga_san hi]; exact a1 i hi
    · show ga (sa q 39 _) 39 t = _
      rw [ga_sae, upd_if]
      by_cases c : t = k
      · rw [if_pos c, c]
      · rw [if_neg c]; exact a3 t (by omega)) (by
    rintro ⟨x, q⟩ ⟨e, a1, a2, a3⟩
    dsimp only at e a1 a2 a3
    subst e
    have hdq : Hd q n v := hd.to (fun i _ _ h _ => a1 i h) a2
    have hF : FI v b W A q q 0 0 := ⟨fun _ _ => rfl, fun _ => rfl, fun t => if t = 0 then b 0 else 1000000, fun t ht => a3 t (by omega), fun t => by
      have := hb2 0 (by decide)
      dsimp only
      split <;> omega, rfl, fun T hT h0 => by
      dsimp only
      rw [if_neg h0]
      exact ⟨Nat.le_refl _, fun s hs hc => absurd hc.2.1 (by omega), Or.inl rfl⟩⟩
    obtain ⟨r', z1, z2, z3⟩ := fill35 ok hdq (fun e he => by rw [a1 40 (by decide)]; exact hb e he) hb2 hW hA (Sub.rf A) hF
    refine ⟨(r', nI (fD v b W A)), ?_, rfl, fun i hi => by dsimp only; rw [z2 i hi, a1 i hi], fun i => by dsimp only; rw [z3, a2]⟩
    show bX10_fill_2 q (nI A) (nI W) (nI (A + 1)) = _
    unfold bX10_fill_2
    rw [if_pos (show nI A < nI (A + 1) from (nI_ltI (by omega) (by omega)).mpr (by omega)), z1]
    rfl) (s0 := ((0 : Int32), r)) ⟨rfl, fun _ _ => rfl, fun _ => rfl, fun t ht => by omega⟩
  obtain ⟨x1, x2⟩ := x
  obtain ⟨b0, b1, b2⟩ := h2
  dsimp only at b0 b1 b2
  subst b0
  exact ⟨x1, h1, b1, b2⟩
/-- the fewest evenings, by the reference -/
def fwM (v : Hv) (W : Nat) : Int32 := if hS v = 0 then nI 0 else if fD v (fun _ => 0) W (2 ^ hS v - 1) < 1000000 then nI (fD v (fun _ => 0) W (2 ^ hS v - 1) / 100 + 1) else -nI 1
theorem fewM {r : Rec} {n : Nat} {v : Hv} (ok : HvOK v) (hd : Hd r n v) {W : Nat} (hW : W ≤ 99) : ∃ r', fX10_fewest r (nI W) = some (r', fwM v W) ∧ (∀ i, i ≠ 39 → i ≠ 40 → ga r' i = ga r i) ∧ (∀ i, gi r' i = gi r i) ∧ ∀ e, e < 10 → ga r' 40 e = nI 0 := by
  have hp1 := p1 (hS v)
  have hpS := pS ok
  have hS10 := ok.2.1
  unfold fX10_fewest
  obtain ⟨x, h1, h2⟩ := iter_loop (step := fun st : Int32 × Rec => bX10_fewest_2 st.2 (nI W) st.1) (fun i st => st.1 = nI i ∧ (∀ k, k ≠ 39 → k ≠ 40 → ga st.2 k = ga r k) ∧ (∀ k, gi st.2 k = gi r k) ∧ ∀ t, t < i → ga st.2 40 t = nI 0) (fun x => x.2 = fwM v W ∧ (∀ i, i ≠ 39 → i ≠ 40 → ga x.1 i = ga r i) ∧ (∀ i, gi x.1 i = gi r i) ∧ ∀ e, e < 10 → ga x.1 40 e = nI 0) 10 (by
    rintro k ⟨x, q⟩ hk ⟨e, a1, a2, a3⟩
    dsimp only at e a1 a2 a3
    subst e
    refine ⟨(nI (k + 1), sa q 40 (upd (ga q 40) k (nI 0))), ?_, rfl, fun i hi h4 => ?_, a2, fun t ht => ?_⟩
    · show bX10_fewest_2 q (nI W) (nI k) = _
      unfold bX10_fewest_2
      simp (disch := omega) only [bd_some, gd_true, inR_nI, nI_clamp, nI_add, pk_mul, pk_sub, leT, leF, ltT, ltF, eqT, eqF, ite_true, ite_false, reduceIte, nz_nI, oc_s, oc_n, pk_div, pk_rem, m1F, L0, L1, L2, L3, L4, L5, L6, L7, L8, L9, L10, L11, L12, L19, L20, L24, L25, L27, L28, L30, L32, L37, L39, L40, L47, L48, L50, L55, L57, L60, L61, L63, L71, L80, L97, L99, L100, L120, L122, L128, L161, L17, L600, L1000000, L1024, L1408, isB0, isB1, subdm, inT, inFl, inFh]
    · show ga (sa q 40 _) i = _
      rw [ga_san h4]; exact a1 i hi h4
    · show ga (sa q 40 _) 40 t = _
      rw [ga_sae, upd_if]
      by_cases c : t = k
      · rw [if_pos c]
      · rw [if_neg c]; exact a3 t (by omega)) (by
    rintro ⟨x, q⟩ ⟨e, a1, a2, a3⟩
    dsimp only at e a1 a2 a3
    subst e
    have hdq : Hd q n v := hd.to (fun i _ _ h h4 => a1 i h h4) a2
    obtain ⟨r', z1, z2, z3⟩ := fill_nI (b := fun _ => 0) (A := 2 ^ hS v - 1) ok hdq a3 (fun _ _ => Nat.zero_le _) hW (by omega)
    have hfD := fD_le (v := v) (b := fun _ => 0) (T := 2 ^ hS v - 1) hW (Nat.zero_le _)
    have e27 : gi r' 27 = nI (hS v) := by rw [z3]; exact hdq.S
    refine ⟨(r', fwM v W), ?_, rfl, fun i hi h4 => by dsimp only; rw [z2 i hi, a1 i hi h4], fun i => by dsimp only; rw [z3, a2], fun e he => by dsimp only; rw [z2 40 (by decide)]; exact a3 e he⟩
    show bX10_fewest_2 q (nI W) (nI 10) = _
    unfold bX10_fewest_2 bX10_fewest_21 fwM
    by_cases c : hS v = 0
    · rw [if_pos c]
      simp (disch := omega) only [everything_nI ok hdq, z1, e27, bd_some, gd_true, inR_nI, nI_clamp, nI_add, pk_mul, pk_sub, leT, leF, ltT, ltF, eqT, eqF, ite_true, ite_false, reduceIte, nz_nI, oc_s, oc_n, pk_div, pk_rem, m1F, L0, L1, L2, L3, L4, L5, L6, L7, L8, L9, L10, L11, L12, L19, L20, L24, L25, L27, L28, L30, L32, L37, L39, L40, L47, L48, L50, L55, L57, L60, L61, L63, L71, L80, L97, L99, L100, L120, L122, L128, L161, L17, L600, L1000000, L1024, L1408, isB0, isB1, subdm, inT, inFl, inFh]
      all_goals rfl
    · rw [if_neg c]
      by_cases c2 : fD v (fun _ => 0) W (2 ^ hS v - 1) < 1000000
      · rw [if_pos c2]
        simp (disch := omega) only [everything_nI ok hdq, z1, e27, bd_some, gd_true, inR_nI, nI_clamp, nI_add, pk_mul, pk_sub, leT, leF, ltT, ltF, eqT, eqF, ite_true, ite_false, reduceIte, nz_nI, oc_s, oc_n, pk_div, pk_rem, m1F, L0, L1, L2, L3, L4, L5, L6, L7, L8, L9, L10, L11, L12, L19, L20, L24, L25, L27, L28, L30, L32, L37, L39, L40, L47, L48, L50, L55, L57, L60, L61, L63, L71, L80, L97, L99, L100, L120, L122, L128, L161, L17, L600, L1000000, L1024, L1408, isB0, isB1, subdm, inT, inFl, inFh]
        all_goals rfl
      · rw [if_neg c2]
        simp (disch := omega) only [everything_nI ok hdq, z1, e27, bd_some, gd_true, inR_nI, nI_clamp, nI_add, pk_mul, pk_sub, leT, leF, ltT, ltF, eqT, eqF, ite_true, ite_false, reduceIte, nz_nI, oc_s, oc_n, pk_div, pk_rem, m1F, L0, L1, L2, L3, L4, L5, L6, L7, L8, L9, L10, L11, L12, L19, L20, L24, L25, L27, L28, L30, L32, L37, L39, L40, L47, L48, L50, L55, L57, L60, L61, L63, L71, L80, L97, L99, L100, L120, L122, L128, L161, L17, L600, L1000000, L1024, L1408, isB0, isB1, subdm, inT, inFl, inFh]
        all_goals rfl) (s0 := ((0 : Int32), r)) ⟨rfl, fun _ _ _ => rfl, fun _ => rfl, fun t ht => by omega⟩
  obtain ⟨x1, x2⟩ := x
  obtain ⟨b0, b1, b2, b3⟩ := h2
  dsimp only at b0 b1 b2 b3
  subst b0
  exact ⟨x1, h1, b1, b2, b3⟩
