theorem L256 : (256 : Int32) = nI 256 := rfl
theorem and_nI (a b : Nat) : nI a &&& nI b = nI (a &&& b) := by
  apply Int32.toBitVec_inj.mp
  apply BitVec.eq_of_toNat_eq
  show ((nI a).toBitVec &&& (nI b).toBitVec).toNat = (nI (a &&& b)).toBitVec.toNat
  rw [BitVec.toNat_and]
  show a % 2 ^ 32 &&& b % 2 ^ 32 = (a &&& b) % 2 ^ 32
  exact (Nat.and_mod_two_pow).symm
theorem subw_nI {a b : Nat} (hb : b ≤ 2 ^ 32) : nI a - nI b = nI (a + (2 ^ 32 - b)) := by
  have h : nI (a + (2 ^ 32 - b)) + nI b = nI a := by
    rw [nI_add]
    apply Int32.toBitVec_inj.mp
    apply BitVec.eq_of_toNat_eq
    show (a + (2 ^ 32 - b) + b) % 2 ^ 32 = a % 2 ^ 32
    rw [show a + (2 ^ 32 - b) + b = a + 2 ^ 32 by omega, Nat.add_mod_right]
  rw [← h, Int32.sub_eq_add_neg, Int32.add_assoc, Int32.add_right_neg, Int32.add_zero]
/-- the next greater set whose members are all open -/
def nx (b o : Nat) : Nat := (b + (2 ^ 32 - o)) &&& o
theorem nx_nI {b o : Nat} (ho : o ≤ 2 ^ 32) : (nI b - nI o) &&& nI o = nI (nx b o) := by rw [subw_nI ho, and_nI]; rfl
def nxOK (o b : Nat) : Bool := !(decide (b &&& o = b) && decide (b < o)) || (decide (b < nx b o) && decide (nx b o &&& o = nx b o) && (List.range (nx b o - b - 1)).all (fun j => decide ((b + 1 + j) &&& o ≠ b + 1 + j)))
theorem nxOK_all : ∀ o, o < 256 → (List.range 256).all (nxOK o) = true := by decide +kernel
theorem nx_spec {o b : Nat} (ho : o < 256) (hs : b &&& o = b) (hb : b < o) : b < nx b o ∧ nx b o &&& o = nx b o ∧ ∀ c, b < c → c < nx b o → c &&& o ≠ c := by
  have h := List.all_eq_true.mp (nxOK_all o ho) b (List.mem_range.mpr (by omega))
  unfold nxOK at h
  rw [decide_eq_true hs, decide_eq_true hb] at h
  simp only [Bool.and_self, Bool.not_true, Bool.false_or, Bool.and_eq_true, decide_eq_true_eq] at h
  refine ⟨h.1.1, h.1.2, fun c h1 h2 => ?_⟩
  have := List.all_eq_true.mp h.2 (c - b - 1) (List.mem_range.mpr (by omega))
  rw [show b + 1 + (c - b - 1) = c by omega] at this
  exact of_decide_eq_true this
theorem andn_0 {a b : Nat} : andn a b = 0 ↔ a &&& b = a := by
  constructor
  · intro h
    apply Nat.eq_of_testBit_eq
    intro i
    have : (andn a b).testBit i = false := by rw [h, Nat.zero_testBit]
    rw [andn_bit] at this
    rw [Nat.testBit_and]
    revert this
    cases a.testBit i <;> cases b.testBit i <;> intro this <;> first | rfl | cases this
  · intro h
    apply Nat.eq_of_testBit_eq
    intro i
    rw [andn_bit, Nat.zero_testBit]
    have : (a &&& b).testBit i = a.testBit i := by rw [h]
    rw [Nat.testBit_and] at this
    revert this
    cases a.testBit i <;> cases b.testBit i <;> intro this <;> first | rfl | cases this
/-! loot -/
def un (v : Hv) (t n : Nat) : Nat := fo (fun p u => u ||| if t.testBit p then hKn v p else 0) 0 n
theorem un_lt {v : Hv} (ok : HvOK v) (t : Nat) : ∀ n, un v t n < 2 ^ hS v
  | 0 => p1 _
  | n + 1 => Nat.or_lt_two_pow (un_lt ok t n) (by
      split
      · exact ok.2.2.2.2.2.1 n
      · exact p1 _)
noncomputable def lo (v : Hv) (t : Nat) : Nat := wof v (clo v 8 (un v t (hP v)))
theorem lo_le {v : Hv} (ok : HvOK v) (t : Nat) : lo v t ≤ 300 := wof_le ok _
theorem spoil_in {g : Gs} {n : Nat} {v : Hv} (ok : HvOK v) (hx : HX (g n) v) {t : Nat} (ht : t < 256) : iter (fun st : Int32 × Int32 => bX7_spoil_15 g n (nI t) st.1 st.2) (nI 0, nI 0) = some (.inl (nI (t + 1), ug g 701 (sa (g 701) 0 (upd (ga (g 701) 0) t (nI (lo v t)))))) := by
  have hP8 := ok.1
  have hpS := pS ok
  refine loopO (step := fun st : Int32 × Int32 => bX7_spoil_15 g n (nI t) st.1 st.2) (fun i => (nI (un v t i), nI i)) (hP v) (fun i hi => ?_) ?_
  · show bX7_spoil_15 g n (nI t) (nI (un v t i)) (nI i) = some (.inl (nI (un v t i ||| if t.testBit i then hKn v i else 0), nI (i + 1)))
    unfold bX7_spoil_15 bX7_spoil_45
    cases c : t.testBit i
    · simp (disch := omega) only [hx.P, hasBit_nI, c, Bool.false_eq_true, or_nI, bd_some, gd_true, inR_nI, nI_clamp, nI_add, pk_mul, pk_sub, leT, leF, ltT, ltF, eqT, eqF, ite_true, ite_false, reduceIte, nz_nI, oc_s, oc_n, pk_div, pk_rem, m1F, L0, L1, L2, L3, L4, L5, L6, L7, L8, L9, L10, L11, L12, L19, L20, L24, L25, L27, L28, L30, L32, L37, L39, L40, L47, L48, L50, L55, L57, L60, L61, L63, L71, L80, L97, L99, L100, L120, L122, L128, L161, L17, L600, L1000000, L1024, L1408, isB0, isB1, subdm, inT, inFl, inFh]
    · simp (disch := omega) only [hx.P, hasBit_nI, c, hx.kn, or_nI, bd_some, gd_true, inR_nI, nI_clamp, nI_add, pk_mul, pk_sub, leT, leF, ltT, ltF, eqT, eqF, ite_true, ite_false, reduceIte, nz_nI, oc_s, oc_n, pk_div, pk_rem, m1F, L0, L1, L2, L3, L4, L5, L6, L7, L8, L9, L10, L11, L12, L19, L20, L24, L25, L27, L28, L30, L32, L37, L39, L40, L47, L48, L50, L55, L57, L60, L61, L63, L71, L80, L97, L99, L100, L120, L122, L128, L161, L17, L600, L1000000, L1024, L1408, isB0, isB1, subdm, inT, inFl, inFh]
  · show bX7_spoil_15 g n (nI t) (nI (un v t (hP v))) (nI (hP v)) = _
    have hu := un_lt ok t (hP v)
    have hc := clo_lt ok (wo := 8) hu
    unfold bX7_spoil_15 bX7_spoil_53
    simp (disch := omega) only [hx.P, closure_nI ok hx Lo.none hu, weightOf_nI ok hx, lo, bd_some, gd_true, inR_nI, nI_clamp, nI_add, pk_mul, pk_sub, leT, leF, ltT, ltF, eqT, eqF, ite_true, ite_false, reduceIte, nz_nI, oc_s, oc_n, pk_div, pk_rem, m1F, L0, L1, L2, L3, L4, L5, L6, L7, L8, L9, L10, L11, L12, L19, L20, L24, L25, L27, L28, L30, L32, L37, L39, L40, L47, L48, L50, L55, L57, L60, L61, L63, L71, L80, L97, L99, L100, L120, L122, L128, L161, L17, L600, L1000000, L1024, L1408, isB0, isB1, subdm, inT, inFl, inFh]
theorem spoil_nI {g : Gs} {n : Nat} {v : Hv} (ok : HvOK v) (hx : HX (g n) v) (hn : n ≠ 701) : ∃ g1, fX7_spoil g n = some g1 ∧ (∀ o, o ≠ 701 → g1 o = g o) ∧ ∀ t, t < 2 ^ hP v → ga (g1 701) 0 t = nI (lo v t) := by
  have hpP := pP ok
  have hp1 := p1 (hP v)
  let st : Nat → Int32 × Gs := fun i => (nI i, fo (fun t g => ug g 701 (sa (g 701) 0 (upd (ga (g 701) 0) t (nI (lo v t))))) g i)
  have hst : ∀ i, (∀ o, o ≠ 701 → (st i).2 o = g o) ∧ ∀ t, t < i → ga ((st i).2 701) 0 t = nI (lo v t) := by
    intro i
    induction i with
    | zero => exact ⟨fun _ _ => rfl, fun t ht => by omega⟩
    | succ i ih =>
      refine ⟨fun o ho => ?_, fun t ht => ?_⟩
      · show ug (st i).2 701 _ o = _
        rw [ug_ne ho]; exact ih.1 o ho
      · show ga (ug (st i).2 701 (sa ((st i).2 701) 0 (upd (ga ((st i).2 701) 0) i (nI (lo v i)))) 701) 0 t = _
        rw [ug_same, ga_sa', if_pos rfl, upd_if]
        by_cases e : t = i
        · rw [if_pos e, e]
        · rw [if_neg e]; exact ih.2 t (by omega)
  refine ⟨(st (2 ^ hP v)).2, ?_, (hst _).1, (hst _).2⟩
  unfold fX7_spoil
  refine loopO (step := fun st : Int32 × Gs => bX7_spoil_2 st.2 n st.1) st (2 ^ hP v) (fun i hi => ?_) ?_
  · show bX7_spoil_2 (st i).2 n (nI i) = some (.inl (nI (i + 1), ug (st i).2 701 (sa ((st i).2 701) 0 (upd (ga ((st i).2 701) 0) i (nI (lo v i))))))
    have hx2 : HX ((st i).2 n) v := by rw [(hst i).1 n hn]; exact hx
    generalize (st i).2 = q at hx2 ⊢
    unfold bX7_spoil_2
    simp (disch := omega) only [allPieces_nI ok hx2, spoil_in ok hx2, bd_some, gd_true, inR_nI, nI_clamp, nI_add, pk_mul, pk_sub, leT, leF, ltT, ltF, eqT, eqF, ite_true, ite_false, reduceIte, nz_nI, oc_s, oc_n, pk_div, pk_rem, m1F, L0, L1, L2, L3, L4, L5, L6, L7, L8, L9, L10, L11, L12, L19, L20, L24, L25, L27, L28, L30, L32, L37, L39, L40, L47, L48, L50, L55, L57, L60, L61, L63, L71, L80, L97, L99, L100, L120, L122, L128, L161, L17, L600, L1000000, L1024, L1408, isB0, isB1, subdm, inT, inFl, inFh]
  · show bX7_spoil_2 (st (2 ^ hP v)).2 n (nI (2 ^ hP v)) = _
    have hx2 : HX ((st (2 ^ hP v)).2 n) v := by rw [(hst _).1 n hn]; exact hx
    unfold bX7_spoil_2
    simp (disch := omega) only [allPieces_nI ok hx2, bd_some, gd_true, inR_nI, nI_clamp, nI_add, pk_mul, pk_sub, leT, leF, ltT, ltF, eqT, eqF, ite_true, ite_false, reduceIte, nz_nI, oc_s, oc_n, pk_div, pk_rem, m1F, L0, L1, L2, L3, L4, L5, L6, L7, L8, L9, L10, L11, L12, L19, L20, L24, L25, L27, L28, L30, L32, L37, L39, L40, L47, L48, L50, L55, L57, L60, L61, L63, L71, L80, L97, L99, L100, L120, L122, L128, L161, L17, L600, L1000000, L1024, L1408, isB0, isB1, subdm, inT, inFl, inFh]
    all_goals rfl
theorem loot_in {r : Rec} {n : Nat} {v : Hv} (ok : HvOK v) (hd : Hd r n v) {t : Nat} (ht : t < 256) : iter (fun st : Int32 × Int32 => bX10_findLoot_16 r (nI t) st.1 st.2) (nI 0, nI 0) = some (.inl (nI (t + 1), sa r 38 (upd (ga r 38) t (nI (lo v t))))) := by
  have hP8 := ok.1
  have hpS := pS ok
  refine loopO (step := fun st : Int32 × Int32 => bX10_findLoot_16 r (nI t) st.1 st.2) (fun i => (nI (un v t i), nI i)) (hP v) (fun i hi => ?_) ?_
  · show bX10_findLoot_16 r (nI t) (nI (un v t i)) (nI i) = some (.inl (nI (un v t i ||| if t.testBit i then hKn v i else 0), nI (i + 1)))
    unfold bX10_findLoot_16 bX10_findLoot_43
    cases c : t.testBit i
    · simp (disch := omega) only [hd.P, has_nI, c, Bool.false_eq_true, or_nI, bd_some, gd_true, inR_nI, nI_clamp, nI_add, pk_mul, pk_sub, leT, leF, ltT, ltF, eqT, eqF, ite_true, ite_false, reduceIte, nz_nI, oc_s, oc_n, pk_div, pk_rem, m1F, L0, L1, L2, L3, L4, L5, L6, L7, L8, L9, L10, L11, L12, L19, L20, L24, L25, L27, L28, L30, L32, L37, L39, L40, L47, L48, L50, L55, L57, L60, L61, L63, L71, L80, L97, L99, L100, L120, L122, L128, L161, L17, L600, L1000000, L1024, L1408, isB0, isB1, subdm, inT, inFl, inFh]
    · simp (disch := omega) only [hd.P, has_nI, c, hd.kn, or_nI, bd_some, gd_true, inR_nI, nI_clamp, nI_add, pk_mul, pk_sub, leT, leF, ltT, ltF, eqT, eqF, ite_true, ite_false, reduceIte, nz_nI, oc_s, oc_n, pk_div, pk_rem, m1F, L0, L1, L2, L3, L4, L5, L6, L7, L8, L9, L10, L11, L12, L19, L20, L24, L25, L27, L28, L30, L32, L37, L39, L40, L47, L48, L50, L55, L57, L60, L61, L63, L71, L80, L97, L99, L100, L120, L122, L128, L161, L17, L600, L1000000, L1024, L1408, isB0, isB1, subdm, inT, inFl, inFh]
  · show bX10_findLoot_16 r (nI t) (nI (un v t (hP v))) (nI (hP v)) = _
    have hu := un_lt ok t (hP v)
    have hc := clo_lt ok (wo := 8) hu
    unfold bX10_findLoot_16 bX10_findLoot_51
    simp (disch := omega) only [hd.P, comesOf_nI ok hd Lo.none hu, weightM_nI ok hd, lo, bd_some, gd_true, inR_nI, nI_clamp, nI_add, pk_mul, pk_sub, leT, leF, ltT, ltF, eqT, eqF, ite_true, ite_false, reduceIte, nz_nI, oc_s, oc_n, pk_div, pk_rem, m1F, L0, L1, L2, L3, L4, L5, L6, L7, L8, L9, L10, L11, L12, L19, L20, L24, L25, L27, L28, L30, L32, L37, L39, L40, L47, L48, L50, L55, L57, L60, L61, L63, L71, L80, L97, L99, L100, L120, L122, L128, L161, L17, L600, L1000000, L1024, L1408, isB0, isB1, subdm, inT, inFl, inFh]
theorem findLoot_nI {r : Rec} {n : Nat} {v : Hv} (ok : HvOK v) (hd : Hd r n v) : ∃ r1, fX10_findLoot r = some r1 ∧ Hd r1 n v ∧ MP r r1 ∧ ∀ t, t < 2 ^ hP v → ga r1 38 t = nI (lo v t) := by
  have hpP := pP ok
  have hP8 := ok.1
  have hp1 := p1 (hP v)
  let st : Nat → Int32 × Rec := fun i => (nI i, fo (fun t r => sa r 38 (upd (ga r 38) t (nI (lo v t)))) r i)
  have hst : ∀ i, (∀ k, k ≠ 38 → ga (st i).2 k = ga r k) ∧ (∀ k, gi (st i).2 k = gi r k) ∧ ∀ t, t < i → ga (st i).2 38 t = nI (lo v t) := by
    intro i
    induction i with
    | zero => exact ⟨fun _ _ => rfl, fun _ => rfl, fun t ht => by omega⟩
    | succ i ih =>
      refine ⟨fun k hk => ?_, fun k => ih.2.1 k, fun t ht => ?_⟩
      · show ga (sa (st i).2 38 _) k = _
        rw [ga_sa', if_neg hk]; exact ih.1 k hk
      · show ga (sa (st i).2 38 (upd (ga (st i).2 38) i (nI (lo v i)))) 38 t = _
        rw [ga_sa', if_pos rfl, upd_if]
        by_cases e : t = i
        · rw [if_pos e, e]
        · rw [if_neg e]; exact ih.2.2 t (by omega)
  have hdk : ∀ i, Hd (st i).2 n v := fun i => hd.keep ((hst i).1 28 (by decide)) ((hst i).1 6 (by decide)) ((hst i).2.1 25) ((hst i).2.1 26) ((hst i).2.1 27)
  have hk := hst (2 ^ hP v)
  refine ⟨(st (2 ^ hP v)).2, ?_, hdk _, ⟨hk.1 1 (by decide), hk.1 2 (by decide), hk.1 3 (by decide), hk.1 4 (by decide), hk.1 5 (by decide), hk.1 6 (by decide), hk.1 7 (by decide), hk.1 8 (by decide), hk.1 9 (by decide), hk.1 48 (by decide)⟩, hk.2.2⟩
  unfold fX10_findLoot
  refine loopO (step := fun st : Int32 × Rec => bX10_findLoot_2 st.2 st.1) st (2 ^ hP v) (fun i hi => ?_) ?_
  · show bX10_findLoot_2 (st i).2 (nI i) = some (.inl (nI (i + 1), sa (st i).2 38 (upd (ga (st i).2 38) i (nI (lo v i)))))
    have hd2 := hdk i
    generalize (st i).2 = q at hd2 ⊢
    unfold bX10_findLoot_2
    simp (disch := omega) only [hd2.P, L31, shl_T, loot_in ok hd2, bd_some, gd_true, inR_nI, nI_clamp, nI_add, pk_mul, pk_sub, leT, leF, ltT, ltF, eqT, eqF, ite_true, ite_false, reduceIte, nz_nI, oc_s, oc_n, pk_div, pk_rem, m1F, L0, L1, L2, L3, L4, L5, L6, L7, L8, L9, L10, L11, L12, L19, L20, L24, L25, L27, L28, L30, L32, L37, L39, L40, L47, L48, L50, L55, L57, L60, L61, L63, L71, L80, L97, L99, L100, L120, L122, L128, L161, L17, L600, L1000000, L1024, L1408, isB0, isB1, subdm, inT, inFl, inFh]
  · show bX10_findLoot_2 (st (2 ^ hP v)).2 (nI (2 ^ hP v)) = _
    have hd2 := hdk (2 ^ hP v)
    unfold bX10_findLoot_2
    simp (disch := omega) only [hd2.P, L31, shl_T, bd_some, gd_true, inR_nI, nI_clamp, nI_add, pk_mul, pk_sub, leT, leF, ltT, ltF, eqT, eqF, ite_true, ite_false, reduceIte, nz_nI, oc_s, oc_n, pk_div, pk_rem, m1F, L0, L1, L2, L3, L4, L5, L6, L7, L8, L9, L10, L11, L12, L19, L20, L24, L25, L27, L28, L30, L32, L37, L39, L40, L47, L48, L50, L55, L57, L60, L61, L63, L71, L80, L97, L99, L100, L120, L122, L128, L161, L17, L600, L1000000, L1024, L1408, isB0, isB1, subdm, inT, inFl, inFh]
    all_goals rfl
/-- the best of the open sets below k -/
def blP (f : Nat → Nat) (o n b s : Nat) : Prop := s &&& o = s ∧ pc s ≤ n ∧ (f b < f s ∨ f s = f b ∧ pc s < pc b)
noncomputable def bl (f : Nat → Nat) (o n k : Nat) : Nat := fo (fun s b => @ite Nat (blP f o n b s) (Classical.propDecidable _) s b) 0 k
theorem bl_pos {f : Nat → Nat} {o n k : Nat} (h : blP f o n (bl f o n k) k) : bl f o n (k + 1) = k := if_pos h
theorem bl_neg {f : Nat → Nat} {o n k : Nat} (h : ¬ blP f o n (bl f o n k) k) : bl f o n (k + 1) = bl f o n k := if_neg h
theorem bl_1 {f : Nat → Nat} {o n : Nat} : bl f o n 1 = 0 := by
  by_cases h : blP f o n (bl f o n 0) 0
  · exact bl_pos h
  · exact bl_neg h
theorem bl_le {f : Nat → Nat} {o n : Nat} : ∀ k, bl f o n k ≤ o ∧ bl f o n k ≤ k
  | 0 => ⟨Nat.zero_le _, Nat.le_refl _⟩
  | k + 1 => by
    have ih := bl_le (f := f) (o := o) (n := n) k
    by_cases h : blP f o n (bl f o n k) k
    · rw [bl_pos h]
      have : k &&& o ≤ o := Nat.and_le_right
      rw [h.1] at this
      omega
    · rw [bl_neg h]
      omega
theorem bl_skip {f : Nat → Nat} {o n a : Nat} : ∀ d, (∀ c, a ≤ c → c < a + d → c &&& o ≠ c) → bl f o n (a + d) = bl f o n a
  | 0, _ => rfl
  | d + 1, h => by
    show bl f o n ((a + d) + 1) = _
    rw [bl_neg (fun q => h (a + d) (by omega) (by omega) q.1)]
    exact bl_skip d (fun c h1 h2 => h c h1 (by omega))
theorem got_nI {g : Gs} {P : Nat} {f : Nat → Nat} (hP : P ≤ 256) (hg : ∀ t, t < P → ga (g 701) 0 t = nI (f t)) {t : Nat} (ht : t < P) : fX7_got g (nI t) = some (nI (f t)) := by
  unfold fX7_got
  simp (disch := omega) only [L256, hg, bd_some, gd_true, inR_nI, nI_clamp, nI_add, pk_mul, pk_sub, leT, leF, ltT, ltF, eqT, eqF, ite_true, ite_false, reduceIte, nz_nI, oc_s, oc_n, pk_div, pk_rem, m1F, L0, L1, L2, L3, L4, L5, L6, L7, L8, L9, L10, L11, L12, L19, L20, L24, L25, L27, L28, L30, L32, L37, L39, L40, L47, L48, L50, L55, L57, L60, L61, L63, L71, L80, L97, L99, L100, L120, L122, L128, L161, L17, L600, L1000000, L1024, L1408, isB0, isB1, subdm, inT, inFl, inFh]
theorem bestPieces_nI {g : Gs} {P : Nat} {f : Nat → Nat} (hP : P ≤ 256) (hg : ∀ t, t < P → ga (g 701) 0 t = nI (f t)) (hf : ∀ t, f t ≤ 300) {o n : Nat} (ho : o < P) (hn : n ≤ 8) : fX7_bestPieces g (nI o) (nI n) = some (nI (bl f o n (o + 1))) := by
  have key : ∀ d b k, b + d = o → b &&& o = b → 1 ≤ k → k ≤ b + 1 → iter (fun st : Int32 × Int32 × Int32 => bX7_bestPieces_8 g (nI o) (nI n) st.1 st.2.1 st.2.2) (nI (bl f o n (b + 1)), nI b, nI k) = some (nI (bl f o n (o + 1))) := by
    intro d
    induction d using Nat.strongRecOn with
    | ind d ih =>
      intro b k hd hs hk1 hk
      have hbl := bl_le (f := f) (o := o) (n := n) (b + 1)
      by_cases h0 : d = 0
      · have : b = o := by omega
        subst this
        refine iter_end ?_
        show bX7_bestPieces_8 g (nI b) (nI n) (nI (bl f b n (b + 1))) (nI b) (nI k) = _
        unfold bX7_bestPieces_8
        by_cases hk256 : k = 256
        · simp (disch := omega) only [L256, bd_some, gd_true, inR_nI, nI_clamp, nI_add, pk_mul, pk_sub, leT, leF, ltT, ltF, eqT, eqF, ite_true, ite_false, reduceIte, nz_nI, oc_s, oc_n, pk_div, pk_rem, m1F, L0, L1, L2, L3, L4, L5, L6, L7, L8, L9, L10, L11, L12, L19, L20, L24, L25, L27, L28, L30, L32, L37, L39, L40, L47, L48, L50, L55, L57, L60, L61, L63, L71, L80, L97, L99, L100, L120, L122, L128, L161, L17, L600, L1000000, L1024, L1408, isB0, isB1, subdm, inT, inFl, inFh]
        · simp (disch := omega) only [L256, bd_some, gd_true, inR_nI, nI_clamp, nI_add, pk_mul, pk_sub, leT, leF, ltT, ltF, eqT, eqF, ite_true, ite_false, reduceIte, nz_nI, oc_s, oc_n, pk_div, pk_rem, m1F, L0, L1, L2, L3, L4, L5, L6, L7, L8, L9, L10, L11, L12, L19, L20, L24, L25, L27, L28, L30, L32, L37, L39, L40, L47, L48, L50, L55, L57, L60, L61, L63, L71, L80, L97, L99, L100, L120, L122, L128, L161, L17, L600, L1000000, L1024, L1408, isB0, isB1, subdm, inT, inFl, inFh]
      · obtain ⟨n1, n2, n3⟩ := nx_spec (o := o) (b := b) (by omega) hs (by omega)
        have n4 : nx b o ≤ o := Nat.and_le_right
        have hsk : bl f o n (nx b o) = bl f o n (b + 1) := by
          have := bl_skip (f := f) (o := o) (n := n) (a := b + 1) (nx b o - (b + 1)) (fun c h1 h2 => n3 c (by omega) (by omega))
          rw [show b + 1 + (nx b o - (b + 1)) = nx b o by omega] at this
          exact this
        have hpc := pc_le (nx b o)
        have hpb := pc_le (bl f o n (b + 1))
        have hf1 := hf (nx b o)
        have hf2 := hf (bl f o n (b + 1))
        have step : bX7_bestPieces_8 g (nI o) (nI n) (nI (bl f o n (b + 1))) (nI b) (nI k) = some (.inl (nI (bl f o n (nx b o + 1)), nI (nx b o), nI (k + 1))) := by
          unfold bX7_bestPieces_8 bX7_bestPieces_83 bX7_bestPieces_86
          rw [nx_nI (by omega)]
          by_cases c1 : pc (nx b o) ≤ n
          · by_cases c2 : f (bl f o n (b + 1)) < f (nx b o)
            · have e : bl f o n (nx b o + 1) = nx b o := bl_pos (by rw [hsk]; exact ⟨n2, c1, Or.inl c2⟩)
              simp (disch := omega) only [L256, bitCount_nI, got_nI hP hg, e, bd_some, gd_true, inR_nI, nI_clamp, nI_add, pk_mul, pk_sub, leT, leF, ltT, ltF, eqT, eqF, ite_true, ite_false, reduceIte, nz_nI, oc_s, oc_n, pk_div, pk_rem, m1F, L0, L1, L2, L3, L4, L5, L6, L7, L8, L9, L10, L11, L12, L19, L20, L24, L25, L27, L28, L30, L32, L37, L39, L40, L47, L48, L50, L55, L57, L60, L61, L63, L71, L80, L97, L99, L100, L120, L122, L128, L161, L17, L600, L1000000, L1024, L1408, isB0, isB1, subdm, inT, inFl, inFh]
            · by_cases c3 : f (nx b o) = f (bl f o n (b + 1))
              · by_cases c4 : pc (nx b o) < pc (bl f o n (b + 1))
                · have e : bl f o n (nx b o + 1) = nx b o := bl_pos (by rw [hsk]; exact ⟨n2, c1, Or.inr ⟨c3, c4⟩⟩)
                  simp (disch := omega) only [L256, bitCount_nI, got_nI hP hg, e, bd_some, gd_true, inR_nI, nI_clamp, nI_add, pk_mul, pk_sub, leT, leF, ltT, ltF, eqT, eqF, ite_true, ite_false, reduceIte, nz_nI, oc_s, oc_n, pk_div, pk_rem, m1F, L0, L1, L2, L3, L4, L5, L6, L7, L8, L9, L10, L11, L12, L19, L20, L24, L25, L27, L28, L30, L32, L37, L39, L40, L47, L48, L50, L55, L57, L60, L61, L63, L71, L80, L97, L99, L100, L120, L122, L128, L161, L17, L600, L1000000, L1024, L1408, isB0, isB1, subdm, inT, inFl, inFh]
                · have e : bl f o n (nx b o + 1) = bl f o n (b + 1) := by rw [← hsk]; exact bl_neg (by rw [hsk]; exact fun q => q.2.2.elim (fun q => c2 q) (fun q => c4 q.2))
                  simp (disch := omega) only [L256, bitCount_nI, got_nI hP hg, e, bd_some, gd_true, inR_nI, nI_clamp, nI_add, pk_mul, pk_sub, leT, leF, ltT, ltF, eqT, eqF, ite_true, ite_false, reduceIte, nz_nI, oc_s, oc_n, pk_div, pk_rem, m1F, L0, L1, L2, L3, L4, L5, L6, L7, L8, L9, L10, L11, L12, L19, L20, L24, L25, L27, L28, L30, L32, L37, L39, L40, L47, L48, L50, L55, L57, L60, L61, L63, L71, L80, L97, L99, L100, L120, L122, L128, L161, L17, L600, L1000000, L1024, L1408, isB0, isB1, subdm, inT, inFl, inFh]
              · have e : bl f o n (nx b o + 1) = bl f o n (b + 1) := by rw [← hsk]; exact bl_neg (by rw [hsk]; exact fun q => q.2.2.elim (fun q => c2 q) (fun q => c3 q.1))
                simp (disch := omega) only [L256, bitCount_nI, got_nI hP hg, e, bd_some, gd_true, inR_nI, nI_clamp, nI_add, pk_mul, pk_sub, leT, leF, ltT, ltF, eqT, eqF, ite_true, ite_false, reduceIte, nz_nI, oc_s, oc_n, pk_div, pk_rem, m1F, L0, L1, L2, L3, L4, L5, L6, L7, L8, L9, L10, L11, L12, L19, L20, L24, L25, L27, L28, L30, L32, L37, L39, L40, L47, L48, L50, L55, L57, L60, L61, L63, L71, L80, L97, L99, L100, L120, L122, L128, L161, L17, L600, L1000000, L1024, L1408, isB0, isB1, subdm, inT, inFl, inFh]
          · have e : bl f o n (nx b o + 1) = bl f o n (b + 1) := by rw [← hsk]; exact bl_neg (fun q => c1 q.2.1)
            simp (disch := omega) only [L256, bitCount_nI, e, bd_some, gd_true, inR_nI, nI_clamp, nI_add, pk_mul, pk_sub, leT, leF, ltT, ltF, eqT, eqF, ite_true, ite_false, reduceIte, nz_nI, oc_s, oc_n, pk_div, pk_rem, m1F, L0, L1, L2, L3, L4, L5, L6, L7, L8, L9, L10, L11, L12, L19, L20, L24, L25, L27, L28, L30, L32, L37, L39, L40, L47, L48, L50, L55, L57, L60, L61, L63, L71, L80, L97, L99, L100, L120, L122, L128, L161, L17, L600, L1000000, L1024, L1408, isB0, isB1, subdm, inT, inFl, inFh]
        rw [iter_step (s := (nI (bl f o n (b + 1)), nI b, nI k)) (s' := (nI (bl f o n (nx b o + 1)), nI (nx b o), nI (k + 1))) step]
        exact ih (o - nx b o) (by omega) (nx b o) (k + 1) (by omega) n2 (by omega) (by omega)
  have h := key o 0 1 (by omega) (Nat.zero_and o) (by omega) (by omega)
  rw [show (0 : Nat) + 1 = 1 from rfl, bl_1] at h
  exact h
theorem bestLoot_nI {r : Rec} {m : Nat} {v : Hv} (ok : HvOK v) (hd : Hd r m v) {f : Nat → Nat} (hg : ∀ t, t < 2 ^ hP v → ga r 38 t = nI (f t)) (hf : ∀ t, f t ≤ 300) {o n : Nat} (ho : o < 2 ^ hP v) (hn : n ≤ 8) : fX10_bestLoot r (nI o) (nI n) = some (nI (bl f o n (o + 1))) := by
  have hpP := pP ok
  have hP8 := ok.1
  have hp1 := p1 (hP v)
  have e0 : bl f o n (o + 1) = bl f o n (2 ^ hP v) := by
    have := bl_skip (f := f) (o := o) (n := n) (a := o + 1) (2 ^ hP v - (o + 1)) (fun c h1 h2 q => by
      have : c &&& o ≤ o := Nat.and_le_right
      omega)
    rw [show o + 1 + (2 ^ hP v - (o + 1)) = 2 ^ hP v by omega] at this
    exact this.symm
  rw [e0]
  unfold fX10_bestLoot
  have e1 : ((0 : Int32), (1 : Int32)) = (fun i => (nI (bl f o n i), nI i)) 1 := by
    show _ = (nI (bl f o n 1), nI 1)
    rw [bl_1]
    rfl
  rw [e1]
  refine loopA (step := fun st : Int32 × Int32 => bX10_bestLoot_5 r (nI o) (nI n) st.1 st.2) (fun i => (nI (bl f o n i), nI i)) 1 (2 ^ hP v) hp1 (fun i hi1 hi => ?_) ?_
  · show bX10_bestLoot_5 r (nI o) (nI n) (nI (bl f o n i)) (nI i) = some (.inl (nI (bl f o n (i + 1)), nI (i + 1)))
    have hbl := bl_le (f := f) (o := o) (n := n) i
    have hpc := pc_le i
    have hpb := pc_le (bl f o n i)
    have hf1 := hf i
    have hf2 := hf (bl f o n i)
    unfold bX10_bestLoot_5 bX10_bestLoot_38 bX10_bestLoot_39 bX10_bestLoot_85 bX10_bestLoot_89 bX10_bestLoot_90 bX10_bestLoot_107 bX10_bestLoot_108
    by_cases c0 : i &&& o = i
    · have c0' : andn i o = 0 := andn_0.mpr c0
      by_cases c1 : pc i ≤ n
      · by_cases c2 : f (bl f o n i) < f i
        · have e : bl f o n (i + 1) = i := bl_pos ⟨c0, c1, Or.inl c2⟩
          simp (disch := omega) only [hd.P, L31, shl_T, andn_nI, c0', ones_nI, L256, hg, e, bd_some, gd_true, inR_nI, nI_clamp, nI_add, pk_mul, pk_sub, leT, leF, ltT, ltF, eqT, eqF, ite_true, ite_false, reduceIte, nz_nI, oc_s, oc_n, pk_div, pk_rem, m1F, L0, L1, L2, L3, L4, L5, L6, L7, L8, L9, L10, L11, L12, L19, L20, L24, L25, L27, L28, L30, L32, L37, L39, L40, L47, L48, L50, L55, L57, L60, L61, L63, L71, L80, L97, L99, L100, L120, L122, L128, L161, L17, L600, L1000000, L1024, L1408, isB0, isB1, subdm, inT, inFl, inFh]
        · by_cases c3 : f i = f (bl f o n i)
          · by_cases c4 : pc i < pc (bl f o n i)
            · have e : bl f o n (i + 1) = i := bl_pos ⟨c0, c1, Or.inr ⟨c3, c4⟩⟩
              simp (disch := omega) only [hd.P, L31, shl_T, andn_nI, c0', ones_nI, L256, hg, e, bd_some, gd_true, inR_nI, nI_clamp, nI_add, pk_mul, pk_sub, leT, leF, ltT, ltF, eqT, eqF, ite_true, ite_false, reduceIte, nz_nI, oc_s, oc_n, pk_div, pk_rem, m1F, L0, L1, L2, L3, L4, L5, L6, L7, L8, L9, L10, L11, L12, L19, L20, L24, L25, L27, L28, L30, L32, L37, L39, L40, L47, L48, L50, L55, L57, L60, L61, L63, L71, L80, L97, L99, L100, L120, L122, L128, L161, L17, L600, L1000000, L1024, L1408, isB0, isB1, subdm, inT, inFl, inFh]
            · have e : bl f o n (i + 1) = bl f o n i := bl_neg (fun q => q.2.2.elim (fun q => c2 q) (fun q => c4 q.2))
              simp (disch := omega) only [hd.P, L31, shl_T, andn_nI, c0', ones_nI, L256, hg, e, bd_some, gd_true, inR_nI, nI_clamp, nI_add, pk_mul, pk_sub, leT, leF, ltT, ltF, eqT, eqF, ite_true, ite_false, reduceIte, nz_nI, oc_s, oc_n, pk_div, pk_rem, m1F, L0, L1, L2, L3, L4, L5, L6, L7, L8, L9, L10, L11, L12, L19, L20, L24, L25, L27, L28, L30, L32, L37, L39, L40, L47, L48, L50, L55, L57, L60, L61, L63, L71, L80, L97, L99, L100, L120, L122, L128, L161, L17, L600, L1000000, L1024, L1408, isB0, isB1, subdm, inT, inFl, inFh]
          · have e : bl f o n (i + 1) = bl f o n i := bl_neg (fun q => q.2.2.elim (fun q => c2 q) (fun q => c3 q.1))
            simp (disch := omega) only [hd.P, L31, shl_T, andn_nI, c0', ones_nI, L256, hg, e, bd_some, gd_true, inR_nI, nI_clamp, nI_add, pk_mul, pk_sub, leT, leF, ltT, ltF, eqT, eqF, ite_true, ite_false, reduceIte, nz_nI, oc_s, oc_n, pk_div, pk_rem, m1F, L0, L1, L2, L3, L4, L5, L6, L7, L8, L9, L10, L11, L12, L19, L20, L24, L25, L27, L28, L30, L32, L37, L39, L40, L47, L48, L50, L55, L57, L60, L61, L63, L71, L80, L97, L99, L100, L120, L122, L128, L161, L17, L600, L1000000, L1024, L1408, isB0, isB1, subdm, inT, inFl, inFh]
      · have e : bl f o n (i + 1) = bl f o n i := bl_neg (fun q => c1 q.2.1)
        simp (disch := omega) only [hd.P, L31, shl_T, andn_nI, c0', ones_nI, L256, hg, e, ite_self, bd_some, gd_true, inR_nI, nI_clamp, nI_add, pk_mul, pk_sub, leT, leF, ltT, ltF, eqT, eqF, ite_true, ite_false, reduceIte, nz_nI, oc_s, oc_n, pk_div, pk_rem, m1F, L0, L1, L2, L3, L4, L5, L6, L7, L8, L9, L10, L11, L12, L19, L20, L24, L25, L27, L28, L30, L32, L37, L39, L40, L47, L48, L50, L55, L57, L60, L61, L63, L71, L80, L97, L99, L100, L120, L122, L128, L161, L17, L600, L1000000, L1024, L1408, isB0, isB1, subdm, inT, inFl, inFh]
    · have c0' : ¬ andn i o = 0 := fun q => c0 (andn_0.mp q)
      have c0'' : andn i o ≤ i := Nat.and_le_left
      have e : bl f o n (i + 1) = bl f o n i := bl_neg (fun q => c0 q.1)
      simp (disch := omega) only [hd.P, L31, shl_T, andn_nI, ones_nI, L256, hg, e, ite_self, bd_some, gd_true, inR_nI, nI_clamp, nI_add, pk_mul, pk_sub, leT, leF, ltT, ltF, eqT, eqF, ite_true, ite_false, reduceIte, nz_nI, oc_s, oc_n, pk_div, pk_rem, m1F, L0, L1, L2, L3, L4, L5, L6, L7, L8, L9, L10, L11, L12, L19, L20, L24, L25, L27, L28, L30, L32, L37, L39, L40, L47, L48, L50, L55, L57, L60, L61, L63, L71, L80, L97, L99, L100, L120, L122, L128, L161, L17, L600, L1000000, L1024, L1408, isB0, isB1, subdm, inT, inFl, inFh]
  · show bX10_bestLoot_5 r (nI o) (nI n) _ (nI (2 ^ hP v)) = _
    unfold bX10_bestLoot_5
    simp (disch := omega) only [hd.P, L31, shl_T, bd_some, gd_true, inR_nI, nI_clamp, nI_add, pk_mul, pk_sub, leT, leF, ltT, ltF, eqT, eqF, ite_true, ite_false, reduceIte, nz_nI, oc_s, oc_n, pk_div, pk_rem, m1F, L0, L1, L2, L3, L4, L5, L6, L7, L8, L9, L10, L11, L12, L19, L20, L24, L25, L27, L28, L30, L32, L37, L39, L40, L47, L48, L50, L55, L57, L60, L61, L63, L71, L80, L97, L99, L100, L120, L122, L128, L161, L17, L600, L1000000, L1024, L1408, isB0, isB1, subdm, inT, inFl, inFh]
    all_goals rfl
