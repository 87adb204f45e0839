theorem si_si2 (r : Rec) (k : Nat) (a b : Int32) : si (si r k a) k b = si r k b := by
  have e : (fun j => if j = k then b else if j = k then a else r.1 j) = (fun j => if j = k then b else r.1 j) := by
    funext j
    by_cases c : j = k
    · rw [if_pos c, if_pos c]
    · rw [if_neg c, if_neg c, if_neg c]
  show ((fun j => if j = k then b else if j = k then a else r.1 j), r.2) = ((fun j => if j = k then b else r.1 j), r.2)
  rw [e]
theorem sk_stop {P : Nat → Bool} {u : Nat → Nat} : ∀ m i, sk P u m i < i + m → P (u (sk P u m i)) = false
  | 0, i, h => by have h : i < i + 0 := h; omega
  | m + 1, i, h => by
    by_cases c : P (u i) = true
    · have e : sk P u (m + 1) i = sk P u m (i + 1) := if_pos c
      rw [e] at h ⊢
      exact sk_stop m (i + 1) (by omega)
    · have e : sk P u (m + 1) i = i := if_neg c
      rw [e]
      cases d : P (u i)
      · rfl
      · exact absurd d c
def pkw (u : Nat → Nat) (s : Nat) : Nat → Nat
  | 0 => 0
  | m + 1 => pkw u s m * 256 + u (s + m)
def nvF (u : Nat → Nat) (s : Nat) : Nat → Nat
  | 0 => 0
  | m + 1 => nvF u s m * 10 + (u (s + m) - 48)
theorem pkw_lt {u : Nat → Nat} {s : Nat} (h : ∀ j, u j < 256) : ∀ m, pkw u s m < 256 ^ m
  | 0 => by show 0 < 1; omega
  | m + 1 => by
    have h1 := pkw_lt (s := s) h m
    have h2 := h (s + m)
    show pkw u s m * 256 + u (s + m) < 256 ^ (m + 1)
    rw [Nat.pow_succ]
    omega
theorem shl8 {a c : Nat} (ha : a < 2 ^ 56) (hc : c < 256) : (lN a <<< ((8 : Int32).toInt64 &&& 63)) ||| lN c = lN (a * 256 + c) := by
  have e8 : ((8 : Int32).toInt64 &&& 63) = 8 := by decide
  have e : ((8 : Int64).toBitVec.smod 64) = 8#64 := by decide
  rw [e8]
  apply Int64.toBitVec_inj.mp
  apply BitVec.eq_of_toNat_eq
  show ((BitVec.ofNat 64 a <<< ((8 : Int64).toBitVec.smod 64)) ||| BitVec.ofNat 64 c).toNat = (BitVec.ofNat 64 (a * 256 + c)).toNat
  rw [e, BitVec.shiftLeft_eq', BitVec.toNat_or, BitVec.toNat_shiftLeft, BitVec.toNat_ofNat, BitVec.toNat_ofNat, BitVec.toNat_ofNat, BitVec.toNat_ofNat, Nat.shiftLeft_eq]
  have e3 : 8 % 2 ^ 64 = 8 := by decide
  rw [e3, Nat.mod_eq_of_lt (show a < 2 ^ 64 by omega), Nat.mod_eq_of_lt (show c < 2 ^ 64 by omega), Nat.mod_eq_of_lt (show a * 2 ^ 8 < 2 ^ 64 by omega), Nat.mod_eq_of_lt (show a * 256 + c < 2 ^ 64 by omega)]
  have h := Nat.two_pow_add_eq_or_of_lt (i := 8) (b := c) (by omega) a
  rw [Nat.mul_comm a (2 ^ 8), ← h]
theorem lN_big {a b : Nat} (ha : a < 2 ^ 64) (hb : b < 2 ^ 64) : lN a = lN b ↔ a = b := by
  constructor
  · intro h
    have h1 : (lN a).toBitVec.toNat = (lN b).toBitVec.toNat := by rw [h]
    have e : ∀ c : Nat, (lN c).toBitVec.toNat = c % 2 ^ 64 := fun c => BitVec.toNat_ofNat c 64
    rw [e, e, Nat.mod_eq_of_lt ha, Nat.mod_eq_of_lt hb] at h1
    exact h1
  · intro h; rw [h]
theorem lg_cmp0 {x y : Int64} : lg_cmp x y = 0 ↔ x = y := by
  unfold lg_cmp
  by_cases c : x > y
  · rw [if_pos c]
    constructor
    · intro h; exact absurd h (by decide)
    · intro h
      rw [h] at c
      have c : y < y := c
      rw [Int64.lt_iff_toInt_lt] at c
      omega
  · rw [if_neg c]
    by_cases d : x = y
    · rw [if_pos d]; exact ⟨fun _ => d, fun _ => rfl⟩
    · rw [if_neg d]; exact ⟨fun h => absurd h (by decide), fun h => absurd h d⟩
/-- the reference holds a tape -/
def MTp (r : Rec) (u : Nat → Nat) (n : Nat) : Prop := n ≤ 600 ∧ gi r 11 = nI n ∧ (∀ j, u j < 256) ∧ ∀ j, j < n → ub (ga r 1 j) = u j
theorem MTp.to {r r' : Rec} {u : Nat → Nat} {n : Nat} (h : MTp r u n) (h1 : gi r' 11 = gi r 11) (h2 : ga r' 1 = ga r 1) : MTp r' u n := ⟨h.1, h1.trans h.2.1, h.2.2.1, by rw [h2]; exact h.2.2.2⟩
theorem seeT {r : Rec} {u : Nat → Nat} {n i : Nat} (h : MTp r u n) (h10 : gi r 10 = nI i) (hi : i < n) : fX10_see r = some (nI (u i)) := by
  obtain ⟨h1, h2, -, h3⟩ := h
  have e := h3 i hi
  unfold fX10_see
  rw [h10, h2, if_neg (show ¬ nI n ≤ nI i from fun q => by have := (nI_leI (by omega) (by omega)).mp q; omega), inR_nI (show i < 2400 by omega) (by decide), gd_true, nI_clamp (by omega), and255, e]
theorem seeF {r : Rec} {u : Nat → Nat} {n i : Nat} (h : MTp r u n) (h10 : gi r 10 = nI i) (hi : n ≤ i) (hi2 : i < 2 ^ 31) : fX10_see r = some (-nI 1) := by
  obtain ⟨h1, h2, -, h3⟩ := h
  unfold fX10_see
  rw [h10, h2, if_pos (nI_le hi (by omega))]
  rfl
theorem in_m1 {a b : Nat} (ha : a < 2 ^ 31) : fX10_in (-nI 1) (nI a) (nI b) = some (nI 0) := in_neg (show -nI 1 < 0 by decide) ha
theorem in97T {c : Nat} (h : isLt c = true) : fX10_in (nI c) (nI 97) (nI 122) = some (nI 1) := by
  have := isLt_iff.mp h
  exact inT this.1 this.2 (by decide)
theorem in97F {c : Nat} (h : ¬ isLt c = true) (hc : c < 256) : fX10_in (nI c) (nI 97) (nI 122) = some (nI 0) := by
  have h : ¬ (97 ≤ c ∧ c ≤ 122) := fun z => h (isLt_iff.mpr z)
  by_cases z : c < 97
  · exact inFl z (by decide)
  · exact inFh (by omega) (by omega)
theorem in48T {c : Nat} (h : isDg c = true) : fX10_in (nI c) (nI 48) (nI 57) = some (nI 1) := by
  have := isDg_iff.mp h
  exact inT this.1 this.2 (by decide)
theorem in48F {c : Nat} (h : ¬ isDg c = true) (hc : c < 256) : fX10_in (nI c) (nI 48) (nI 57) = some (nI 0) := by
  have h : ¬ (48 ≤ c ∧ c ≤ 57) := fun z => h (isDg_iff.mpr z)
  by_cases z : c < 48
  · exact inFl z (by decide)
  · exact inFh (by omega) (by omega)
/-- the reference's sort of a token -/
def rk (k : Nat) : Nat := if k = 0 then 0 else if k = 1 then 2 else if k = 2 then 3 else if k = 3 then 4 else 1
theorem tokM_0 {r : Rec} {u : Nat → Nat} {n : Nat} (h : MTp r u n) : ∀ m i, i + m = n → iter (fun st : Rec => bX10_token_0 st) (si r 10 (nI i)) = bX10_token_31 (si r 10 (nI (sk isBl u m i))) := by
  intro m
  induction m with
  | zero =>
    intro i hi
    have hn := h.1
    have hs := seeF (r := si r 10 (nI i)) (h.to rfl rfl) rfl (show n ≤ i by omega) (by omega)
    refine iter_out (step := fun st : Rec => bX10_token_0 st) (s := si r 10 (nI i)) ?_
    show bX10_token_0 (si r 10 (nI i)) = out1 (bX10_token_31 (si r 10 (nI i)))
    unfold bX10_token_0
    rw [hs, bd_some, if_neg (show ¬ -nI 1 = 10 by decide), bd_some, if_neg (show ¬ -nI 1 = 32 by decide)]
  | succ m ih =>
    intro i hi
    have hn := h.1
    have hu := h.2.2.1 i
    have hs := seeT (r := si r 10 (nI i)) (h.to rfl rfl) rfl (show i < n by omega)
    by_cases q : isBl (u i) = true
    · have e : sk isBl u (m + 1) i = sk isBl u m (i + 1) := if_pos q
      rw [e, iter_step (step := fun st : Rec => bX10_token_0 st) (s := si r 10 (nI i)) (s' := si r 10 (nI (i + 1))) (by
        show bX10_token_0 (si r 10 (nI i)) = _
        have e18 : bX10_token_18 (si r 10 (nI i)) = some (.inl (si r 10 (nI (i + 1)))) := by
          unfold bX10_token_18
          rw [bd_some, gi_sie, nI_1, si_si2]
        unfold bX10_token_0
        rw [hs, bd_some, bd_some]
        rcases isBl_iff.mp q with z | z
        · rw [if_pos (show nI (u i) = 10 by rw [z]; rfl), e18]
        · rw [if_neg (show ¬ nI (u i) = 10 by rw [z]; decide), if_pos (show nI (u i) = 32 by rw [z]; rfl), e18])]
      exact ih (i + 1) (by omega)
    · have e : sk isBl u (m + 1) i = i := if_neg q
      have q : ¬ (u i = 10 ∨ u i = 32) := fun z => q (isBl_iff.mpr z)
      rw [e]
      refine iter_out (step := fun st : Rec => bX10_token_0 st) (s := si r 10 (nI i)) ?_
      show bX10_token_0 (si r 10 (nI i)) = _
      unfold bX10_token_0
      rw [hs, bd_some, bd_some, if_neg (show ¬ nI (u i) = 10 from fun z => q (Or.inl ((nI_eq (b := 10) (by omega) (by decide)).mp z))), if_neg (show ¬ nI (u i) = 32 from fun z => q (Or.inr ((nI_eq (b := 32) (by omega) (by decide)).mp z)))]
/-- what a token leaves: reached, begins, sort, value, word; all else as it was -/
def TkM (r r' : Rec) (u : Nat → Nat) (n i : Nat) : Prop := gi r' 10 = nI (tke u n i) ∧ gi r' 12 = nI (tks u n i) ∧ gi r' 13 = nI (rk (tkk u n i)) ∧ (tkk u n i = 2 → gi r' 14 = nI (nvF u (tks u n i) (tke u n i - tks u n i))) ∧ (tkk u n i = 1 → gl r' 15 = lN (if tke u n i - tks u n i ≤ 8 then pkw u (tks u n i) (tke u n i - tks u n i) else 0)) ∧ (∀ k, k ≠ 10 → k ≠ 12 → k ≠ 13 → k ≠ 14 → gi r' k = gi r k) ∧ ∀ k, ga r' k = ga r k
theorem tokM_74 {r : Rec} {u : Nat → Nat} {n s : Nat} (h : MTp r u n) (h10 : gi r 10 = nI s) (hl : gl r 15 = lN 0) (hs : s < n) : ∃ r', iter (fun st : Int32 × Rec => bX10_token_74 st.2 st.1) (nI 0, r) = some r' ∧ gi r' 10 = nI (sk isLt u (n - s) s) ∧ gi r' 13 = nI 2 ∧ gl r' 15 = lN (if sk isLt u (n - s) s - s ≤ 8 then pkw u s (sk isLt u (n - s) s - s) else 0) ∧ (∀ k, k ≠ 10 → k ≠ 13 → gi r' k = gi r k) ∧ ∀ k, ga r' k = ga r k := by
  have hn := h.1
  have hu := h.2.2.1
  obtain ⟨b1, b2, b3⟩ := sk_b (P := isLt) (u := u) (n - s) s
  have b4 := sk_stop (P := isLt) (u := u) (n - s) s
  obtain ⟨e, he⟩ : ∃ e, e = sk isLt u (n - s) s := ⟨_, rfl⟩
  rw [← he] at b1 b2 b3 b4 ⊢
  refine iter_loop (step := fun st : Int32 × Rec => bX10_token_74 st.2 st.1) (fun j st => st.1 = nI j ∧ gi st.2 10 = nI (s + j) ∧ (j ≤ 8 → gl st.2 15 = lN (pkw u s j)) ∧ (∀ k, k ≠ 10 → gi st.2 k = gi r k) ∧ ∀ k, ga st.2 k = ga r k) (fun r' => gi r' 10 = nI e ∧ gi r' 13 = nI 2 ∧ gl r' 15 = lN (if e - s ≤ 8 then pkw u s (e - s) else 0) ∧ (∀ k, k ≠ 10 → k ≠ 13 → gi r' k = gi r k) ∧ ∀ k, ga r' k = ga r k) (e - s) ?_ ?_ (s0 := (nI 0, r)) ⟨rfl, h10, fun _ => hl, fun _ _ => rfl, fun _ => rfl⟩
  · rintro j ⟨y, q⟩ hj ⟨c1, c2, c3, c4, c5⟩
    dsimp only at c1 c2 c3 c4 c5
    subst c1
    have hq : MTp q u n := h.to (c4 11 (by decide)) (c5 1)
    have hsee := seeT hq c2 (show s + j < n by omega)
    have hlt := b3 (s + j) (by omega) (by omega)
    have hin := in97T hlt
    have huj := hu (s + j)
    refine ⟨(nI (j + 1), si (sl q 15 (((gl q 15) <<< ((8 : Int32).toInt64 &&& 63)) ||| ((nI (u (s + j))).toInt64))) 10 (nI (s + (j + 1)))), ?_, rfl, ?_, fun hj8 => ?_, fun k hk => ?_, c5⟩
    · show bX10_token_74 q (nI j) = _
      unfold bX10_token_74
      rw [hsee, bd_some, show fX10_in (nI (u (s + j))) 97 122 = some (nI 1) from hin, bd_some, if_neg (show ¬ nI 1 = 0 by decide), bd_some, bd_some, bd_some, gi_sl, c2, nI_1, nI_1]
      rfl
    · dsimp only
      rw [gi_sie]
    · dsimp only
      have hj8 : j + 1 ≤ 8 := hj8
      rw [gl_si, gl_sl, if_pos rfl, c3 (by omega), nI_l (by omega)]
      have hp := pkw_lt (s := s) hu j
      have hp2 : 256 ^ j ≤ 256 ^ 7 := Nat.pow_le_pow_right (by decide) (by omega)
      exact shl8 (Nat.lt_of_lt_of_le hp (by have : (256 : Nat) ^ 7 = 2 ^ 56 := by decide
                                            omega)) huj
    · dsimp only
      rw [gi_sin hk, gi_sl]; exact c4 k hk
  · rintro ⟨y, q⟩ ⟨c1, c2, c3, c4, c5⟩
    dsimp only at c1 c2 c3 c4 c5
    subst c1
    have hq : MTp q u n := h.to (c4 11 (by decide)) (c5 1)
    rw [show s + (e - s) = e by omega] at c2
    have hstop : bX10_token_74 q (nI (e - s)) = out1 (bX10_token_121 q (nI (e - s))) := by
      unfold bX10_token_74
      by_cases c : e < n
      · have hsee := seeT hq c2 c
        have hf := b4 (by omega)
        have hin := in97F (c := u e) (by rw [hf]; decide) (hu e)
        rw [hsee, bd_some, show fX10_in (nI (u e)) 97 122 = some (nI 0) from hin, bd_some, if_pos (show nI 0 = 0 from rfl)]
      · have hsee := seeF hq c2 (by omega) (by omega)
        rw [hsee, bd_some, show fX10_in (-nI 1) 97 122 = some (nI 0) from in_m1 (by decide), bd_some, if_pos (show nI 0 = 0 from rfl)]
    have fin : ∀ x : Int64, bX10_token_121 q (nI (e - s)) = bX10_token_136 q x → x = lN (if e - s ≤ 8 then pkw u s (e - s) else 0) → ∃ r', bX10_token_74 q (nI (e - s)) = some (.inr r') ∧ gi r' 10 = nI e ∧ gi r' 13 = nI 2 ∧ gl r' 15 = lN (if e - s ≤ 8 then pkw u s (e - s) else 0) ∧ (∀ k, k ≠ 10 → k ≠ 13 → gi r' k = gi r k) ∧ ∀ k, ga r' k = ga r k := by
      intro x h1 h2
      refine ⟨si (sl q 15 x) 13 (nI 2), ?_, ?_, ?_, ?_, fun k k1 k2 => ?_, c5⟩
      · rw [hstop, h1]; rfl
      · rw [gi_sin (by decide), gi_sl]; exact c2
      · rw [gi_sie]
      · rw [gl_si, gl_sl, if_pos rfl, h2]
      · rw [gi_sin k2, gi_sl]; exact c4 k k1
    by_cases c8 : e - s ≤ 8
    · exact fin (gl q 15) (by
        unfold bX10_token_121
        rw [if_pos (show nI (e - s) ≤ 8 from (nI_leI (b := 8) (by omega) (by decide)).mpr c8)]) (by rw [if_pos c8]; exact c3 c8)
    · exact fin 0 (by
        unfold bX10_token_121
        rw [if_neg (show ¬ nI (e - s) ≤ 8 from fun z => c8 ((nI_leI (b := 8) (by omega) (by decide)).mp z))]) (by rw [if_neg c8]; rfl)
theorem tokM_163 {r : Rec} {u : Nat → Nat} {n s : Nat} (h : MTp r u n) (h10 : gi r 10 = nI s) (h14 : gi r 14 = nI 0) (hs : s < n) : ∃ r', iter (fun st : Int32 × Rec => bX10_token_163 st.2 st.1) (nI 0, r) = some r' ∧ gi r' 10 = nI (sk isDg u (n - s) s) ∧ gi r' 13 = nI (if sk isDg u (n - s) s - s ≤ 2 then 3 else 1) ∧ (sk isDg u (n - s) s - s ≤ 2 → gi r' 14 = nI (nvF u s (sk isDg u (n - s) s - s))) ∧ (∀ k, k ≠ 10 → k ≠ 13 → k ≠ 14 → gi r' k = gi r k) ∧ ∀ k, ga r' k = ga r k := by
  have hn := h.1
  have hu := h.2.2.1
  obtain ⟨b1, b2, b3⟩ := sk_b (P := isDg) (u := u) (n - s) s
  have b4 := sk_stop (P := isDg) (u := u) (n - s) s
  obtain ⟨e, he⟩ : ∃ e, e = sk isDg u (n - s) s := ⟨_, rfl⟩
  rw [← he] at b1 b2 b3 b4 ⊢
  refine iter_loop (step := fun st : Int32 × Rec => bX10_token_163 st.2 st.1) (fun j st => st.1 = nI j ∧ gi st.2 10 = nI (s + j) ∧ gi st.2 14 = nI (nvF u s (min j 2)) ∧ (∀ k, k ≠ 10 → k ≠ 14 → gi st.2 k = gi r k) ∧ ∀ k, ga st.2 k = ga r k) (fun r' => gi r' 10 = nI e ∧ gi r' 13 = nI (if e - s ≤ 2 then 3 else 1) ∧ (e - s ≤ 2 → gi r' 14 = nI (nvF u s (e - s))) ∧ (∀ k, k ≠ 10 → k ≠ 13 → k ≠ 14 → gi r' k = gi r k) ∧ ∀ k, ga r' k = ga r k) (e - s) ?_ ?_ (s0 := (nI 0, r)) ⟨rfl, h10, h14, fun _ _ _ => rfl, fun _ => rfl⟩
  · rintro j ⟨y, q⟩ hj ⟨c1, c2, c3, c4, c5⟩
    dsimp only at c1 c2 c3 c4 c5
    subst c1
    have hq : MTp q u n := h.to (c4 11 (by decide) (by decide)) (c5 1)
    have hsee := seeT hq c2 (show s + j < n by omega)
    have hdg := b3 (s + j) (by omega) (by omega)
    have hin := in48T hdg
    have hd2 := isDg_iff.mp hdg
    refine ⟨(nI (j + 1), si (si q 14 (nI (nvF u s (min (j + 1) 2)))) 10 (nI (s + (j + 1)))), ?_, rfl, ?_, ?_, fun k k1 k2 => ?_, c5⟩
    · show bX10_token_163 q (nI j) = _
      unfold bX10_token_163 bX10_token_205
      rw [hsee, bd_some, show fX10_in (nI (u (s + j))) 48 57 = some (nI 1) from hin, bd_some, if_neg (show ¬ nI 1 = 0 by decide)]
      by_cases c : 2 ≤ j
      · rw [if_pos (show (2 : Int32) ≤ nI j from (nI_leI (a := 2) (by decide) (by omega)).mpr c), bd_some, bd_some, c3, show min (j + 1) 2 = min j 2 by omega, gi_sin (by decide), c2, nI_1, nI_1]
        rfl
      · have e1 : min (j + 1) 2 = j + 1 := by omega
        have e2 : min j 2 = j := by omega
        have e3 : ((10 : Int32) * nI (nvF u s j) + nI (u (s + j))) - 48 = nI (nvF u s (j + 1)) := by
          rw [show (10 : Int32) = nI 10 from rfl, show (48 : Int32) = nI 48 from rfl, pk_mul, nI_add, pk_sub (by omega)]
          congr 1
          show 10 * nvF u s j + u (s + j) - 48 = nvF u s j * 10 + (u (s + j) - 48)
          omega
        rw [if_neg (show ¬ (2 : Int32) ≤ nI j from fun z => c ((nI_leI (a := 2) (by decide) (by omega)).mp z)), bd_some, bd_some, bd_some, c3, e2, e3, e1, gi_sin (by decide), c2, nI_1, nI_1]
        rfl
    · dsimp only
      rw [gi_sie]
    · dsimp only
      rw [gi_sin (by decide), gi_sie]
    · dsimp only
      rw [gi_sin k1, gi_sin k2]; exact c4 k k1 k2
  · rintro ⟨y, q⟩ ⟨c1, c2, c3, c4, c5⟩
    dsimp only at c1 c2 c3 c4 c5
    subst c1
    have hq : MTp q u n := h.to (c4 11 (by decide) (by decide)) (c5 1)
    rw [show s + (e - s) = e by omega] at c2
    have hstop : bX10_token_163 q (nI (e - s)) = out1 (bX10_token_224 q (nI (e - s))) := by
      unfold bX10_token_163
      by_cases c : e < n
      · have hsee := seeT hq c2 c
        have hf := b4 (by omega)
        have hin := in48F (c := u e) (by rw [hf]; decide) (hu e)
        rw [hsee, bd_some, show fX10_in (nI (u e)) 48 57 = some (nI 0) from hin, bd_some, if_pos (show nI 0 = 0 from rfl)]
      · have hsee := seeF hq c2 (by omega) (by omega)
        rw [hsee, bd_some, show fX10_in (-nI 1) 48 57 = some (nI 0) from in_m1 (by decide), bd_some, if_pos (show nI 0 = 0 from rfl)]
    refine ⟨si q 13 (nI (if e - s ≤ 2 then 3 else 1)), ?_, ?_, ?_, fun c => ?_, fun k k1 k2 k3 => ?_, c5⟩
    · show bX10_token_163 q (nI (e - s)) = _
      rw [hstop]
      unfold bX10_token_224 bX10_token_235
      by_cases c : e - s ≤ 2
      · rw [if_pos (show nI (e - s) ≤ 2 from (nI_leI (b := 2) (by omega) (by decide)).mpr c), if_pos c]; rfl
      · rw [if_neg (show ¬ nI (e - s) ≤ 2 from fun z => c ((nI_leI (b := 2) (by omega) (by decide)).mp z)), if_neg c]; rfl
    · rw [gi_sin (by decide)]; exact c2
    · rw [gi_sie]
    · rw [gi_sin (by decide), c3, show min (e - s) 2 = e - s by omega]
    · rw [gi_sin k2]; exact c4 k k1 k3
theorem tokM {r : Rec} {u : Nat → Nat} {n i : Nat} (h : MTp r u n) (h10 : gi r 10 = nI i) (hi : i ≤ n) : ∃ r', fX10_token r = some r' ∧ TkM r r' u n i := by
  have hn := h.1
  have hu := h.2.2.1
  have e0 := tokM_0 h (n - i) i (by omega)
  have er : si r 10 (nI i) = r := by rw [← h10, si_self]
  unfold fX10_token
  rw [er] at e0
  rw [e0]
  obtain ⟨b1, b2, -⟩ := sk_b (P := isBl) (u := u) (n - i) i
  unfold TkM tks tkk tke tok
  obtain ⟨s, hs⟩ : ∃ s, s = sk isBl u (n - i) i := ⟨_, rfl⟩
  rw [← hs] at b1 b2 ⊢
  obtain ⟨q, hq⟩ : ∃ q, q = sl (si (si r 10 (nI s)) 12 (nI s)) 15 0 := ⟨_, rfl⟩
  have q10 : gi q 10 = nI s := by rw [hq, gi_sl, gi_sin (by decide), gi_sie]
  have q12 : gi q 12 = nI s := by rw [hq, gi_sl, gi_sie]
  have qk : ∀ k, k ≠ 10 → k ≠ 12 → gi q k = gi r k := fun k k1 k2 => by rw [hq, gi_sl, gi_sin k2, gi_sin k1]
  have qa : ∀ k, ga q k = ga r k := fun k => by rw [hq]; rfl
  have ql : gl q 15 = lN 0 := by rw [hq, gl_sl, if_pos rfl]; rfl
  have hqt : MTp q u n := h.to (qk 11 (by decide) (by decide)) (qa 1)
  have e31 : ∀ z, fX10_see (si (si r 10 (nI s)) 12 (nI s)) = some z → bX10_token_31 (si r 10 (nI s)) = (if 0 ≤ z then (fX10_in z 97 122).bind fun z26 => if z26 = 0 then (fX10_in z 48 57).bind fun z27 => if z27 = 0 then (some (si q 10 ((gi q 10) + 1))).bind fun r28 => if z = 59 then bX10_token_263 r28 4 else bX10_token_263 r28 1 else (some (si q 14 0)).bind fun r30 => iter (fun st : Int32 × Rec => bX10_token_163 st.2 st.1) (0, r30) else iter (fun st : Int32 × Rec => bX10_token_74 st.2 st.1) (0, q) else (some (si q 13 0)).bind fun r33 => some (r33)) := by
    intro z hz
    unfold bX10_token_31
    rw [bd_some, gi_sie, hz, bd_some, bd_some, hq]
  have hst : MTp (si (si r 10 (nI s)) 12 (nI s)) u n := h.to rfl rfl
  have g10 : gi (si (si r 10 (nI s)) 12 (nI s)) 10 = nI s := rfl
  by_cases c0 : n ≤ s
  · have hz := seeF hst g10 c0 (by omega)
    rw [if_pos c0]
    refine ⟨si q 13 0, ?_, ?_, ?_, ?_, fun z => absurd (show 0 = 2 from z) (by decide), fun z => absurd (show 0 = 1 from z) (by decide), fun k k1 k2 k3 k4 => ?_, fun k => qa k⟩
    · rw [e31 _ hz, if_neg (show ¬ (0 : Int32) ≤ -nI 1 by decide), bd_some]
    · rw [gi_sin (by decide)]; exact q10
    · rw [gi_sin (by decide)]; exact q12
    · rw [gi_sie]; rfl
    · rw [gi_sin k3]; exact qk k k1 k2
  · have hz := seeT hst g10 (show s < n by omega)
    have hus := hu s
    have hz0 : (0 : Int32) ≤ nI (u s) := nI_pos' (by omega)
    rw [if_neg c0]
    by_cases cl : isLt (u s) = true
    · obtain ⟨r', f1, f2, f3, f4, f5, f6⟩ := tokM_74 hqt q10 ql (by omega)
      rw [if_pos cl]
      refine ⟨r', ?_, f2, ?_, f3, fun z => absurd (show 1 = 2 from z) (by decide), fun _ => f4, fun k k1 k2 k3 k4 => ?_, fun k => ?_⟩
      · rw [e31 _ hz, if_pos hz0, show fX10_in (nI (u s)) 97 122 = some (nI 1) from in97T cl, bd_some, if_neg (show ¬ nI 1 = 0 by decide)]
        exact f1
      · rw [f5 12 (by decide) (by decide)]; exact q12
      · rw [f5 k k1 k3]; exact qk k k1 k2
      · rw [f6]; exact qa k
    · rw [if_neg cl]
      by_cases cd : isDg (u s) = true
      · obtain ⟨r', f1, f2, f3, f4, f5, f6⟩ := tokM_163 (r := si q 14 0) (hqt.to rfl rfl) q10 (gi_sie _ _ _) (show s < n by omega)
        rw [if_pos cd]
        refine ⟨r', ?_, f2, ?_, ?_, fun z => ?_, fun z => ?_, fun k k1 k2 k3 k4 => ?_, fun k => ?_⟩
        · rw [e31 _ hz, if_pos hz0, show fX10_in (nI (u s)) 97 122 = some (nI 0) from in97F cl hus, bd_some, if_pos (show nI 0 = 0 from rfl), show fX10_in (nI (u s)) 48 57 = some (nI 1) from in48T cd, bd_some, if_neg (show ¬ nI 1 = 0 by decide), bd_some]
          exact f1
        · rw [f5 12 (by decide) (by decide) (by decide), gi_sin (by decide)]; exact q12
        · rw [f3]
          dsimp only
          by_cases c2 : sk isDg u (n - s) s - s ≤ 2
          · rw [if_pos c2, if_pos c2]; rfl
          · rw [if_neg c2, if_neg c2]; rfl
        · dsimp only at z ⊢
          exact f4 (by
            apply Classical.byContradiction
            intro c2
            rw [if_neg c2] at z
            exact absurd z (by decide))
        · dsimp only at z
          exact absurd z (by split <;> decide)
        · rw [f5 k k1 k3 k4, gi_sin k4]; exact qk k k1 k2
        · rw [f6]; exact qa k
      · rw [if_neg cd]
        have go : ∀ b : Int32, (if nI (u s) = 59 then bX10_token_263 (si q 10 (nI (s + 1))) 4 else bX10_token_263 (si q 10 (nI (s + 1))) 1) = some (si (si q 10 (nI (s + 1))) 13 b) → bX10_token_31 (si r 10 (nI s)) = some (si (si q 10 (nI (s + 1))) 13 b) := by
          intro b hb
          rw [e31 _ hz, if_pos hz0, show fX10_in (nI (u s)) 97 122 = some (nI 0) from in97F cl hus, bd_some, if_pos (show nI 0 = 0 from rfl), show fX10_in (nI (u s)) 48 57 = some (nI 0) from in48F cd hus, bd_some, if_pos (show nI 0 = 0 from rfl), bd_some, q10, nI_1]
          exact hb
        have fin : ∀ b : Nat, bX10_token_31 (si r 10 (nI s)) = some (si (si q 10 (nI (s + 1))) 13 (nI b)) → b = rk (if u s = 59 then 3 else 4) → ∃ r', bX10_token_31 (si r 10 (nI s)) = some r' ∧ gi r' 10 = nI (s + 1) ∧ gi r' 12 = nI s ∧ gi r' 13 = nI (rk (if u s = 59 then 3 else 4)) ∧ (∀ k, k ≠ 10 → k ≠ 12 → k ≠ 13 → k ≠ 14 → gi r' k = gi r k) ∧ ∀ k, ga r' k = ga r k := by
          intro b h1 h2
          refine ⟨_, h1, ?_, ?_, ?_, fun k k1 k2 k3 k4 => ?_, fun k => qa k⟩
          · rw [gi_sin (by decide), gi_sie]
          · rw [gi_sin (by decide), gi_sin (by decide)]; exact q12
          · rw [gi_sie, h2]
          · rw [gi_sin k3, gi_sin k1]; exact qk k k1 k2
        have all : ∃ r', bX10_token_31 (si r 10 (nI s)) = some r' ∧ gi r' 10 = nI (s + 1) ∧ gi r' 12 = nI s ∧ gi r' 13 = nI (rk (if u s = 59 then 3 else 4)) ∧ (∀ k, k ≠ 10 → k ≠ 12 → k ≠ 13 → k ≠ 14 → gi r' k = gi r k) ∧ ∀ k, ga r' k = ga r k := by
          by_cases c9 : u s = 59
          · refine fin 4 (go 4 ?_) (by rw [if_pos c9]; rfl)
            rw [if_pos (show nI (u s) = 59 by rw [c9]; rfl)]; rfl
          · refine fin 1 (go 1 ?_) (by rw [if_neg c9]; rfl)
            rw [if_neg (show ¬ nI (u s) = 59 from fun z => c9 ((nI_eq (b := 59) (by omega) (by decide)).mp z))]; rfl
        obtain ⟨r', a1, a2, a3, a4, a5, a6⟩ := all
        refine ⟨r', a1, a2, a3, a4, fun z => ?_, fun z => ?_, a5, a6⟩
        · dsimp only at z
          exact absurd z (by split <;> decide)
        · dsimp only at z
          exact absurd z (by split <;> decide)
