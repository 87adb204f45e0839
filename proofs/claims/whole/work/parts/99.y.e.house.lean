def updN (f : Nat → Nat) (a b : Nat) : Nat → Nat := fun p => if p = a then b else f p
def hv0 : Hv := ((0, 0, 0), fun _ => 0, fun _ => 0, fun _ => 0, fun _ => 0, fun _ => 0, fun _ => 0, fun _ => 0, fun _ => 0)
def hadP (v : Hv) (k x : Nat) : Hv := ((hP v + 1, hS v, hL v), updN (hTa v) (hP v) k, updN (hWe v) (hP v) x, hKn v, hKi v, hWt v, hA1 v, hA2 v, hA3 v)
def hadS (v : Hv) (k x : Nat) : Hv := ((hP v, hS v + 1, hL v), hTa v, hWe v, hKn v, updN (hKi v) (hS v) k, updN (hWt v) (hS v) x, hA1 v, hA2 v, hA3 v)
def hadK (v : Hv) (p s : Nat) : Hv := ((hP v, hS v, hL v), hTa v, hWe v, updN (hKn v) p (hKn v p ||| 2 ^ s), hKi v, hWt v, hA1 v, hA2 v, hA3 v)
def hadL (v : Hv) (a b c : Nat) : Hv := ((hP v, hS v, hL v + 1), hTa v, hWe v, hKn v, hKi v, hWt v, updN (hA1 v) (hL v) a, updN (hA2 v) (hL v) b, updN (hA3 v) (hL v) c)
theorem HM.zero {m : Nat → Int32} (h : ∀ x, x < 161 → m x = 0) : HM m 0 hv0 := by
  refine ⟨h 0 (by decide), h 1 (by decide), h 2 (by decide), fun p hp => absurd hp (Nat.not_lt_zero p), fun p hp => h _ (by omega), fun p hp => h _ (by omega), fun p hp => absurd hp (Nat.not_lt_zero p), fun p hp => absurd hp (Nat.not_lt_zero p)⟩
theorem HM.adP {m m' : Nat → Int32} {v : Hv} {k x : Nat} (h : HM m 0 v) (hp : hP v < 8) (e : ∀ y, m' y = if y = 0 then nI (hP v + 1) else if y = 3 + 8 * 1 + hP v then nI x else if y = 3 + 8 * 0 + hP v then nI k else m y) : HM m' 0 (hadP v k x) := by
  obtain ⟨h0, h1, h2, h3, h4, h5, h6, h7⟩ := h
  have e' : ∀ y, 19 ≤ y ∨ y = 1 ∨ y = 2 → m' y = m y := fun y hy => by rw [e, if_neg (by omega), if_neg (by omega), if_neg (by omega)]
  refine ⟨by rw [e, if_pos rfl]; rfl, by rw [e' _ (by omega)]; exact h1, by rw [e' _ (by omega)]; exact h2, fun p hp2 => ?_, fun p hp2 => ?_, fun p hp2 => by rw [e' _ (by omega)]; exact h5 p hp2, fun s hs => by rw [e' _ (by omega), e' _ (by omega)]; exact h6 s hs, fun l hl => by rw [e' _ (by omega), e' _ (by omega), e' _ (by omega)]; exact h7 l hl⟩
  · have hp2 : p < hP v + 1 := hp2
    show _ = nI (if p = hP v then k else hTa v p)
    by_cases c : p = hP v
    · rw [if_pos c, e, if_neg (by omega), if_neg (by omega), if_pos (by omega)]
    · rw [if_neg c, e, if_neg (by omega), if_neg (by omega), if_neg (by omega)]
      exact h3 p (by omega)
  · show _ = nI (if p = hP v then x else hWe v p)
    by_cases c : p = hP v
    · rw [if_pos c, e, if_neg (by omega), if_pos (by omega)]
    · rw [if_neg c, e, if_neg (by omega), if_neg (by omega), if_neg (by omega)]
      exact h4 p hp2
theorem HM.adS {m m' : Nat → Int32} {v : Hv} {k x : Nat} (h : HM m 0 v) (hp : hS v < 10) (hp8 : hP v ≤ 8) (hl8 : hL v ≤ 8) (e : ∀ y, m' y = if y = 1 then nI (hS v + 1) else if y = 27 + 10 * 1 + hS v then nI x else if y = 27 + 10 * 0 + hS v then nI k else m y) : HM m' 0 (hadS v k x) := by
  obtain ⟨h0, h1, h2, h3, h4, h5, h6, h7⟩ := h
  have e' : ∀ y, 47 ≤ y ∨ y = 0 ∨ (2 ≤ y ∧ y < 27) → m' y = m y := fun y hy => by rw [e, if_neg (by omega), if_neg (by omega), if_neg (by omega)]
  refine ⟨by rw [e' _ (by omega)]; exact h0, by rw [e, if_pos rfl]; rfl, by rw [e' _ (by omega)]; exact h2, fun p hp2 => ?_, fun p hp2 => by rw [e' _ (by omega)]; exact h4 p hp2, fun p hp2 => by rw [e' _ (by omega)]; exact h5 p hp2, fun s hs => ?_, fun l hl => by rw [e' _ (by omega), e' _ (by omega), e' _ (by omega)]; exact h7 l hl⟩
  · have hp2 : p < hP v := hp2
    rw [e' _ (by omega)]
    exact h3 p hp2
  · have hs : s < hS v + 1 := hs
    show _ = nI (if s = hS v then k else hKi v s) ∧ _ = nI (if s = hS v then x else hWt v s)
    by_cases c : s = hS v
    · rw [if_pos c, if_pos c, e, e]
      exact ⟨by rw [if_neg (by omega), if_neg (by omega), if_pos (by omega)], by rw [if_neg (by omega), if_pos (by omega)]⟩
    · rw [if_neg c, if_neg c, e, e]
      have h8 := h6 s (by omega)
      exact ⟨by rw [if_neg (by omega), if_neg (by omega), if_neg (by omega)]; exact h8.1, by rw [if_neg (by omega), if_neg (by omega), if_neg (by omega)]; exact h8.2⟩
theorem HM.adK {m m' : Nat → Int32} {v : Hv} {p s : Nat} (h : HM m 0 v) (hp : p < 8) (hp8 : hP v ≤ 8) (e : ∀ y, m' y = if y = 19 + p then nI (hKn v p ||| 2 ^ s) else m y) : HM m' 0 (hadK v p s) := by
  obtain ⟨h0, h1, h2, h3, h4, h5, h6, h7⟩ := h
  have e' : ∀ y, 27 ≤ y ∨ y < 19 → m' y = m y := fun y hy => by rw [e, if_neg (by omega)]
  refine ⟨by rw [e' _ (by omega)]; exact h0, by rw [e' _ (by omega)]; exact h1, by rw [e' _ (by omega)]; exact h2, fun q hq => ?_, fun q hq => by rw [e' _ (by omega)]; exact h4 q hq, fun q hq => ?_, fun s hs => by rw [e' _ (by omega), e' _ (by omega)]; exact h6 s hs, fun l hl => by rw [e' _ (by omega), e' _ (by omega), e' _ (by omega)]; exact h7 l hl⟩
  · have hq : q < hP v := hq
    rw [e' _ (by omega)]
    exact h3 q hq
  · show _ = nI (if q = p then hKn v p ||| 2 ^ s else hKn v q)
    by_cases c : q = p
    · rw [if_pos c, e, if_pos (by omega)]
    · rw [if_neg c, e, if_neg (by omega)]
      exact h5 q hq
theorem HM.adL {m m' : Nat → Int32} {v : Hv} {a b c : Nat} (h : HM m 0 v) (hp : hL v < 8) (hp8 : hP v ≤ 8) (hs8 : hS v ≤ 10) (e : ∀ y, m' y = if y = 2 then nI (hL v + 1) else if y = 47 + 8 * 2 + hL v then nI c else if y = 47 + 8 * 1 + hL v then nI b else if y = 47 + 8 * 0 + hL v then nI a else m y) : HM m' 0 (hadL v a b c) := by
  obtain ⟨h0, h1, h2, h3, h4, h5, h6, h7⟩ := h
  have e' : ∀ y, y < 2 ∨ (3 ≤ y ∧ y < 47) → m' y = m y := fun y hy => by rw [e, if_neg (by omega), if_neg (by omega), if_neg (by omega), if_neg (by omega)]
  refine ⟨by rw [e' _ (by omega)]; exact h0, by rw [e' _ (by omega)]; exact h1, by rw [e, if_pos rfl]; rfl, fun p hp2 => ?_, fun p hp2 => by rw [e' _ (by omega)]; exact h4 p hp2, fun p hp2 => by rw [e' _ (by omega)]; exact h5 p hp2, fun s hs => ?_, fun l hl => ?_⟩
  · have hp2 : p < hP v := hp2
    rw [e' _ (by omega)]
    exact h3 p hp2
  · have hs : s < hS v := hs
    rw [e' _ (by omega), e' _ (by omega)]
    exact h6 s hs
  · have hl : l < hL v + 1 := hl
    show _ = nI (if l = hL v then a else hA1 v l) ∧ _ = nI (if l = hL v then b else hA2 v l) ∧ _ = nI (if l = hL v then c else hA3 v l)
    by_cases d : l = hL v
    · rw [if_pos d, if_pos d, if_pos d, e, e, e]
      exact ⟨by rw [if_neg (by omega), if_neg (by omega), if_neg (by omega), if_pos (by omega)], by rw [if_neg (by omega), if_neg (by omega), if_pos (by omega)], by rw [if_neg (by omega), if_pos (by omega)]⟩
    · rw [if_neg d, if_neg d, if_neg d, e, e, e]
      have h8 := h7 l (by omega)
      exact ⟨by rw [if_neg (by omega), if_neg (by omega), if_neg (by omega), if_neg (by omega)]; exact h8.1, by rw [if_neg (by omega), if_neg (by omega), if_neg (by omega), if_neg (by omega)]; exact h8.2.1, by rw [if_neg (by omega), if_neg (by omega), if_neg (by omega), if_neg (by omega)]; exact h8.2.2⟩
/-! the class -/
theorem empty_nI (h : Rec) : ∃ h', fX2_empty h = some h' ∧ HX h' hv0 := by
  refine ⟨_, rfl, rfl, rfl, rfl, fun p hp => absurd hp (Nat.not_lt_zero p), fun p hp => ?_, fun p hp => absurd hp (Nat.not_lt_zero p), fun p hp => absurd hp (Nat.not_lt_zero p)⟩
  rw [ga_sae]
  unfold fl
  rw [if_pos hp]
  rfl
theorem adP_nI {h : Rec} {v : Hv} {k x : Nat} (hh : HX h v) (hp : hP v < 8) : ∃ h', fX2_addPiece h (nI k) (nI x) = some h' ∧ HX h' (hadP v k x) := by
  obtain ⟨h0, h1, h2, h3, h4, h5, h6⟩ := hh
  refine ⟨si (sa (sa h 3 (upd (ga h 3) (hP v) (nI k))) 4 (upd (ga h 4) (hP v) (nI x))) 0 (nI (hP v + 1)), ?_, gi_sie _ _ _, h1, h2, fun p hp2 => ?_, h4, h5, h6⟩
  · unfold fX2_addPiece
    rw [h0, if_neg (show ¬ (8 : Int32) ≤ nI (hP v) from fun z => by have := (nI_leI (a := 8) (by decide) (by omega)).mp z; omega), inR_nI hp (by decide), gd_true, bd_some, nI_clamp (by omega), gi_sa, h0, inR_nI hp (by decide), gd_true, bd_some, nI_clamp (by omega), bd_some, gi_sa, gi_sa, h0, nI_1, ga_san (by decide)]
  · have hp2 : p < hP v + 1 := hp2
    show upd (ga h 3) (hP v) (nI k) p = nI (if p = hP v then k else hTa v p) ∧ upd (ga h 4) (hP v) (nI x) p = nI (if p = hP v then x else hWe v p)
    rw [upd_if, upd_if]
    by_cases c : p = hP v
    · rw [if_pos c, if_pos c, if_pos c, if_pos c]
      exact ⟨rfl, rfl⟩
    · rw [if_neg c, if_neg c, if_neg c, if_neg c]
      exact h3 p (by omega)
theorem adS_nI {h : Rec} {v : Hv} {k x : Nat} (hh : HX h v) (hp : hS v < 10) : ∃ h', fX2_addSecret h (nI k) (nI x) = some h' ∧ HX h' (hadS v k x) := by
  obtain ⟨h0, h1, h2, h3, h4, h5, h6⟩ := hh
  refine ⟨si (sa (sa h 6 (upd (ga h 6) (hS v) (nI k))) 7 (upd (ga h 7) (hS v) (nI x))) 1 (nI (hS v + 1)), ?_, h0, gi_sie _ _ _, h2, h3, h4, fun p hp2 => ?_, h6⟩
  · unfold fX2_addSecret
    rw [h1, if_neg (show ¬ (10 : Int32) ≤ nI (hS v) from fun z => by have := (nI_leI (a := 10) (by decide) (by omega)).mp z; omega), inR_nI hp (by decide), gd_true, bd_some, nI_clamp (by omega), gi_sa, h1, inR_nI hp (by decide), gd_true, bd_some, nI_clamp (by omega), bd_some, gi_sa, gi_sa, h1, nI_1, ga_san (by decide)]
  · have hp2 : p < hS v + 1 := hp2
    show upd (ga h 6) (hS v) (nI k) p = nI (if p = hS v then k else hKi v p) ∧ upd (ga h 7) (hS v) (nI x) p = nI (if p = hS v then x else hWt v p)
    rw [upd_if, upd_if]
    by_cases c : p = hS v
    · rw [if_pos c, if_pos c, if_pos c, if_pos c]
      exact ⟨rfl, rfl⟩
    · rw [if_neg c, if_neg c, if_neg c, if_neg c]
      exact h5 p (by omega)
theorem adK_nI {h : Rec} {v : Hv} {p s : Nat} (hh : HX h v) (hp : p < 8) (hs : s < 10) : ∃ h', fX2_addKnown h (nI p) (nI s) = some h' ∧ HX h' (hadK v p s) := by
  obtain ⟨h0, h1, h2, h3, h4, h5, h6⟩ := hh
  refine ⟨sa h 5 (upd (ga h 5) p (nI (hKn v p ||| 2 ^ s))), ?_, h0, h1, h2, h3, fun q hq => ?_, h5, h6⟩
  · unfold fX2_addKnown
    rw [if_neg (show ¬ nI p < 0 from fun z => by have := (nI_ltI (b := 0) (by omega) (by decide)).mp z; omega), if_neg (show ¬ (8 : Int32) ≤ nI p from fun z => by have := (nI_leI (a := 8) (by decide) (by omega)).mp z; omega), inR_nI hp (by decide), gd_true, gd_true, bd_some, nI_clamp (by omega), h4 p hp, shl_nI s (by omega), or_nI]
  · show upd (ga h 5) p (nI (hKn v p ||| 2 ^ s)) q = nI (if q = p then hKn v p ||| 2 ^ s else hKn v q)
    rw [upd_if]
    by_cases c : q = p
    · rw [if_pos c, if_pos c]
    · rw [if_neg c, if_neg c]
      exact h4 q hq
theorem adL_nI {h : Rec} {v : Hv} {a b c : Nat} (hh : HX h v) (hp : hL v < 8) : ∃ h', fX2_addLink h (nI a) (nI b) (nI c) = some h' ∧ HX h' (hadL v a b c) := by
  obtain ⟨h0, h1, h2, h3, h4, h5, h6⟩ := hh
  refine ⟨si (sa (sa (sa h 8 (upd (ga h 8) (hL v) (nI a))) 9 (upd (ga h 9) (hL v) (nI b))) 10 (upd (ga h 10) (hL v) (nI c))) 2 (nI (hL v + 1)), ?_, h0, h1, gi_sie _ _ _, h3, h4, h5, fun p hp2 => ?_⟩
  · unfold fX2_addLink
    rw [h2, if_neg (show ¬ (8 : Int32) ≤ nI (hL v) from fun z => by have := (nI_leI (a := 8) (by decide) (by omega)).mp z; omega), inR_nI hp (by decide), gd_true, bd_some, nI_clamp (by omega), gi_sa, h2, inR_nI hp (by decide), gd_true, bd_some, nI_clamp (by omega), gi_sa, gi_sa, h2, inR_nI hp (by decide), gd_true, bd_some, nI_clamp (by omega), bd_some, gi_sa, gi_sa, gi_sa, h2, nI_1, ga_san (by decide), ga_san (by decide), ga_san (by decide)]
  · have hp2 : p < hL v + 1 := hp2
    show upd (ga h 8) (hL v) (nI a) p = nI (if p = hL v then a else hA1 v p) ∧ upd (ga h 9) (hL v) (nI b) p = nI (if p = hL v then b else hA2 v p) ∧ upd (ga h 10) (hL v) (nI c) p = nI (if p = hL v then c else hA3 v p)
    rw [upd_if, upd_if, upd_if]
    by_cases d : p = hL v
    · rw [if_pos d, if_pos d, if_pos d, if_pos d, if_pos d, if_pos d]
      exact ⟨rfl, rfl, rfl⟩
    · rw [if_neg d, if_neg d, if_neg d, if_neg d, if_neg d, if_neg d]
      exact h6 p (by omega)
