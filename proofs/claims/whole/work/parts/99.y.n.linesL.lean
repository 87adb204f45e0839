def Sst (so : Nat) (r : Rec) (u : Nat → Nat) (n : Nat) (ps vs ks : Nat → Nat) (l : Nat) : Prop := match so with
  | 0 => HSt r u n ps vs ks l
  | 1 => RSt r u n ps vs 4 40 (mrv u n ps vs) l
  | 2 => DSt r u n ps vs l
  | _ => RSt r u n ps vs 2 8 (fun k c => nI (num u n ps vs k c)) l
theorem RSt.to {r r' : Rec} {u : Nat → Nat} {n : Nat} {ps vs : Nat → Nat} {w cp l : Nat} {rv : Nat → Nat → Int32} (h : RSt r u n ps vs w cp rv l) (h1 : ga r' 19 = ga r 19) : RSt r' u n ps vs w cp rv l := by
  unfold RSt at h ⊢
  rw [h1]
  exact h
theorem Sst.to {so : Nat} {r r' : Rec} {u : Nat → Nat} {n : Nat} {ps vs ks : Nat → Nat} {l : Nat} (h : Sst so r u n ps vs ks l) (h1 : ga r' 19 = ga r 19) (h2 : ∀ k, 21 ≤ k → k ≤ 23 → gi r' k = gi r k) : Sst so r' u n ps vs ks l := by
  match so, h with
  | 0, h =>
    have h : HSt r u n ps vs ks l := h
    show HSt r' u n ps vs ks l
    unfold HSt HC at h ⊢
    rw [h1, h2 21 (by decide) (by decide), h2 22 (by decide) (by decide)]
    exact h
  | 1, h => exact RSt.to (show RSt r u n ps vs 4 40 (mrv u n ps vs) l from h) h1
  | 2, h =>
    have h : DSt r u n ps vs l := h
    exact ⟨h.1.to h1, (h2 23 (by decide) (by decide)).trans h.2.1, h.2.2⟩
  | so + 3, h => exact RSt.to (show RSt r u n ps vs 2 8 (fun k c => nI (num u n ps vs k c)) l from h) h1
theorem LineGo.isb {u : Nat → Nat} {n l : Nat} {ps vs ks : Nat → Nat} {f : Option (Rec × Int32)} {S fr : Rec → Prop} (h : LineGo f u n ps vs ks l S fr) : LineGo (f.bind fun z => gd (isB z.2) (some ((z.1, z.2)))) u n ps vs ks l S fr := by
  refine ⟨fun a b => ?_, fun a => (h.2 a).isb⟩
  obtain ⟨r', h1, h2⟩ := h.1 a b
  exact ⟨r', by rw [h1]; rfl, h2⟩
theorem lineOf_go {so : Nat} {r : Rec} {u : Nat → Nat} {n : Nat} {ps vs ks : Nat → Nat} {l : Nat} (hso : so < 4) (h : AtM r u n (ps l)) (hF : FS r (ffl u n ps vs l) (tks u n (ps l))) (hH : Sst so r u n ps vs ks l) (h24 : gi r 24 = 1) (hm : MtV u n (ps l) (vs l)) (hv : vfr so ≤ vs l) (hv2 : vs l < vfr (so + 1)) (hl : l ≤ 120) : LineGo (fX10_lineOf r (nI so) (wdq u n (ps l)) (nI (tks u n (ps l)))) u n ps vs ks l (fun r' => Sst so r' u n ps vs ks (l + 1)) (Fr r) := by
  match so, hso, hH, hv, hv2 with
  | 0, _, hH, hv, hv2 => exact (house_nI h hF hH h24 hm hv2 hl).isb
  | 1, _, hH, hv, hv2 => exact (monthLn h hF hH hm hv hv2 hl).isb
  | 2, _, hH, hv, hv2 => exact (dinnerLn h hF hH hm (by have a : 10 ≤ vs l := hv; have b : vs l < 11 := hv2; omega) hl).isb
  | 3, _, hH, hv, hv2 => exact (logLn h hF hH hm (by have a : 11 ≤ vs l := hv; have b : vs l < 12 := hv2; omega) hl).isb
  | so + 4, hso, _, _, _ => omega
theorem lineOf_none {so : Nat} {r : Rec} {u : Nat → Nat} {n i : Nat} {p : Int32} (hso : so < 4) (h : AtM r u n i) (hm : ∀ v, vfr so ≤ v → v < vfr (so + 1) → ¬ MtV u n i v) : fX10_lineOf r (nI so) (wdq u n i) p = some (si r 16 (nI (tks u n i)), 0) := by
  match so, hso, hm with
  | 0, _, hm =>
    show (fX10_houseLine r (wdq u n i) p).bind _ = _
    rw [hl_none h (fun v hv => hm v (Nat.zero_le _) hv)]
    rfl
  | 1, _, hm =>
    show (fX10_monthLine r (wdq u n i) p).bind _ = _
    rw [ml_none h (fun v hv hv2 => hm v hv hv2)]
    rfl
  | 2, _, hm =>
    show (fX10_dinnerLine r (wdq u n i) p).bind _ = _
    rw [dl_none h (hm 10 (by decide) (by decide))]
    rfl
  | 3, _, hm =>
    show (fX10_logLine r (wdq u n i) p).bind _ = _
    rw [ll_none h (hm 11 (by decide) (by decide))]
    rfl
  | so + 4, hso, _ => omega
theorem lines2 {so : Nat} {r : Rec} {u : Nat → Nat} {n i : Nat} (h : AtM r u n i) (hk : ¬ tkk u n i = 0) : bX10_lines_2 r (nI so) 1 = bX10_lines_41 (si r 24 1) (nI so) (nI (tks u n i)) (wdq u n i) (nI so) := by
  have hb := (tok_b (u := u) h.2.1).2.2.2.1
  have hr := rk_b _ hb
  have hA : AtM (si r 24 1) u n i := h.to rfl (fun k _ _ => gi_sin (by omega)) rfl
  have hw := (wq (si r 24 1) hA (k := 13) (C := 1819244133) (by decide) (by decide) (by decide +kernel)).1
  unfold bX10_lines_2
  rw [if_neg (show ¬ (1 : Int32) = 0 by decide), if_neg (show ¬ gi r 13 = 0 from fun z => hk (by rw [h.2.2.2.2.1] at z; exact (rk_0 _ hb).mp ((nI_eq (b := 0) (by omega) (by decide)).mp z))), bd_some, h.2.2.2.1]
  by_cases c : gi (si r 24 1) 13 = 2
  · rw [if_pos c]
    rw [if_pos c] at hw
    rw [hw]
  · rw [if_neg c]
    rw [if_neg c] at hw
    rw [hw]
def LnFv (u : Nat → Nat) (n so : Nat) (ps vs ks : Nat → Nat) (L F : Nat) : Prop := ((∀ v, vfr so ≤ v → v < vfr (so + 1) → ¬ MtV u n (ps L) v) ∧ F = tks u n (ps L)) ∨ (vfr so ≤ vs L ∧ vs L < vfr (so + 1) ∧ MtV u n (ps L) (vs L) ∧ vs L ≤ 1 ∧ (∀ k, k < 4 → ¬ MtV u n (tke u n (ps L)) (13 + k)) ∧ F = tks u n (tke u n (ps L))) ∨ (∃ j, LnV u n so (ps L) (vs L) (ks L) ∧ j < nmb (vs L) ∧ (∀ x, x < j → tkk u n (pz u n (qn u n (ps L) (vs L)) x) = 2) ∧ ¬ tkk u n (pz u n (qn u n (ps L) (vs L)) j) = 2 ∧ F = tks u n (pz u n (qn u n (ps L) (vs L)) j)) ∨ (LnV u n so (ps L) (vs L) (ks L) ∧ (∀ x, x < nmb (vs L) → tkk u n (pz u n (qn u n (ps L) (vs L)) x) = 2) ∧ ¬ tkk u n (pz u n (qn u n (ps L) (vs L)) (nmb (vs L))) = 3 ∧ F = tks u n (pz u n (qn u n (ps L) (vs L)) (nmb (vs L))))
theorem LnF.pick {u : Nat → Nat} {n so : Nat} {ps vs ks : Nat → Nat} {L F : Nat} (hP : Ptx u n so ps vs ks L) (h : LnF u n so (ps L) F) : ∃ vs' ks', Ptx u n so ps vs' ks' L ∧ LnFv u n so ps vs' ks' L F := by
  have mk : ∀ v k : Nat, Ptx u n so ps (fun l => if l = L then v else vs l) (fun l => if l = L then k else ks l) L := by
    intro v k
    refine ⟨hP.1, fun l hl => ?_⟩
    have e1 : (fun l => if l = L then v else vs l) l = vs l := if_neg (by omega)
    have e2 : (fun l => if l = L then k else ks l) l = ks l := if_neg (by omega)
    rw [e1, e2]
    exact hP.2 l hl
  have e1 : ∀ v, (fun l => if l = L then v else vs l) L = v := fun v => if_pos rfl
  have e2 : ∀ k, (fun l => if l = L then k else ks l) L = k := fun k => if_pos rfl
  rcases h with h | ⟨v, h1, h2, h3, h4, h5, h6⟩ | ⟨v, k, j, h1, h2, h3, h4, h5⟩ | ⟨v, k, h1, h2, h3, h4⟩
  · exact ⟨vs, ks, hP, Or.inl h⟩
  · refine ⟨_, _, mk v 0, Or.inr (Or.inl ?_)⟩
    rw [e1 v]
    exact ⟨h1, h2, h3, h4, h5, h6⟩
  · refine ⟨_, _, mk v k, Or.inr (Or.inr (Or.inl ⟨j, ?_⟩))⟩
    rw [e1 v, e2 k]
    exact ⟨h1, h2, h3, h4, h5⟩
  · refine ⟨_, _, mk v k, Or.inr (Or.inr (Or.inr ?_))⟩
    rw [e1 v, e2 k]
    exact ⟨h1, h2, h3, h4⟩
