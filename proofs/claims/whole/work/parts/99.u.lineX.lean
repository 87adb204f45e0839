def off (v : Nat) : Nat := if v ≤ 1 then 1 else 0
def MtV (u : Nat → Nat) (n i v : Nat) : Prop := tkk u n i = 1 ∧ Sp u (tks u n i) (tke u n i) v
def qn (u : Nat → Nat) (n i v : Nat) : Nat := pz u n i (1 + off v)
def LnV (u : Nat → Nat) (n so i v k : Nat) : Prop := vfr so ≤ v ∧ v < vfr (so + 1) ∧ MtV u n i v ∧ (v ≤ 1 → k < 4 ∧ MtV u n (tke u n i) (13 + k) ∧ ∀ j, j < k → ¬ MtV u n (tke u n i) (13 + j))
def LnS (u : Nat → Nat) (n so i v k : Nat) : Prop := LnV u n so i v k ∧ (∀ j, j < nmb v → tkk u n (pz u n (qn u n i v) j) = 2) ∧ tkk u n (pz u n (qn u n i v) (nmb v)) = 3
def LnF (u : Nat → Nat) (n so i F : Nat) : Prop := ((∀ v, vfr so ≤ v → v < vfr (so + 1) → ¬ MtV u n i v) ∧ F = tks u n i) ∨ (∃ v, vfr so ≤ v ∧ v < vfr (so + 1) ∧ MtV u n i v ∧ v ≤ 1 ∧ (∀ k, k < 4 → ¬ MtV u n (tke u n i) (13 + k)) ∧ F = tks u n (tke u n i)) ∨ (∃ v k j, LnV u n so i v k ∧ j < nmb v ∧ (∀ x, x < j → tkk u n (pz u n (qn u n i v) x) = 2) ∧ ¬ tkk u n (pz u n (qn u n i v) j) = 2 ∧ F = tks u n (pz u n (qn u n i v) j)) ∨ ∃ v k, LnV u n so i v k ∧ (∀ x, x < nmb v → tkk u n (pz u n (qn u n i v) x) = 2) ∧ ¬ tkk u n (pz u n (qn u n i v) (nmb v)) = 3 ∧ F = tks u n (pz u n (qn u n i v) (nmb v))
/-- numbers, and what ends the line -/
theorem line100 {c : Rec} {u : Nat → Nat} {n q L v : Nat} (h : At c u n q) (hv : v < 12) (hL : gi c 5 = nI L) (hL2 : L < 120) : ((∀ j, j < nmb v → tkk u n (pz u n q j) = 2) ∧ tkk u n (pz u n q (nmb v)) = 3 ∧ ∃ c', bX4_readLine_100 c (nI v) = some (c', nI 1) ∧ At c' u n (pz u n q (nmb v + 1)) ∧ gi c' 5 = nI (L + 1) ∧ (∀ j, j < 3 → ga c' 9 (3 * L + j) = nmv u n q v j ∧ ga c' 10 (3 * L + j) = plv u n q v j) ∧ (∀ k, k ≠ 9 → k ≠ 10 → ga c' k = ga c k) ∧ (∀ x, x < 3 * L ∨ 3 * L + 3 ≤ x → ga c' 9 x = ga c 9 x ∧ ga c' 10 x = ga c 10 x) ∧ ∀ k, k ≠ 2 → k ≠ 3 → k ≠ 4 → k ≠ 5 → gi c' k = gi c k) ∨ (∃ j, j ≤ nmb v ∧ (∀ x, x < j → tkk u n (pz u n q x) = 2) ∧ (j < nmb v → ¬ tkk u n (pz u n q j) = 2) ∧ (j = nmb v → ¬ tkk u n (pz u n q j) = 3) ∧ ∃ c', bX4_readLine_100 c (nI v) = some (c', nI 0) ∧ gi c' 3 = nI (tks u n (pz u n q j))) := by
  unfold bX4_readLine_100
  rcases readNums h hv hL hL2 with ⟨a1, c', e1, e2, e3, e4⟩ | ⟨j, a1, a2, a3, c', e1, e2, e3⟩
  · have hb := tok_b (u := u) e2.2.1
    by_cases c3 : tkk u n (pz u n q (nmb v)) = 3
    · obtain ⟨n1, n2⟩ := e2.next
      refine Or.inl ⟨a1, c3, si (nxR c' u n (tke u n (pz u n q (nmb v)))) 5 (nI (L + 1)), ?_, n2.to rfl (fun k hk => gi_sin (by omega)), gi_sie _ _ _, e3, e4.1, e4.2.1, fun k k1 k2 k3 k4 => ?_⟩
      · have g2 : gi c' 2 = 3 := by rw [e2.2.2.1, c3]; rfl
        have g5 : gi (nxR c' u n (tke u n (pz u n q (nmb v)))) 5 = nI L := by rw [nxR_gi (by decide) (by decide) (by decide), e4.2.2 5 (by decide) (by decide) (by decide)]; exact hL
        rw [e1, bd_some]
        dsimp only
        rw [if_neg (show ¬ nI 1 = 0 by decide), if_pos g2, n1, bd_some, bd_some, g5, nI_1]
        rfl
      · rw [gi_sin k4, nxR_gi k1 k2 k3]; exact e4.2.2 k k1 k2 k3
    · refine Or.inr ⟨nmb v, Nat.le_refl _, a1, fun z => absurd z (Nat.lt_irrefl _), fun _ => c3, c', ?_, e2.2.2.2.1⟩
      have g2 : ¬ gi c' 2 = 3 := fun z => c3 (by rw [e2.2.2.1] at z; exact (nI_eq (b := 3) (by omega) (by decide)).mp z)
      rw [e1, bd_some]
      dsimp only
      rw [if_neg (show ¬ nI 1 = 0 by decide), if_neg g2]
      rfl
  · refine Or.inr ⟨j, by omega, a2, fun _ => a3, fun z => by omega, c', ?_, e2.2.2.2.1⟩
    rw [e1, bd_some]
    dsimp only
    rw [if_pos (show nI 0 = 0 from rfl)]
    rfl
/-- what a line leaves in the class's reader -/
def LnR (c c' : Rec) (u : Nat → Nat) (n i L v k : Nat) : Prop := At c' u n (pz u n (qn u n i v) (nmb v + 1)) ∧ gi c' 5 = nI (L + 1) ∧ ga c' 6 = upd (ga c 6) L (nI v) ∧ ga c' 7 = upd (ga c 7) L (if v ≤ 1 then nI k else -nI 1) ∧ ga c' 8 = upd (ga c 8) L (nI (tks u n i)) ∧ (∀ j, j < 3 → ga c' 9 (3 * L + j) = nmv u n (qn u n i v) v j ∧ ga c' 10 (3 * L + j) = plv u n (qn u n i v) v j) ∧ (∀ x, x < 3 * L ∨ 3 * L + 3 ≤ x → ga c' 9 x = ga c 9 x ∧ ga c' 10 x = ga c 10 x) ∧ (∀ x, x < 6 ∨ 10 < x → ga c' x = ga c x) ∧ ∀ x, x ≠ 2 → x ≠ 3 → x ≠ 4 → x ≠ 5 → gi c' x = gi c x
theorem readLine_nI {c : Rec} {u : Nat → Nat} {n i L so : Nat} (h : At c u n i) (hso : so < 4) (hL : gi c 5 = nI L) (hL2 : L < 120) : (∃ v k, LnS u n so i v k ∧ ∃ c', fX4_readLine c (nI so) = some (c', nI 1) ∧ LnR c c' u n i L v k) ∨ (∃ F, LnF u n so i F ∧ ∃ c', fX4_readLine c (nI so) = some (c', nI 0) ∧ gi c' 3 = nI F) := by
  have hvb := vfr_b so hso
  rcases verbX h hso with ⟨v, v1, v2, v3, v4, ev⟩ | ⟨v1, ev⟩
  · have hv12 : v < 12 := by omega
    obtain ⟨r18, hr18⟩ : ∃ r18, r18 = sa (sa (sa c 6 (upd (ga c 6) L (nI v))) 7 (upd (ga c 7) L (-nI 1))) 8 (upd (ga c 8) L (nI (tks u n i))) := ⟨_, rfl⟩
    have g6 : ga r18 6 = upd (ga c 6) L (nI v) := by rw [hr18, ga_san (by decide), ga_san (by decide), ga_sae]
    have g7 : ga r18 7 = upd (ga c 7) L (-nI 1) := by rw [hr18, ga_san (by decide), ga_sae]
    have g8 : ga r18 8 = upd (ga c 8) L (nI (tks u n i)) := by rw [hr18, ga_sae]
    have gk : ∀ x, x ≠ 6 → x ≠ 7 → x ≠ 8 → ga r18 x = ga c x := fun x x1 x2 x3 => by rw [hr18, ga_san x3, ga_san x2, ga_san x1]
    have gik : ∀ x, gi r18 x = gi c x := fun x => by rw [hr18]; rfl
    have hA18 : At r18 u n i := h.to (gk 0 (by decide) (by decide) (by decide)) (fun x _ => gik x)
    obtain ⟨n1, n2⟩ := hA18.next
    obtain ⟨q, hq⟩ : ∃ q, q = nxR r18 u n (tke u n i) := ⟨_, rfl⟩
    rw [← hq] at n1 n2
    have qL : gi q 5 = nI L := by rw [hq, nxR_gi (by decide) (by decide) (by decide), gik]; exact hL
    have qa : ∀ x, ga q x = ga r18 x := fun x => by rw [hq]; rfl
    have qi : ∀ x, x ≠ 2 → x ≠ 3 → x ≠ 4 → gi q x = gi c x := fun x x1 x2 x3 => by rw [hq, nxR_gi x1 x2 x3]; exact gik x
    have e0 : fX4_readLine c (nI so) = (if nI v = 0 then bX4_readLine_68 q (nI v) else if nI v = 1 then bX4_readLine_68 q (nI v) else bX4_readLine_100 q (nI v)) := by
      have hL3 : gi (sa c 6 (upd (ga c 6) L (nI v))) 5 = nI L := hL
      have hL4 : gi (sa (sa c 6 (upd (ga c 6) L (nI v))) 7 (upd (ga c 7) L (-1))) 5 = nI L := hL
      have h33 : gi (sa (sa c 6 (upd (ga c 6) L (nI v))) 7 (upd (ga c 7) L (-1))) 3 = nI (tks u n i) := h.2.2.2.1
      unfold fX4_readLine
      rw [ev, bd_some, if_neg (m1_ne (by omega)), hL, if_pos (show nI L < 120 from (nI_ltI (b := 120) (by omega) (by decide)).mpr hL2), inR_nI hL2 (by decide), gd_true, bd_some, nI_clamp (by omega), hL3, inR_nI hL2 (by decide), gd_true, bd_some, nI_clamp (by omega), show ga (sa c 6 (upd (ga c 6) L (nI v))) 7 = ga c 7 from ga_san (by decide), hL4, inR_nI hL2 (by decide), gd_true, bd_some, nI_clamp (by omega), h33, show ga (sa (sa c 6 (upd (ga c 6) L (nI v))) 7 (upd (ga c 7) L (-1))) 8 = ga c 8 by rw [ga_san (by decide), ga_san (by decide)]]
      rw [show sa (sa (sa c 6 (upd (ga c 6) L (nI v))) 7 (upd (ga c 7) L (-1))) 8 (upd (ga c 8) L (nI (tks u n i))) = r18 from hr18.symm, n1, bd_some]
    by_cases c1 : v ≤ 1
    · have hoff : off v = 1 := if_pos c1
      have hqn : qn u n i v = tke u n (tke u n i) := by unfold qn; rw [hoff]; rfl
      have e1 : fX4_readLine c (nI so) = bX4_readLine_68 q (nI v) := by
        rw [e0]
        by_cases z : v = 0
        · rw [if_pos (show nI v = 0 by rw [z]; rfl)]
        · rw [if_neg (show ¬ nI v = 0 from fun y => z ((nI_eq (b := 0) (by omega) (by decide)).mp y)), if_pos (show nI v = 1 by rw [show v = 1 by omega]; rfl)]
      have e68 : ∀ x, fX4_kindOf q = some x → bX4_readLine_68 q (nI v) = (if x = -1 then some (sa q 7 (upd (ga q 7) L x), 0) else (fX4_nextToken (sa q 7 (upd (ga q 7) L x))).bind fun z10 => bX4_readLine_100 z10 (nI v)) := by
        intro x hx
        have qL2 : gi (sa q 7 (upd (ga q 7) L x)) 5 = nI L := qL
        unfold bX4_readLine_68
        rw [hx, bd_some, qL, inR_nI hL2 (by decide), gd_true, bd_some, nI_clamp (by omega), qL2, inR_nI hL2 (by decide), gd_true, nI_clamp (by omega), ga_sae, upd_if, if_pos rfl]
      rcases kindX n2 with ⟨k, k1, k2, k3, k4, ek⟩ | ⟨k1, ek⟩
      · obtain ⟨q8, hq8⟩ : ∃ q8, q8 = sa q 7 (upd (ga q 7) L (nI k)) := ⟨_, rfl⟩
        have hA8 : At q8 u n (tke u n i) := n2.to (by rw [hq8, ga_san (by decide)]) (fun x _ => by rw [hq8]; rfl)
        obtain ⟨m1, m2⟩ := hA8.next
        have hLL : gi (nxR q8 u n (tke u n (tke u n i))) 5 = nI L := by rw [nxR_gi (by decide) (by decide) (by decide), hq8]; exact qL
        have e2 : fX4_readLine c (nI so) = bX4_readLine_100 (nxR q8 u n (tke u n (tke u n i))) (nI v) := by
          rw [e1, e68 _ ek, if_neg (m1_ne (by omega)), ← hq8, m1, bd_some]
        have a7 : ga q8 7 = upd (ga c 7) L (nI k) := by rw [hq8, ga_sae, qa, g7, upd_upd]
        have ax : ∀ x, x ≠ 7 → ga q8 x = ga r18 x := fun x hx => by rw [hq8, ga_san hx]; exact qa x
        have ai : ∀ x, x ≠ 2 → x ≠ 3 → x ≠ 4 → gi q8 x = gi c x := fun x x1 x2 x3 => by rw [hq8]; exact qi x x1 x2 x3
        have hLV : LnV u n so i v k := ⟨v1, v2, ⟨v3, v4⟩, fun _ => ⟨k1, ⟨k2, k3⟩, k4⟩⟩
        rcases line100 m2 hv12 hLL hL2 with ⟨b1, b2, c', f1, f2, f3, f4, f5, f6, f7⟩ | ⟨j, b1, b2, b3, b4, c', f1, f2⟩
        · refine Or.inl ⟨v, k, ⟨hLV, by rw [hqn]; exact b1, by rw [hqn]; exact b2⟩, c', by rw [e2]; exact f1, by rw [hqn]; exact f2, f3, ?_, ?_, ?_, by rw [hqn]; exact f4, fun x hx => ?_, fun x hx => ?_, fun x x1 x2 x3 x4 => ?_⟩
          · rw [f5 6 (by decide) (by decide), nxR_ga, ax 6 (by decide)]; exact g6
          · rw [f5 7 (by decide) (by decide), nxR_ga, a7, if_pos c1]
          · rw [f5 8 (by decide) (by decide), nxR_ga, ax 8 (by decide)]; exact g8
          · have := f6 x hx
            rw [nxR_ga, nxR_ga, ax 9 (by decide), ax 10 (by decide), gk 9 (by decide) (by decide) (by decide), gk 10 (by decide) (by decide) (by decide)] at this
            exact this
          · rw [f5 x (by omega) (by omega), nxR_ga, ax x (by omega)]; exact gk x (by omega) (by omega) (by omega)
          · rw [f7 x x1 x2 x3 x4, nxR_gi x1 x2 x3]; exact ai x x1 x2 x3
        · refine Or.inr ⟨tks u n (pz u n (tke u n (tke u n i)) j), Or.inr (Or.inr ?_), c', by rw [e2]; exact f1, f2⟩
          by_cases cj : j < nmb v
          · exact Or.inl ⟨v, k, j, hLV, cj, by rw [hqn]; exact b2, by rw [hqn]; exact b3 cj, by rw [hqn]⟩
          · have cj : j = nmb v := by omega
            subst cj
            exact Or.inr ⟨v, k, hLV, by rw [hqn]; exact b2, by rw [hqn]; exact b4 rfl, by rw [hqn]⟩
      · refine Or.inr ⟨tks u n (tke u n i), Or.inr (Or.inl ⟨v, v1, v2, ⟨v3, v4⟩, c1, k1, rfl⟩), _, by rw [e1, e68 _ ek, if_pos (show -nI 1 = -1 from rfl)]; rfl, ?_⟩
        exact n2.2.2.2.1
    · have hoff : off v = 0 := if_neg c1
      have hqn : qn u n i v = tke u n i := by unfold qn; rw [hoff]; rfl
      have e2 : fX4_readLine c (nI so) = bX4_readLine_100 q (nI v) := by
        rw [e0, if_neg (show ¬ nI v = 0 from fun y => by have := (nI_eq (b := 0) (by omega) (by decide)).mp y; omega), if_neg (show ¬ nI v = 1 from fun y => by have := (nI_eq (b := 1) (by omega) (by decide)).mp y; omega)]
      have hLV : LnV u n so i v 0 := ⟨v1, v2, ⟨v3, v4⟩, fun z => absurd z c1⟩
      rcases line100 n2 hv12 qL hL2 with ⟨b1, b2, c', f1, f2, f3, f4, f5, f6, f7⟩ | ⟨j, b1, b2, b3, b4, c', f1, f2⟩
      · refine Or.inl ⟨v, 0, ⟨hLV, by rw [hqn]; exact b1, by rw [hqn]; exact b2⟩, c', by rw [e2]; exact f1, by rw [hqn]; exact f2, f3, ?_, ?_, ?_, by rw [hqn]; exact f4, fun x hx => ?_, fun x hx => ?_, fun x x1 x2 x3 x4 => ?_⟩
        · rw [f5 6 (by decide) (by decide), qa]; exact g6
        · rw [f5 7 (by decide) (by decide), qa, g7, if_neg c1]
        · rw [f5 8 (by decide) (by decide), qa]; exact g8
        · have := f6 x hx
          rw [qa, qa, gk 9 (by decide) (by decide) (by decide), gk 10 (by decide) (by decide) (by decide)] at this
          exact this
        · rw [f5 x (by omega) (by omega), qa]; exact gk x (by omega) (by omega) (by omega)
        · rw [f7 x x1 x2 x3 x4]; exact qi x x1 x2 x3
      · refine Or.inr ⟨tks u n (pz u n (tke u n i) j), Or.inr (Or.inr ?_), c', by rw [e2]; exact f1, f2⟩
        by_cases cj : j < nmb v
        · exact Or.inl ⟨v, 0, j, hLV, cj, by rw [hqn]; exact b2, by rw [hqn]; exact b3 cj, by rw [hqn]⟩
        · have cj : j = nmb v := by omega
          subst cj
          exact Or.inr ⟨v, 0, hLV, by rw [hqn]; exact b2, by rw [hqn]; exact b4 rfl, by rw [hqn]⟩
  · refine Or.inr ⟨tks u n i, Or.inl ⟨v1, rfl⟩, c, ?_, h.2.2.2.1⟩
    unfold fX4_readLine
    rw [ev, bd_some, if_pos (show -nI 1 = -1 from rfl)]
    rfl
