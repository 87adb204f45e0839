theorem MM.cg {m m' : Nat → Int32} {o p : Nat} {v : Rv} (h : MM m p v) (ok : v.1 ≤ 40) (e : ∀ x, x < 161 → m' (o + x) = m (p + x)) : MM m' o v := by
  refine ⟨?_, fun k hk c hc => ?_⟩
  · rw [show o = o + 0 from rfl, e 0 (by decide)]; exact h.1
  · rw [show o + 1 + 4 * k + c = o + (1 + 4 * k + c) by omega, e _ (by omega), show p + (1 + 4 * k + c) = p + 1 + 4 * k + c by omega]
    exact h.2 k hk c hc
theorem Inv.putM {g : Gs} {z : Rec} {v : Rv} {sl m : Nat} (hI : Inv g) (hs : sl < 2) (hm : m ≤ 2) (ok : MvOK v) (hx : MX z v) (hM : MM (ga (g 1001) 19) 0 v) : Inv (ug (ug (ug g 800 (sa (g 800) 4 (upd (ga (g 800) 4) 1 (nI m)))) (500 + sl) z) 1001 (sa (sa (g 1001) 5 (upd (ga (g 1001) 5) 1 (nI m))) 7 (va_cpy (ga (g 1001) 19) (ga (g 1001) 7) 0 (161 * sl) 161))) := by
  have hB := hI.2.1
  obtain ⟨a, b, c, d, e, f, p, q, s⟩ := hB
  have r5 : ∀ k, 4 ≤ k → upd (ga (g 1001) 5) 1 (nI m) k = ga (g 1001) 5 k := fun k hk => by rw [upd_if, if_neg (by omega)]
  have r6 : ∀ k, 322 ≤ k → va_cpy (ga (g 1001) 19) (ga (g 1001) 7) 0 (161 * sl) 161 k = ga (g 1001) 7 k := fun k hk => cpy_out (by omega)
  refine hI.mk0 (by rw [ug_ne (by omega), ug_ne (by decide)]) (by rw [ug_ne (by omega), ug_ne (by decide)]; exact hI.1) (fun t o h1 h3 ho => by unfold own at ho; rw [ug_ne (by omega), ug_ne (by omega)]) (fun t h1 h3 => BE.told0 h1 rfl (fun _ _ => rfl) (fun _ _ => rfl) (fun _ _ => rfl) r5 (fun _ _ => rfl) r6 (fun _ _ => rfl) (fun _ _ => rfl)) rfl ?_
  have e8 : (ug (ug g 800 (sa (g 800) 4 (upd (ga (g 800) 4) 1 (nI m)))) (500 + sl) z) 800 = sa (g 800) 4 (upd (ga (g 800) 4) 1 (nI m)) := by rw [ug_ne (by omega), ug_same]
  have eo : ∀ o, o ≠ 800 → o ≠ 500 + sl → (ug (ug g 800 (sa (g 800) 4 (upd (ga (g 800) 4) 1 (nI m)))) (500 + sl) z) o = g o := fun o h1 h2 => by rw [ug_ne h2, ug_ne h1]
  have new : ∀ i, i < 2 → (∃ v, MvOK v ∧ MX (g (500 + 6 * 0 + i)) v ∧ MM (ga (g 1001) 7) (161 * (2 * 0 + i)) v) → ∃ v, MvOK v ∧ MX ((ug (ug g 800 (sa (g 800) 4 (upd (ga (g 800) 4) 1 (nI m)))) (500 + sl) z) (500 + 6 * 0 + i)) v ∧ MM (va_cpy (ga (g 1001) 19) (ga (g 1001) 7) 0 (161 * sl) 161) (161 * (2 * 0 + i)) v := by
    intro i hi old
    by_cases ei : i = sl
    · subst ei
      refine ⟨v, ok, ?_, hM.cg ok.1 (fun x hx2 => ?_)⟩
      · rw [show 500 + 6 * 0 + i = 500 + i by omega, ug_same]; exact hx
      · rw [show 161 * (2 * 0 + i) + x = 161 * i + x by omega, cpy_in hx2, Nat.zero_add]
    · obtain ⟨w, w1, w2, w3⟩ := old
      exact ⟨w, w1, by rw [eo _ (by omega) (by omega)]; exact w2, w3.cg w1.1 (fun x hx => cpy_out (by omega))⟩
  unfold BR
  rw [show 800 + 0 = 800 from rfl, e8]
  refine ⟨a, b, c, d, cnt_put hm e, fun i hi => ?_, fun i hi => ?_, fun i hi => ?_, fun i hi => ?_⟩
  · rw [eo _ (by omega) (by omega)]; exact f i hi
  · exact new i hi (p i hi)
  · rw [eo _ (by omega) (by omega)]; exact q i hi
  · rw [eo _ (by omega) (by omega)]; exact s i hi
theorem DM.cg {m m' : Nat → Int32} {o p : Nat} {v : Rv} (h : DM m p v) (ok : v.1 ≤ 8) (e : ∀ x, x < 25 → m' (o + x) = m (p + x)) : DM m' o v := by
  refine ⟨?_, fun k hk c hc => ?_⟩
  · rw [show o = o + 0 from rfl, e 0 (by decide)]; exact h.1
  · rw [show o + 1 + 3 * k + c = o + (1 + 3 * k + c) by omega, e _ (by omega), show p + (1 + 3 * k + c) = p + 1 + 3 * k + c by omega]
    exact h.2 k hk c hc
theorem Inv.putD {g : Gs} {z : Rec} {v : Rv} {sl m : Nat} (hI : Inv g) (hs : sl < 2) (hm : m ≤ 2) (ok : DvOK v) (hx : DX z v) (hM : DM (ga (g 1001) 19) 0 v) : Inv (ug (ug (ug g 800 (sa (g 800) 4 (upd (ga (g 800) 4) 2 (nI m)))) (502 + sl) z) 1001 (sa (sa (g 1001) 5 (upd (ga (g 1001) 5) 2 (nI m))) 8 (va_cpy (ga (g 1001) 19) (ga (g 1001) 8) 0 (25 * sl) 25))) := by
  have hB := hI.2.1
  obtain ⟨a, b, c, d, e, f, p, q, s⟩ := hB
  have r5 : ∀ k, 4 ≤ k → upd (ga (g 1001) 5) 2 (nI m) k = ga (g 1001) 5 k := fun k hk => by rw [upd_if, if_neg (by omega)]
  have r6 : ∀ k, 50 ≤ k → va_cpy (ga (g 1001) 19) (ga (g 1001) 8) 0 (25 * sl) 25 k = ga (g 1001) 8 k := fun k hk => cpy_out (by omega)
  refine hI.mk0 (by rw [ug_ne (by omega), ug_ne (by decide)]) (by rw [ug_ne (by omega), ug_ne (by decide)]; exact hI.1) (fun t o h1 h3 ho => by unfold own at ho; rw [ug_ne (by omega), ug_ne (by omega)]) (fun t h1 h3 => BE.told0 h1 rfl (fun _ _ => rfl) (fun _ _ => rfl) (fun _ _ => rfl) r5 (fun _ _ => rfl) (fun _ _ => rfl) r6 (fun _ _ => rfl)) rfl ?_
  have e8 : (ug (ug g 800 (sa (g 800) 4 (upd (ga (g 800) 4) 2 (nI m)))) (502 + sl) z) 800 = sa (g 800) 4 (upd (ga (g 800) 4) 2 (nI m)) := by rw [ug_ne (by omega), ug_same]
  have eo : ∀ o, o ≠ 800 → o ≠ 502 + sl → (ug (ug g 800 (sa (g 800) 4 (upd (ga (g 800) 4) 2 (nI m)))) (502 + sl) z) o = g o := fun o h1 h2 => by rw [ug_ne h2, ug_ne h1]
  have new : ∀ i, i < 2 → (∃ v, DvOK v ∧ DX (g (502 + 6 * 0 + i)) v ∧ DM (ga (g 1001) 8) (25 * (2 * 0 + i)) v) → ∃ v, DvOK v ∧ DX ((ug (ug g 800 (sa (g 800) 4 (upd (ga (g 800) 4) 2 (nI m)))) (502 + sl) z) (502 + 6 * 0 + i)) v ∧ DM (va_cpy (ga (g 1001) 19) (ga (g 1001) 8) 0 (25 * sl) 25) (25 * (2 * 0 + i)) v := by
    intro i hi old
    by_cases ei : i = sl
    · subst ei
      refine ⟨v, ok, ?_, hM.cg ok.1 (fun x hx2 => ?_)⟩
      · rw [show 502 + 6 * 0 + i = 502 + i by omega, ug_same]; exact hx
      · rw [show 25 * (2 * 0 + i) + x = 25 * i + x by omega, cpy_in hx2, Nat.zero_add]
    · obtain ⟨w, w1, w2, w3⟩ := old
      exact ⟨w, w1, by rw [eo _ (by omega) (by omega)]; exact w2, w3.cg w1.1 (fun x hx => cpy_out (by omega))⟩
  unfold BR
  rw [show 800 + 0 = 800 from rfl, e8]
  refine ⟨a, b, c, d, cnt_put hm e, fun i hi => ?_, fun i hi => ?_, fun i hi => ?_, fun i hi => ?_⟩
  · rw [eo _ (by omega) (by omega)]; exact f i hi
  · rw [eo _ (by omega) (by omega)]; exact p i hi
  · exact new i hi (q i hi)
  · rw [eo _ (by omega) (by omega)]; exact s i hi
theorem LM.cg {m m' : Nat → Int32} {o p : Nat} {v : Rv} (h : LM m p v) (ok : v.1 ≤ 8) (e : ∀ x, x < 17 → m' (o + x) = m (p + x)) : LM m' o v := by
  refine ⟨?_, fun k hk c hc => ?_⟩
  · rw [show o = o + 0 from rfl, e 0 (by decide)]; exact h.1
  · rw [show o + 1 + 2 * k + c = o + (1 + 2 * k + c) by omega, e _ (by omega), show p + (1 + 2 * k + c) = p + 1 + 2 * k + c by omega]
    exact h.2 k hk c hc
theorem Inv.putL {g : Gs} {z : Rec} {v : Rv} {sl m : Nat} (hI : Inv g) (hs : sl < 2) (hm : m ≤ 2) (ok : LvOK v) (hx : LX z v) (hM : LM (ga (g 1001) 19) 0 v) : Inv (ug (ug (ug g 800 (sa (g 800) 4 (upd (ga (g 800) 4) 3 (nI m)))) (504 + sl) z) 1001 (sa (sa (g 1001) 5 (upd (ga (g 1001) 5) 3 (nI m))) 9 (va_cpy (ga (g 1001) 19) (ga (g 1001) 9) 0 (17 * sl) 17))) := by
  have hB := hI.2.1
  obtain ⟨a, b, c, d, e, f, p, q, s⟩ := hB
  have r5 : ∀ k, 4 ≤ k → upd (ga (g 1001) 5) 3 (nI m) k = ga (g 1001) 5 k := fun k hk => by rw [upd_if, if_neg (by omega)]
  have r6 : ∀ k, 34 ≤ k → va_cpy (ga (g 1001) 19) (ga (g 1001) 9) 0 (17 * sl) 17 k = ga (g 1001) 9 k := fun k hk => cpy_out (by omega)
  refine hI.mk0 (by rw [ug_ne (by omega), ug_ne (by decide)]) (by rw [ug_ne (by omega), ug_ne (by decide)]; exact hI.1) (fun t o h1 h3 ho => by unfold own at ho; rw [ug_ne (by omega), ug_ne (by omega)]) (fun t h1 h3 => BE.told0 h1 rfl (fun _ _ => rfl) (fun _ _ => rfl) (fun _ _ => rfl) r5 (fun _ _ => rfl) (fun _ _ => rfl) (fun _ _ => rfl) r6) rfl ?_
  have e8 : (ug (ug g 800 (sa (g 800) 4 (upd (ga (g 800) 4) 3 (nI m)))) (504 + sl) z) 800 = sa (g 800) 4 (upd (ga (g 800) 4) 3 (nI m)) := by rw [ug_ne (by omega), ug_same]
  have eo : ∀ o, o ≠ 800 → o ≠ 504 + sl → (ug (ug g 800 (sa (g 800) 4 (upd (ga (g 800) 4) 3 (nI m)))) (504 + sl) z) o = g o := fun o h1 h2 => by rw [ug_ne h2, ug_ne h1]
  have new : ∀ i, i < 2 → (∃ v, LvOK v ∧ LX (g (504 + 6 * 0 + i)) v ∧ LM (ga (g 1001) 9) (17 * (2 * 0 + i)) v) → ∃ v, LvOK v ∧ LX ((ug (ug g 800 (sa (g 800) 4 (upd (ga (g 800) 4) 3 (nI m)))) (504 + sl) z) (504 + 6 * 0 + i)) v ∧ LM (va_cpy (ga (g 1001) 19) (ga (g 1001) 9) 0 (17 * sl) 17) (17 * (2 * 0 + i)) v := by
    intro i hi old
    by_cases ei : i = sl
    · subst ei
      refine ⟨v, ok, ?_, hM.cg ok.1 (fun x hx2 => ?_)⟩
      · rw [show 504 + 6 * 0 + i = 504 + i by omega, ug_same]; exact hx
      · rw [show 17 * (2 * 0 + i) + x = 17 * i + x by omega, cpy_in hx2, Nat.zero_add]
    · obtain ⟨w, w1, w2, w3⟩ := old
      exact ⟨w, w1, by rw [eo _ (by omega) (by omega)]; exact w2, w3.cg w1.1 (fun x hx => cpy_out (by omega))⟩
  unfold BR
  rw [show 800 + 0 = 800 from rfl, e8]
  refine ⟨a, b, c, d, cnt_put hm e, fun i hi => ?_, fun i hi => ?_, fun i hi => ?_, fun i hi => ?_⟩
  · rw [eo _ (by omega) (by omega)]; exact f i hi
  · rw [eo _ (by omega) (by omega)]; exact p i hi
  · rw [eo _ (by omega) (by omega)]; exact q i hi
  · exact new i hi (s i hi)
