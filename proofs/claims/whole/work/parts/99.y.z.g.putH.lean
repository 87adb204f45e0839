theorem cnt_put {g : Gs} {r : Rec} {so m : Nat} (hm : m ≤ 2) (h : ∀ k, k < 4 → ∃ x : Nat, x ≤ 2 ∧ ga (g 800) 4 k = nI x ∧ ga r 5 (4 * 0 + k) = nI x) : ∀ k, k < 4 → ∃ x : Nat, x ≤ 2 ∧ upd (ga (g 800) 4) so (nI m) k = nI x ∧ upd (ga r 5) so (nI m) (4 * 0 + k) = nI x := by
  intro k hk
  rw [upd_if, upd_if]
  by_cases e : k = so
  · exact ⟨m, hm, if_pos e, if_pos (by omega)⟩
  · rw [if_neg e, if_neg (by omega)]
    exact h k hk
theorem Inv.putH {g : Gs} {z : Rec} {v : Hv} {sl m : Nat} (hI : Inv g) (hs : sl < 2) (hm : m ≤ 2) (ok : HvOK v) (hx : HX z v) (hM : HM (ga (g 1001) 19) 0 v) : Inv (ug (ug (ug g 800 (sa (g 800) 4 (upd (ga (g 800) 4) 0 (nI m)))) (200 + sl) z) 1001 (sa (sa (g 1001) 5 (upd (ga (g 1001) 5) 0 (nI m))) 6 (va_cpy (ga (g 1001) 19) (ga (g 1001) 6) 0 (71 * sl) 71))) := by
  have hB := hI.2.1
  obtain ⟨a, b, c, d, e, f, p, q, s⟩ := hB
  refine hI.mk0 (by rw [ug_ne (by omega), ug_ne (by decide)]) (by rw [ug_ne (by omega), ug_ne (by decide)]; exact hI.1) (fun t o h1 h3 ho => by unfold own at ho; rw [ug_ne (by omega), ug_ne (by omega)]) (fun t h1 h3 => BE.told0 h1 rfl (fun _ _ => rfl) (fun _ _ => rfl) (fun _ _ => rfl) (fun k hk => ?_) (fun k hk => ?_) (fun _ _ => rfl) (fun _ _ => rfl) (fun _ _ => rfl)) rfl ?_
  · show upd (ga (g 1001) 5) 0 (nI m) k = _
    rw [upd_if, if_neg (by omega)]
  · show va_cpy (ga (g 1001) 19) (ga (g 1001) 6) 0 (71 * sl) 71 k = _
    exact cpy_out (by omega)
  · have e8 : (ug (ug g 800 (sa (g 800) 4 (upd (ga (g 800) 4) 0 (nI m)))) (200 + sl) z) 800 = sa (g 800) 4 (upd (ga (g 800) 4) 0 (nI m)) := by rw [ug_ne (by omega), ug_same]
    have eo : ∀ o, o ≠ 800 → o ≠ 200 + sl → (ug (ug g 800 (sa (g 800) 4 (upd (ga (g 800) 4) 0 (nI m)))) (200 + sl) z) o = g o := fun o h1 h2 => by rw [ug_ne h2, ug_ne h1]
    unfold BR
    rw [show 800 + 0 = 800 from rfl, e8]
    refine ⟨a, b, c, d, cnt_put hm e, fun i hi => ?_, fun i hi => ?_, fun i hi => ?_, fun i hi => ?_⟩
    · by_cases ei : i = sl
      · subst ei
        refine ⟨v, ok, ?_, ?_⟩
        · rw [show 200 + 2 * 0 + i = 200 + i by omega, ug_same]; exact hx
        · refine hM.shift ok (fun x hx2 => ?_)
          show va_cpy (ga (g 1001) 19) (ga (g 1001) 6) 0 (71 * i) 71 (71 * (2 * 0 + i) + x) = _
          rw [show 71 * (2 * 0 + i) + x = 71 * i + x by omega]
          exact cpy_in hx2
      · obtain ⟨w, w1, w2, w3⟩ := f i hi
        refine ⟨w, w1, by rw [eo _ (by omega) (by omega)]; exact w2, ?_⟩
        have : HM (va_cpy (ga (g 1001) 19) (ga (g 1001) 6) 0 (71 * sl) 71) (71 * (2 * 0 + i)) w := by
          have hk : ∀ x, x < 71 → va_cpy (ga (g 1001) 19) (ga (g 1001) 6) 0 (71 * sl) 71 (71 * (2 * 0 + i) + x) = ga (g 1001) 6 (71 * (2 * 0 + i) + x) := fun x hx => cpy_out (by omega)
          have hz : HM (fun y => ga (g 1001) 6 (71 * (2 * 0 + i) + y)) 0 w := by
            obtain ⟨h0, h1, h2, h3, h4, h5, h6, h7⟩ := w3
            refine ⟨h0, h1, h2, fun p hp => ?_, fun p hp => ?_, fun p hp => ?_, fun p hp => ?_, fun p hp => ?_⟩
            · show ga (g 1001) 6 _ = _; rw [show 71 * (2 * 0 + i) + (0 + 3 + p) = 71 * (2 * 0 + i) + 3 + p by omega]; exact h3 p hp
            · show ga (g 1001) 6 _ = _; rw [show 71 * (2 * 0 + i) + (0 + 11 + p) = 71 * (2 * 0 + i) + 11 + p by omega]; exact h4 p hp
            · show ga (g 1001) 6 _ = _; rw [show 71 * (2 * 0 + i) + (0 + 19 + p) = 71 * (2 * 0 + i) + 19 + p by omega]; exact h5 p hp
            · show ga (g 1001) 6 _ = _ ∧ ga (g 1001) 6 _ = _; rw [show 71 * (2 * 0 + i) + (0 + 27 + p) = 71 * (2 * 0 + i) + 27 + p by omega, show 71 * (2 * 0 + i) + (0 + 37 + p) = 71 * (2 * 0 + i) + 37 + p by omega]; exact h6 p hp
            · show ga (g 1001) 6 _ = _ ∧ ga (g 1001) 6 _ = _ ∧ ga (g 1001) 6 _ = _; rw [show 71 * (2 * 0 + i) + (0 + 47 + p) = 71 * (2 * 0 + i) + 47 + p by omega, show 71 * (2 * 0 + i) + (0 + 55 + p) = 71 * (2 * 0 + i) + 55 + p by omega, show 71 * (2 * 0 + i) + (0 + 63 + p) = 71 * (2 * 0 + i) + 63 + p by omega]; exact h7 p hp
          exact hz.shift w1 hk
        exact this
    · rw [eo _ (by omega) (by omega)]; exact p i hi
    · rw [eo _ (by omega) (by omega)]; exact q i hi
    · rw [eo _ (by omega) (by omega)]; exact s i hi
