theorem text_m2 {g : Gs} (hI : Inv g) : Inv (ug (ug g 800 (tT0 g)) 1001 (tR0 (g 1001))) := by
  refine hI.mk0 (ug_ne (by decide)) (by rw [ug_ne (by decide)]; exact hI.1) (fun t o h1 h3 ho => ug_ne (fun z => by unfold own at ho; omega)) (fun t h1 h3 => BE.told0 h1 rfl (fun k hk => ?_) (fun k hk => ?_) (fun k hk => ?_) (fun _ _ => rfl) (fun _ _ => rfl) (fun _ _ => rfl) (fun _ _ => rfl) (fun _ _ => rfl)) rfl (hI.2.1.told0 (x := 0) (y := -1) ?_ ?_ ?_ ?_ ?_ (fun o ho => ug_ne (by omega)) rfl rfl rfl rfl (fun k k1 k2 => ?_))
  · show upd (ga (g 1001) 2) 0 0 k = _
    rw [upd_if, if_neg hk]
  · show upd (ga (g 1001) 3) 0 0 k = _
    rw [upd_if, if_neg hk]
  · show upd (ga (g 1001) 4) 0 (-1) k = _
    rw [upd_if, if_neg hk]
  · rw [ug_same]; rfl
  · rw [ug_same]; rfl
  · rw [ug_same]; rfl
  · rw [ug_same]; rfl
  · rw [ug_same]; rfl
  · unfold tR0
    rw [ga_san (by omega), ga_san (by omega), ga_san (by omega)]
    rfl
theorem text_m1 {g : Gs} {c' r' : Rec} {x y : Int32} (hI : Inv g) (hF : Fr (tR0 (g 1001)) r') : Inv (ug (ug (ug (ug g 800 (tT0 g)) 401 c') 800 (si (si (tT0 g) 2 x) 3 y)) 1001 (ft r' x y)) := by
  have hr : ∀ k, k ≠ 2 → k ≠ 3 → k ≠ 4 → k ≠ 19 → k ≠ 20 → ga (ft r' x y) k = ga (g 1001) k := fun k h2 h3 h4 h5 h6 => by
    unfold ft
    rw [ga_san h4, ga_san h3, hF k h5 h6]
    unfold tR0
    rw [ga_san h4, ga_san h3, ga_san h2]
    rfl
  have hr2 : ga (ft r' x y) 2 = upd (ga (g 1001) 2) 0 0 := by
    unfold ft
    rw [ga_san (by decide), ga_san (by decide), hF 2 (by decide) (by decide)]
    rfl
  have hr3 : ga (ft r' x y) 3 = upd (upd (ga (g 1001) 3) 0 0) 0 x := by
    unfold ft
    rw [ga_san (by decide), ga_sae, hF 3 (by decide) (by decide)]
    rfl
  have hr4 : ga (ft r' x y) 4 = upd (upd (ga (g 1001) 4) 0 (-1)) 0 y := by
    unfold ft
    rw [ga_sae, hF 4 (by decide) (by decide)]
    rfl
  refine hI.mk0 (by rw [ug_ne (by decide), ug_ne (by decide), ug_ne (by decide)]) (by rw [ug_ne (by decide), ug_ne (by decide), ug_ne (by decide)]; exact hI.1) (fun t o h1 h3 ho => by unfold own at ho; rw [ug_ne (by omega), ug_ne (by omega), ug_ne (by omega)]) (fun t h1 h3 => BE.told0 h1 (hr 1 (by decide) (by decide) (by decide) (by decide) (by decide)) (fun k hk => by rw [hr2, upd_if, if_neg hk]) (fun k hk => by rw [hr3, upd_if, if_neg hk, upd_if, if_neg hk]) (fun k hk => by rw [hr4, upd_if, if_neg hk, upd_if, if_neg hk]) (fun _ _ => by rw [hr 5 (by decide) (by decide) (by decide) (by decide) (by decide)]) (fun _ _ => by rw [hr 6 (by decide) (by decide) (by decide) (by decide) (by decide)]) (fun _ _ => by rw [hr 7 (by decide) (by decide) (by decide) (by decide) (by decide)]) (fun _ _ => by rw [hr 8 (by decide) (by decide) (by decide) (by decide) (by decide)]) (fun _ _ => by rw [hr 9 (by decide) (by decide) (by decide) (by decide) (by decide)])) (hr 48 (by decide) (by decide) (by decide) (by decide) (by decide)) (hI.2.1.told0 (x := x) (y := y) ?_ ?_ ?_ ?_ ?_ (fun o ho => by rw [ug_ne (by omega), ug_ne (by omega), ug_ne (by omega)]) (hr 1 (by decide) (by decide) (by decide) (by decide) (by decide)) (by rw [hr2]; rfl) (by rw [hr3]; rfl) (by rw [hr4]; rfl) (fun k k1 k2 => hr k (by omega) (by omega) (by omega) (by omega) (by omega)))
  · rw [ug_same]; rfl
  · rw [ug_same]; rfl
  · rw [ug_same]; rfl
  · rw [ug_same]; rfl
  · rw [ug_same]; rfl
