theorem text_m2 {g : Gs} (hI : Inv g) : Inv (ug (ug g 800 (tT0 g)) 1001 (tR0 (g 1001))) := by
  refine hI.mk0 (ug_ne (by decide)) (by rw [ug_ne (by decide)]; exact hI.1) (fun t o h1 h3 ho => ug_ne (fun z => by unfold own at ho; omega)) (fun t h1 h3 => BE.told0 h1 rfl (fun k hk => ?_) (fun k hk => ?_) (fun k hk => ?_) (fun _ _ => rfl) (fun _ _ => rfl) (fun _ _ => rfl) (fun _ _ => rfl) (fun _ _ => rfl)) rfl (hI.2.1.told0 (x := 0) (y := -1) ?_ ?_ ?_ ?_ ?_ (fun o ho => ug_ne (by omega)) rfl rfl rfl rfl (fun k k1 k2 => ?_))
  · show upd (ga (g 1001) 2) 0 0 k = _
    rw [upd_if, if_neg hk]
  · show upd (ga (g 1001) 3) 0 0 k = _
    rw [upd_if, if_neg hk]
  · show upd (ga (g 1001) 4) 0 (-1) k = _
    rw [upd_if, if_neg hk]
  · rw [ug_same]; rfl
  · rw [ug_same]; rfl
  · rw [ug_same]; rfl
  · rw [ug_same]; rfl
  · rw [ug_same]; rfl
  · unfold tR0
    rw [ga_san (by omega), ga_san (by omega), ga_san (by omega)]
    rfl
