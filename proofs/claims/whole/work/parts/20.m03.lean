noncomputable def fX10_worth (r : Rec) (v1 : Int32) (v2 : Int32) (v3 : Int32) : Option (Rec × Int32) :=
  (some (si r 0 0)).bind fun r1 => (fX10_hand r1 v1).bind fun z2 => if z2.2 = 0 then some ((z2.1, (-1))) else (fX10_isSecret z2.1 v2).bind fun z3 => if z3 = 0 then some ((z2.1, (-1))) else (fX10_isPiece z2.1 v3).bind fun z4 => if z4 = 0 then some ((z2.1, (-1))) else (fX10_worthNow z2.1 v2 v3).bind fun z5 => some ((z2.1, z5))
set_option maxRecDepth 100000 in
set_option maxHeartbeats 4000000 in
theorem wX10_worth_e {p : Program} {l : Launch} {e : Env} {s : State} {m : MethodId} {args : Array Value} {below : List Frame} {meth : Method} {c : Code} {Γ : Gm} {A : Nat → Prop} {G : Gs} {o : Nat} {r : Rec} {v1 : Int32} {v2 : Int32} {v3 : Int32} {q : (Rec × Int32)} {fin : Rec × Int32} (C : Cx p s m args meth c yX10_worth cX10_worth 4 (some .int) Γ A) (hk : kd Γ o = some 10) (hf : fX10_worth r v1 v2 v3 = some q) (hq : (fun x => x = fin) q) : Wk p l e { frames := 3, cells := 0, slots := 0, locals := 66 } s m args below meth c Γ A (ug G o fin.1) (some (.int fin.2)) 0 4 [(0, .ref (ad Γ o)), (1, .int v1), (2, .int v2), (3, .int v3)] [] (ug G o r) := by
  intro H locs ls hw hS hl
  unfold fX10_worth at hf
  obtain ⟨hx, hb, hml, hr, hown, htw, hlocks, hE⟩ := id C
  have hown : s.vm.findClass RX10 = some m.cls := hown
  refine lv_aload_n hx hb dX10_worth_0 rfl (lv_at hl 0 rfl) ?_
  refine lv_iconst (v := 0) hx hb dX10_worth_1 (by decide) ?_
  obtain ⟨r1, hr1, hf⟩ := bd hf
  have hr1 := Option.some.inj hr1
  refine wo_put (C := RX10) (T := TX10) (N := 49) (v := .int 0) (ty := .int) hx hb htw uwX10 tyX10 tyX10_ok nmX10 hown hE hw hS hk rfl rfl 0 (by decide) (htw _ mw1243) (fun _ h9 => h9) rfl (tyX10_ok 0 (by decide)) rfl rfl (Nat.le_of_ble_eq_true rfl) (st10_0 hr1) dX10_worth_2 (fun H locs hw hS => ?_)
  refine lv_aload_n hx hb dX10_worth_5 rfl (lv_at hl 0 rfl) ?_
  refine lv_iload_n hx hb dX10_worth_6 rfl (lv_at hl 1 rfl) ?_
  obtain ⟨z2, hz2, hf⟩ := bd hf
  refine cl_Vs (rest := []) (kX10_hand (l := l) (Γ := Γ) (A := A) (G := G) (o := o) hk hz2) ⟨hx, hb, hml, hown, htw⟩ hE hw hS (wo_me hw hk) (q0 := 0) rfl rfl mw1537 mw1539 mw65 mw129 mw1540 pdX10_hand ⟨Nat.le_of_ble_eq_true rfl, Nat.le_of_ble_eq_true rfl⟩ rfl rfl hl.1 (Nat.le_of_ble_eq_true rfl) dX10_worth_7 (fun H locs hw hS => ?_)
  refine lv_if_eq (tgt := 38) hx hb dX10_worth_10 (by decide) (fun c8 => ?_) (fun c8 => ?_)
  · have hf := ifp c8 hf
    refine lv_iconst (v := (-1)) hx hb dX10_worth_38 (by decide) ?_
    obtain rfl := Option.some.inj hf
    subst hq
    exact rt_i C hw hS dX10_worth_39
  · have hf := ifn c8 hf
    refine lv_aload_n hx hb dX10_worth_13 rfl (lv_at hl 0 rfl) ?_
    refine lv_iload_n hx hb dX10_worth_14 rfl (lv_at hl 2 rfl) ?_
    obtain ⟨z3, hz3, hf⟩ := bd hf
    refine cl_Vs (rest := []) (kX10_isSecret (l := l) (Γ := Γ) (A := A) (G := G) (o := o) hk hz3) ⟨hx, hb, hml, hown, htw⟩ hE hw hS (wo_me hw hk) (q0 := 0) rfl rfl mw1549 mw1551 mw67 mw129 mw1552 pdX10_isSecret ⟨Nat.le_of_ble_eq_true rfl, Nat.le_of_ble_eq_true rfl⟩ rfl rfl hl.1 (Nat.le_of_ble_eq_true rfl) dX10_worth_15 (fun H locs hw hS => ?_)
    refine lv_if_eq (tgt := 38) hx hb dX10_worth_18 (by decide) (fun c7 => ?_) (fun c7 => ?_)
    · have hf := ifp c7 hf
      refine lv_iconst (v := (-1)) hx hb dX10_worth_38 (by decide) ?_
      obtain rfl := Option.some.inj hf
      subst hq
      exact rt_i C hw hS dX10_worth_39
    · have hf := ifn c7 hf
      refine lv_aload_n hx hb dX10_worth_21 rfl (lv_at hl 0 rfl) ?_
      refine lv_iload_n hx hb dX10_worth_22 rfl (lv_at hl 3 rfl) ?_
      obtain ⟨z4, hz4, hf⟩ := bd hf
      refine cl_Vs (rest := []) (kX10_isPiece (l := l) (Γ := Γ) (A := A) (G := G) (o := o) hk hz4) ⟨hx, hb, hml, hown, htw⟩ hE hw hS (wo_me hw hk) (q0 := 0) rfl rfl mw1553 mw1555 mw68 mw129 mw1556 pdX10_isPiece ⟨Nat.le_of_ble_eq_true rfl, Nat.le_of_ble_eq_true rfl⟩ rfl rfl hl.1 (Nat.le_of_ble_eq_true rfl) dX10_worth_23 (fun H locs hw hS => ?_)
      refine lv_if_eq (tgt := 38) hx hb dX10_worth_26 (by decide) (fun c6 => ?_) (fun c6 => ?_)
      · have hf := ifp c6 hf
        refine lv_iconst (v := (-1)) hx hb dX10_worth_38 (by decide) ?_
        obtain rfl := Option.some.inj hf
        subst hq
        exact rt_i C hw hS dX10_worth_39
      · have hf := ifn c6 hf
        refine lv_aload_n hx hb dX10_worth_29 rfl (lv_at hl 0 rfl) ?_
        refine lv_iload_n hx hb dX10_worth_30 rfl (lv_at hl 2 rfl) ?_
        refine lv_iload_n hx hb dX10_worth_31 rfl (lv_at hl 3 rfl) ?_
        obtain ⟨z5, hz5, hf⟩ := bd hf
        refine cl_Vs (rest := []) (kX10_worthNow (l := l) (Γ := Γ) (A := A) (G := G) (o := o) hk hz5) ⟨hx, hb, hml, hown, htw⟩ hE hw hS (wo_me hw hk) (q0 := 0) rfl rfl mw1557 mw1559 mw69 mw129 mw1560 pdX10_worthNow ⟨Nat.le_of_ble_eq_true rfl, Nat.le_of_ble_eq_true rfl⟩ rfl rfl hl.1 (Nat.le_of_ble_eq_true rfl) dX10_worth_32 (fun H locs hw hS => ?_)
        refine lv_goto (tgt := 39) hx hb dX10_worth_35 (by decide) ?_
        obtain rfl := Option.some.inj hf
        subst hq
        exact rt_i C hw hS dX10_worth_39

theorem kX10_worth {l : Launch} {Γ : Gm} {A : Nat → Prop} {G : Gs} {o : Nat} {r : Rec} {v1 : Int32} {v2 : Int32} {v3 : Int32} {fin : Rec × Int32} (hk : kd Γ o = some 10) (hf : fX10_worth r v1 v2 v3 = some fin) : Kt l yX10_worth cX10_worth 4 (some .int) 3 66 Γ A (ug G o r) (ug G o fin.1) [.ref (ad Γ o), .int v1, .int v2, .int v3] (some (.int fin.2)) :=
  kt_of (by decide) (Nat.le_of_ble_eq_true rfl) (fun p e s m args below meth c C => wX10_worth_e C hk hf rfl)
theorem kgX10_worth {l : Launch} {Γ : Gm} {A : Nat → Prop} {G : Gs} {o : Nat} {v1 : Int32} {v2 : Int32} {v3 : Int32} {fin : Rec × Int32} (hk : kd Γ o = some 10) (hf : fX10_worth (G o) v1 v2 v3 = some fin) : Kt l yX10_worth cX10_worth 4 (some .int) 3 66 Γ A G (ug G o fin.1) [.ref (ad Γ o), .int v1, .int v2, .int v3] (some (.int fin.2)) := by
  have h := kX10_worth (l := l) (A := A) (G := G) (r := G o) hk hf
  rw [ug_self] at h
  exact h
noncomputable def fX10_deeds (r : Rec) : Option Int32 :=
  gd (inR (161 * (gi r 29)) 1288) (some (ga r 7 (Int32.toNatClampNeg (161 * (gi r 29)))))
set_option maxRecDepth 100000 in
set_option maxHeartbeats 4000000 in
theorem wX10_deeds_e {p : Program} {l : Launch} {e : Env} {s : State} {m : MethodId} {args : Array Value} {below : List Frame} {meth : Method} {c : Code} {Γ : Gm} {A : Nat → Prop} {G : Gs} {o : Nat} {r : Rec} {q : Int32} {fin : Int32} (C : Cx p s m args meth c yX10_deeds cX10_deeds 1 (some .int) Γ A) (hk : kd Γ o = some 10) (hf : fX10_deeds r = some q) (hq : (fun x => x = fin) q) : Wk p l e { frames := 0, cells := 0, slots := 0, locals := 0 } s m args below meth c Γ A (ug G o r) (some (.int fin)) 0 1 [(0, .ref (ad Γ o))] [] (ug G o r) := by
  intro H locs ls hw hS hl
  unfold fX10_deeds at hf
  obtain ⟨hx, hb, hml, hr, hown, htw, hlocks, hE⟩ := id C
  have hown : s.vm.findClass RX10 = some m.cls := hown
  refine lv_aload_n hx hb dX10_deeds_0 rfl (lv_at hl 0 rfl) ?_
  refine va_get (ci := 10) (v := .ref (aa Γ o 7)) (C := RX10) (T := TX10) (N := 49) hx hb htw uwX10 hown hE.1 (wo_me hw hk) 0 rfl rfl 7 (by decide) (htw _ mw1250) (fun _ h9 => h9) rfl dX10_deeds_1 ?_
  refine lv_sipush (v := 161) hx hb dX10_deeds_4 (by decide) ?_
  refine lv_aload_n hx hb dX10_deeds_7 rfl (lv_at hl 0 rfl) ?_
  refine va_get (ci := 10) (v := .int (gi r 29)) (C := RX10) (T := TX10) (N := 49) hx hb htw uwX10 hown hE.1 (wo_me hw hk) 0 rfl rfl 29 (by decide) (htw _ mw1272) (fun _ h9 => h9) rfl dX10_deeds_8 ?_
  refine lv_imul hx hb dX10_deeds_11 ?_
  obtain ⟨g1, hf⟩ := gd_some hf
  refine va_iald hx hb hE.1 (wo_me hw hk) 7 0 rfl rfl (inR_in g1) dX10_deeds_12 ?_
  obtain rfl := Option.some.inj hf
  subst hq
  exact rt_i C hw hS dX10_deeds_13

theorem kX10_deeds {l : Launch} {Γ : Gm} {A : Nat → Prop} {G : Gs} {o : Nat} {r : Rec} {fin : Int32} (hk : kd Γ o = some 10) (hf : fX10_deeds r = some fin) : Kt l yX10_deeds cX10_deeds 1 (some .int) 0 0 Γ A (ug G o r) (ug G o r) [.ref (ad Γ o)] (some (.int fin)) :=
  kt_of (by decide) (Nat.le_of_ble_eq_true rfl) (fun p e s m args below meth c C => wX10_deeds_e C hk hf rfl)
theorem kgX10_deeds {l : Launch} {Γ : Gm} {A : Nat → Prop} {G : Gs} {o : Nat} {fin : Int32} (hk : kd Γ o = some 10) (hf : fX10_deeds (G o) = some fin) : Kt l yX10_deeds cX10_deeds 1 (some .int) 0 0 Γ A G G [.ref (ad Γ o)] (some (.int fin)) := by
  have h := kX10_deeds (l := l) (A := A) (G := G) (r := G o) hk hf
  rw [ug_self] at h
  exact h
noncomputable def fX10_deedOf (r : Rec) (v1 : Int32) (v2 : Int32) : Option Int32 :=
  (some ((((161 * (gi r 29)) + 1) + (4 * v1)) + v2)).bind fun x1 => gd (inR x1 1288) (some (ga r 7 (Int32.toNatClampNeg x1)))
set_option maxRecDepth 100000 in
set_option maxHeartbeats 4000000 in
theorem wX10_deedOf_e {p : Program} {l : Launch} {e : Env} {s : State} {m : MethodId} {args : Array Value} {below : List Frame} {meth : Method} {c : Code} {Γ : Gm} {A : Nat → Prop} {G : Gs} {o : Nat} {r : Rec} {v1 : Int32} {v2 : Int32} {q : Int32} {fin : Int32} (C : Cx p s m args meth c yX10_deedOf cX10_deedOf 3 (some .int) Γ A) (hk : kd Γ o = some 10) (hf : fX10_deedOf r v1 v2 = some q) (hq : (fun x => x = fin) q) : Wk p l e { frames := 0, cells := 0, slots := 0, locals := 0 } s m args below meth c Γ A (ug G o r) (some (.int fin)) 0 3 [(0, .ref (ad Γ o)), (1, .int v1), (2, .int v2)] [] (ug G o r) := by
  intro H locs ls hw hS hl
  unfold fX10_deedOf at hf
  obtain ⟨hx, hb, hml, hr, hown, htw, hlocks, hE⟩ := id C
  have hown : s.vm.findClass RX10 = some m.cls := hown
  refine lv_aload_n hx hb dX10_deedOf_0 rfl (lv_at hl 0 rfl) ?_
  refine va_get (ci := 10) (v := .ref (aa Γ o 7)) (C := RX10) (T := TX10) (N := 49) hx hb htw uwX10 hown hE.1 (wo_me hw hk) 0 rfl rfl 7 (by decide) (htw _ mw1250) (fun _ h9 => h9) rfl dX10_deedOf_1 ?_
  refine lv_sipush (v := 161) hx hb dX10_deedOf_4 (by decide) ?_
  refine lv_aload_n hx hb dX10_deedOf_7 rfl (lv_at hl 0 rfl) ?_
  refine va_get (ci := 10) (v := .int (gi r 29)) (C := RX10) (T := TX10) (N := 49) hx hb htw uwX10 hown hE.1 (wo_me hw hk) 0 rfl rfl 29 (by decide) (htw _ mw1272) (fun _ h9 => h9) rfl dX10_deedOf_8 ?_
  refine lv_imul hx hb dX10_deedOf_11 ?_
  refine lv_iconst (v := 1) hx hb dX10_deedOf_12 (by decide) ?_
  refine lv_iadd hx hb dX10_deedOf_13 ?_
  refine lv_iconst (v := 4) hx hb dX10_deedOf_14 (by decide) ?_
  refine lv_iload_n hx hb dX10_deedOf_15 rfl (lv_at hl 1 rfl) ?_
  refine lv_imul hx hb dX10_deedOf_16 ?_
  refine lv_iadd hx hb dX10_deedOf_17 ?_
  refine lv_iload_n hx hb dX10_deedOf_18 rfl (lv_at hl 2 rfl) ?_
  refine lv_iadd hx hb dX10_deedOf_19 ?_
  obtain ⟨x1, hx1, hf⟩ := bd hf
  have hx1 := Option.some.inj hx1
  refine tp1i hx1 ?_
  obtain ⟨g2, hf⟩ := gd_some hf
  refine va_iald hx hb hE.1 (wo_me hw hk) 7 0 rfl rfl (inR_in g2) dX10_deedOf_20 ?_
  obtain rfl := Option.some.inj hf
  subst hq
  exact rt_i C hw hS dX10_deedOf_21

theorem kX10_deedOf {l : Launch} {Γ : Gm} {A : Nat → Prop} {G : Gs} {o : Nat} {r : Rec} {v1 : Int32} {v2 : Int32} {fin : Int32} (hk : kd Γ o = some 10) (hf : fX10_deedOf r v1 v2 = some fin) : Kt l yX10_deedOf cX10_deedOf 3 (some .int) 0 0 Γ A (ug G o r) (ug G o r) [.ref (ad Γ o), .int v1, .int v2] (some (.int fin)) :=
  kt_of (by decide) (Nat.le_of_ble_eq_true rfl) (fun p e s m args below meth c C => wX10_deedOf_e C hk hf rfl)
theorem kgX10_deedOf {l : Launch} {Γ : Gm} {A : Nat → Prop} {G : Gs} {o : Nat} {v1 : Int32} {v2 : Int32} {fin : Int32} (hk : kd Γ o = some 10) (hf : fX10_deedOf (G o) v1 v2 = some fin) : Kt l yX10_deedOf cX10_deedOf 3 (some .int) 0 0 Γ A G G [.ref (ad Γ o), .int v1, .int v2] (some (.int fin)) := by
  have h := kX10_deedOf (l := l) (A := A) (G := G) (r := G o) hk hf
  rw [ug_self] at h
  exact h
noncomputable def fX10_hasMonth (r : Rec) (v1 : Int32) : Option (Rec × Int32) :=
  (some (si r 29 v1)).bind fun r1 => (fX10_is r1 1 v1).bind fun z2 => gd (isB z2) (some ((r1, z2)))
set_option maxRecDepth 100000 in
set_option maxHeartbeats 4000000 in
theorem wX10_hasMonth_e {p : Program} {l : Launch} {e : Env} {s : State} {m : MethodId} {args : Array Value} {below : List Frame} {meth : Method} {c : Code} {Γ : Gm} {A : Nat → Prop} {G : Gs} {o : Nat} {r : Rec} {v1 : Int32} {q : (Rec × Int32)} {fin : Rec × Int32} (C : Cx p s m args meth c yX10_hasMonth cX10_hasMonth 2 (some .boolean) Γ A) (hk : kd Γ o = some 10) (hf : fX10_hasMonth r v1 = some q) (hq : (fun x => x = fin) q) : Wk p l e { frames := 2, cells := 0, slots := 0, locals := 44 } s m args below meth c Γ A (ug G o fin.1) (some (.int fin.2)) 0 2 [(0, .ref (ad Γ o)), (1, .int v1)] [] (ug G o r) := by
  intro H locs ls hw hS hl
  unfold fX10_hasMonth at hf
  obtain ⟨hx, hb, hml, hr, hown, htw, hlocks, hE⟩ := id C
  have hown : s.vm.findClass RX10 = some m.cls := hown
  refine lv_aload_n hx hb dX10_hasMonth_0 rfl (lv_at hl 0 rfl) ?_
  refine lv_iload_n hx hb dX10_hasMonth_1 rfl (lv_at hl 1 rfl) ?_
  obtain ⟨r1, hr1, hf⟩ := bd hf
  have hr1 := Option.some.inj hr1
  refine wo_put (C := RX10) (T := TX10) (N := 49) (v := .int v1) (ty := .int) hx hb htw uwX10 tyX10 tyX10_ok nmX10 hown hE hw hS hk rfl rfl 29 (by decide) (htw _ mw1272) (fun _ h9 => h9) rfl (tyX10_ok 29 (by decide)) rfl rfl (Nat.le_of_ble_eq_true rfl) (st10_29 hr1) dX10_hasMonth_2 (fun H locs hw hS => ?_)
  refine lv_aload_n hx hb dX10_hasMonth_5 rfl (lv_at hl 0 rfl) ?_
  refine lv_iconst (v := 1) hx hb dX10_hasMonth_6 (by decide) ?_
  refine lv_iload_n hx hb dX10_hasMonth_7 rfl (lv_at hl 1 rfl) ?_
  obtain ⟨z2, hz2, hf⟩ := bd hf
  refine cl_Vs (rest := []) (kX10_is (l := l) (Γ := Γ) (A := A) (G := G) (o := o) hk hz2) ⟨hx, hb, hml, hown, htw⟩ hE hw hS (wo_me hw hk) (q0 := 0) rfl rfl mw1411 mw1413 mw41 mw129 mw1414 pdX10_is ⟨Nat.le_of_ble_eq_true rfl, Nat.le_of_ble_eq_true rfl⟩ rfl rfl hl.1 (Nat.le_of_ble_eq_true rfl) dX10_hasMonth_8 (fun H locs hw hS => ?_)
  obtain ⟨g3, hf⟩ := gd_some hf
  obtain rfl := Option.some.inj hf
  subst hq
  exact rt_z C (isB_or g3) hw hS dX10_hasMonth_11

theorem kX10_hasMonth {l : Launch} {Γ : Gm} {A : Nat → Prop} {G : Gs} {o : Nat} {r : Rec} {v1 : Int32} {fin : Rec × Int32} (hk : kd Γ o = some 10) (hf : fX10_hasMonth r v1 = some fin) : Kt l yX10_hasMonth cX10_hasMonth 2 (some .boolean) 2 44 Γ A (ug G o r) (ug G o fin.1) [.ref (ad Γ o), .int v1] (some (.int fin.2)) :=
  kt_of (by decide) (Nat.le_of_ble_eq_true rfl) (fun p e s m args below meth c C => wX10_hasMonth_e C hk hf rfl)
theorem kgX10_hasMonth {l : Launch} {Γ : Gm} {A : Nat → Prop} {G : Gs} {o : Nat} {v1 : Int32} {fin : Rec × Int32} (hk : kd Γ o = some 10) (hf : fX10_hasMonth (G o) v1 = some fin) : Kt l yX10_hasMonth cX10_hasMonth 2 (some .boolean) 2 44 Γ A G (ug G o fin.1) [.ref (ad Γ o), .int v1] (some (.int fin.2)) := by
  have h := kX10_hasMonth (l := l) (A := A) (G := G) (r := G o) hk hf
  rw [ug_self] at h
  exact h
noncomputable def fX10_deed (r : Rec) (v1 : Int32) (v2 : Int32) (v3 : Int32) : Option (Rec × Int32) :=
  (some (si r 0 0)).bind fun r1 => (fX10_hasMonth r1 v1).bind fun z2 => if z2.2 = 0 then some ((z2.1, (-2))) else if v2 = (-1) then if v3 = 0 then (fX10_deeds z2.1).bind fun z9 => some ((z2.1, z9)) else some ((z2.1, (-2))) else (fX10_deeds z2.1).bind fun z3 => (fX10_in v2 0 (z3 - 1)).bind fun z4 => if z4 = 0 then some ((z2.1, (-2))) else (fX10_in v3 0 3).bind fun z5 => if z5 = 0 then some ((z2.1, (-2))) else (fX10_deedOf z2.1 v2 v3).bind fun z6 => some ((z2.1, z6))
set_option maxRecDepth 100000 in
set_option maxHeartbeats 4000000 in
theorem wX10_deed_e {p : Program} {l : Launch} {e : Env} {s : State} {m : MethodId} {args : Array Value} {below : List Frame} {meth : Method} {c : Code} {Γ : Gm} {A : Nat → Prop} {G : Gs} {o : Nat} {r : Rec} {v1 : Int32} {v2 : Int32} {v3 : Int32} {q : (Rec × Int32)} {fin : Rec × Int32} (C : Cx p s m args meth c yX10_deed cX10_deed 4 (some .int) Γ A) (hk : kd Γ o = some 10) (hf : fX10_deed r v1 v2 v3 = some q) (hq : (fun x => x = fin) q) : Wk p l e { frames := 3, cells := 0, slots := 0, locals := 65 } s m args below meth c Γ A (ug G o fin.1) (some (.int fin.2)) 0 4 [(0, .ref (ad Γ o)), (1, .int v1), (2, .int v2), (3, .int v3)] [] (ug G o r) := by
  intro H locs ls hw hS hl
  unfold fX10_deed at hf
  obtain ⟨hx, hb, hml, hr, hown, htw, hlocks, hE⟩ := id C
  have hown : s.vm.findClass RX10 = some m.cls := hown
  refine lv_aload_n hx hb dX10_deed_0 rfl (lv_at hl 0 rfl) ?_
  refine lv_iconst (v := 0) hx hb dX10_deed_1 (by decide) ?_
  obtain ⟨r1, hr1, hf⟩ := bd hf
  have hr1 := Option.some.inj hr1
  refine wo_put (C := RX10) (T := TX10) (N := 49) (v := .int 0) (ty := .int) hx hb htw uwX10 tyX10 tyX10_ok nmX10 hown hE hw hS hk rfl rfl 0 (by decide) (htw _ mw1243) (fun _ h9 => h9) rfl (tyX10_ok 0 (by decide)) rfl rfl (Nat.le_of_ble_eq_true rfl) (st10_0 hr1) dX10_deed_2 (fun H locs hw hS => ?_)
  refine lv_aload_n hx hb dX10_deed_5 rfl (lv_at hl 0 rfl) ?_
  refine lv_iload_n hx hb dX10_deed_6 rfl (lv_at hl 1 rfl) ?_
  obtain ⟨z2, hz2, hf⟩ := bd hf
  refine cl_Vs (rest := []) (kX10_hasMonth (l := l) (Γ := Γ) (A := A) (G := G) (o := o) hk hz2) ⟨hx, hb, hml, hown, htw⟩ hE hw hS (wo_me hw hk) (q0 := 0) rfl rfl mw1572 mw1574 mw71 mw129 mw1575 pdX10_hasMonth ⟨Nat.le_of_ble_eq_true rfl, Nat.le_of_ble_eq_true rfl⟩ rfl rfl hl.1 (Nat.le_of_ble_eq_true rfl) dX10_deed_7 (fun H locs hw hS => ?_)
  refine lv_if_ne (tgt := 16) hx hb dX10_deed_10 (by decide) (fun c12 => ?_) (fun c12 => ?_)
  · have hf := ifn c12 hf
    refine lv_iload_n hx hb dX10_deed_16 rfl (lv_at hl 2 rfl) ?_
    refine lv_iconst (v := (-1)) hx hb dX10_deed_17 (by decide) ?_
    refine lv_icmp_ne (tgt := 35) hx hb dX10_deed_18 (by decide) (fun c11 => ?_) (fun c11 => ?_)
    · have hf := ifn c11 hf
      refine lv_iload_n hx hb dX10_deed_35 rfl (lv_at hl 2 rfl) ?_
      refine lv_iconst (v := 0) hx hb dX10_deed_36 (by decide) ?_
      refine lv_aload_n hx hb dX10_deed_37 rfl (lv_at hl 0 rfl) ?_
      obtain ⟨z3, hz3, hf⟩ := bd hf
      refine cl_Vs (rest := [.int 0, .int v2]) (kX10_deeds (l := l) (Γ := Γ) (A := A) (G := G) (o := o) hk hz3) ⟨hx, hb, hml, hown, htw⟩ hE hw hS (wo_me hw hk) (q0 := 0) rfl rfl mw1576 mw1578 mw72 mw129 mw1579 pdX10_deeds ⟨Nat.le_of_ble_eq_true rfl, Nat.le_of_ble_eq_true rfl⟩ rfl rfl hl.1 (Nat.le_of_ble_eq_true rfl) dX10_deed_38 (fun H locs hw hS => ?_)
      refine lv_iconst (v := 1) hx hb dX10_deed_41 (by decide) ?_
      refine lv_isub hx hb dX10_deed_42 ?_
      obtain ⟨z4, hz4, hf⟩ := bd hf
      refine cl_Ss (rest := []) (kX10_in (l := l) (Γ := Γ) (A := A) (G := (ug G o z2.1)) hz4) ⟨hx, hb, hml, hown, htw⟩ hE hw hS mw1404 mw1405 mw129 mw1406 pdX10_in ⟨Nat.le_of_ble_eq_true rfl, Nat.le_of_ble_eq_true rfl⟩ rfl rfl hl.1 (Nat.le_of_ble_eq_true rfl) dX10_deed_43 (fun H locs hw hS => ?_)
      refine lv_if_eq (tgt := 67) hx hb dX10_deed_46 (by decide) (fun c8 => ?_) (fun c8 => ?_)
      · have hf := ifp c8 hf
        refine lv_bipush (v := (-2)) hx hb dX10_deed_67 (by decide) ?_
        obtain rfl := Option.some.inj hf
        subst hq
        exact rt_i C hw hS dX10_deed_69
      · have hf := ifn c8 hf
        refine lv_iload_n hx hb dX10_deed_49 rfl (lv_at hl 3 rfl) ?_
        refine lv_iconst (v := 0) hx hb dX10_deed_50 (by decide) ?_
        refine lv_iconst (v := 3) hx hb dX10_deed_51 (by decide) ?_
        obtain ⟨z5, hz5, hf⟩ := bd hf
        refine cl_Ss (rest := []) (kX10_in (l := l) (Γ := Γ) (A := A) (G := (ug G o z2.1)) hz5) ⟨hx, hb, hml, hown, htw⟩ hE hw hS mw1404 mw1405 mw129 mw1406 pdX10_in ⟨Nat.le_of_ble_eq_true rfl, Nat.le_of_ble_eq_true rfl⟩ rfl rfl hl.1 (Nat.le_of_ble_eq_true rfl) dX10_deed_52 (fun H locs hw hS => ?_)
        refine lv_if_eq (tgt := 67) hx hb dX10_deed_55 (by decide) (fun c7 => ?_) (fun c7 => ?_)
        · have hf := ifp c7 hf
          refine lv_bipush (v := (-2)) hx hb dX10_deed_67 (by decide) ?_
          obtain rfl := Option.some.inj hf
          subst hq
          exact rt_i C hw hS dX10_deed_69
        · have hf := ifn c7 hf
          refine lv_aload_n hx hb dX10_deed_58 rfl (lv_at hl 0 rfl) ?_
          refine lv_iload_n hx hb dX10_deed_59 rfl (lv_at hl 2 rfl) ?_
          refine lv_iload_n hx hb dX10_deed_60 rfl (lv_at hl 3 rfl) ?_
          obtain ⟨z6, hz6, hf⟩ := bd hf
          refine cl_Vs (rest := []) (kX10_deedOf (l := l) (Γ := Γ) (A := A) (G := G) (o := o) hk hz6) ⟨hx, hb, hml, hown, htw⟩ hE hw hS (wo_me hw hk) (q0 := 0) rfl rfl mw1580 mw1582 mw73 mw129 mw1583 pdX10_deedOf ⟨Nat.le_of_ble_eq_true rfl, Nat.le_of_ble_eq_true rfl⟩ rfl rfl hl.1 (Nat.le_of_ble_eq_true rfl) dX10_deed_61 (fun H locs hw hS => ?_)
          refine lv_goto (tgt := 69) hx hb dX10_deed_64 (by decide) ?_
          obtain rfl := Option.some.inj hf
          subst hq
          exact rt_i C hw hS dX10_deed_69
    · have hf := ifp c11 hf
      refine lv_iload_n hx hb dX10_deed_21 rfl (lv_at hl 3 rfl) ?_
      refine lv_if_ne (tgt := 32) hx hb dX10_deed_22 (by decide) (fun c10 => ?_) (fun c10 => ?_)
      · have hf := ifn c10 hf
        refine lv_bipush (v := (-2)) hx hb dX10_deed_32 (by decide) ?_
        obtain rfl := Option.some.inj hf
        subst hq
        exact rt_i C hw hS dX10_deed_34
      · have hf := ifp c10 hf
        refine lv_aload_n hx hb dX10_deed_25 rfl (lv_at hl 0 rfl) ?_
        obtain ⟨z9, hz9, hf⟩ := bd hf
        refine cl_Vs (rest := []) (kX10_deeds (l := l) (Γ := Γ) (A := A) (G := G) (o := o) hk hz9) ⟨hx, hb, hml, hown, htw⟩ hE hw hS (wo_me hw hk) (q0 := 0) rfl rfl mw1576 mw1578 mw72 mw129 mw1579 pdX10_deeds ⟨Nat.le_of_ble_eq_true rfl, Nat.le_of_ble_eq_true rfl⟩ rfl rfl hl.1 (Nat.le_of_ble_eq_true rfl) dX10_deed_26 (fun H locs hw hS => ?_)
        refine lv_goto (tgt := 34) hx hb dX10_deed_29 (by decide) ?_
        obtain rfl := Option.some.inj hf
        subst hq
        exact rt_i C hw hS dX10_deed_34
  · have hf := ifp c12 hf
    refine lv_bipush (v := (-2)) hx hb dX10_deed_13 (by decide) ?_
    obtain rfl := Option.some.inj hf
    subst hq
    exact rt_i C hw hS dX10_deed_15

theorem kX10_deed {l : Launch} {Γ : Gm} {A : Nat → Prop} {G : Gs} {o : Nat} {r : Rec} {v1 : Int32} {v2 : Int32} {v3 : Int32} {fin : Rec × Int32} (hk : kd Γ o = some 10) (hf : fX10_deed r v1 v2 v3 = some fin) : Kt l yX10_deed cX10_deed 4 (some .int) 3 65 Γ A (ug G o r) (ug G o fin.1) [.ref (ad Γ o), .int v1, .int v2, .int v3] (some (.int fin.2)) :=
  kt_of (by decide) (Nat.le_of_ble_eq_true rfl) (fun p e s m args below meth c C => wX10_deed_e C hk hf rfl)
theorem kgX10_deed {l : Launch} {Γ : Gm} {A : Nat → Prop} {G : Gs} {o : Nat} {v1 : Int32} {v2 : Int32} {v3 : Int32} {fin : Rec × Int32} (hk : kd Γ o = some 10) (hf : fX10_deed (G o) v1 v2 v3 = some fin) : Kt l yX10_deed cX10_deed 4 (some .int) 3 65 Γ A G (ug G o fin.1) [.ref (ad Γ o), .int v1, .int v2, .int v3] (some (.int fin.2)) := by
  have h := kX10_deed (l := l) (A := A) (G := G) (r := G o) hk hf
  rw [ug_self] at h
  exact h
noncomputable def bX10_begin_17 (r : Rec) (v1 : Int32) : Option ((Int32 × Rec) ⊕ Rec) :=
  if 8 ≤ v1 then some (.inr (r)) else gd (inR v1 8) ((some (sa r 33 (upd (ga r 33) (Int32.toNatClampNeg v1) 0))).bind fun r2 => gd (inR v1 8) ((some (sa r2 34 (upd (ga r2 34) (Int32.toNatClampNeg v1) 0))).bind fun r4 => some (.inl (v1 + 1, r4))))
set_option maxRecDepth 100000 in
set_option maxHeartbeats 4000000 in
theorem wX10_begin_17 {p : Program} {l : Launch} {e : Env} {s : State} {m : MethodId} {args : Array Value} {below : List Frame} {meth : Method} {c : Code} {Γ : Gm} {A : Nat → Prop} {G : Gs} {o : Nat} {r : Rec} {v1 : Int32} {q : ((Int32 × Rec) ⊕ Rec)} {fin : Rec} (C : Cx p s m args meth c yX10_begin cX10_begin 2 none Γ A) (hk : kd Γ o = some 10) (hf : bX10_begin_17 r v1 = some q) (hq : (KC (fun st : Int32 × Rec => Wk p l e { frames := 0, cells := 0, slots := 0, locals := 0 } s m args below meth c Γ A (ug G o fin) none 17 2 [(0, .ref (ad Γ o)), (1, .int st.1)] [] (ug G o st.2)) (fun x => x = fin)) q) : Wk p l e { frames := 0, cells := 0, slots := 0, locals := 0 } s m args below meth c Γ A (ug G o fin) none 17 2 [(0, .ref (ad Γ o)), (1, .int v1)] [] (ug G o r) := by
  intro H locs ls hw hS hl
  unfold bX10_begin_17 at hf
  obtain ⟨hx, hb, hml, hr, hown, htw, hlocks, hE⟩ := id C
  have hown : s.vm.findClass RX10 = some m.cls := hown
  refine lv_iload_n hx hb dX10_begin_17 rfl (lv_at hl 1 rfl) ?_
  refine lv_bipush (v := 8) hx hb dX10_begin_18 (by decide) ?_
  refine lv_icmp_ge (tgt := 43) hx hb dX10_begin_20 (by decide) (fun c5 => ?_) (fun c5 => ?_)
  · have hf := ifp c5 hf
    obtain rfl := Option.some.inj hf
    have hq := hq.2 _ rfl
    subst hq
    exact rt_v C hw hS dX10_begin_43
  · have hf := ifn c5 hf
    refine lv_aload_n hx hb dX10_begin_23 rfl (lv_at hl 0 rfl) ?_
    refine va_get (ci := 10) (v := .ref (aa Γ o 33)) (C := RX10) (T := TX10) (N := 49) hx hb htw uwX10 hown hE.1 (wo_me hw hk) 0 rfl rfl 33 (by decide) (htw _ mw1276) (fun _ h9 => h9) rfl dX10_begin_24 ?_
    refine lv_iload_n hx hb dX10_begin_27 rfl (lv_at hl 1 rfl) ?_
    refine lv_iconst (v := 0) hx hb dX10_begin_28 (by decide) ?_
    obtain ⟨g1, hf⟩ := gd_some hf
    obtain ⟨r2, hr2, hf⟩ := bd hf
    have hr2 := Option.some.inj hr2
    refine wo_iast hx hb hE hw hS hk (q0 := 13) rfl (inR_in g1) (sa10_33 hr2) dX10_begin_29 (fun H locs hw hS => ?_)
    refine lv_aload_n hx hb dX10_begin_30 rfl (lv_at hl 0 rfl) ?_
    refine va_get (ci := 10) (v := .ref (aa Γ o 34)) (C := RX10) (T := TX10) (N := 49) hx hb htw uwX10 hown hE.1 (wo_me hw hk) 0 rfl rfl 34 (by decide) (htw _ mw1277) (fun _ h9 => h9) rfl dX10_begin_31 ?_
    refine lv_iload_n hx hb dX10_begin_34 rfl (lv_at hl 1 rfl) ?_
    refine lv_iconst (v := 0) hx hb dX10_begin_35 (by decide) ?_
    obtain ⟨g3, hf⟩ := gd_some hf
    obtain ⟨r4, hr4, hf⟩ := bd hf
    have hr4 := Option.some.inj hr4
    refine wo_iast hx hb hE hw hS hk (q0 := 14) rfl (inR_in g3) (sa10_34 hr4) dX10_begin_36 (fun H locs hw hS => ?_)
    refine lv_iinc (v := v1 + 1) (lv' := [(1, .int (v1 + 1)), (0, .ref (ad Γ o))]) hx hb dX10_begin_37 hl (k := 1) rfl (by rfl) (by decide) rfl (fun ls hl => ?_)
    refine lv_goto (tgt := 17) hx hb dX10_begin_40 (by decide) ?_
    obtain rfl := Option.some.inj hf
    exact hq.1 _ rfl H locs ls hw hS (lv_sub hl [1, 0] rfl)

set_option maxRecDepth 100000 in
set_option maxHeartbeats 4000000 in
theorem lwX10_begin_17 {p : Program} {l : Launch} {e : Env} {s : State} {m : MethodId} {args : Array Value} {below : List Frame} {meth : Method} {c : Code} {Γ : Gm} {A : Nat → Prop} {G : Gs} {o : Nat} {r : Rec} {v1 : Int32} {q : Rec} {fin : Rec} (C : Cx p s m args meth c yX10_begin cX10_begin 2 none Γ A) (hk : kd Γ o = some 10) (hf : iter (fun st : Int32 × Rec => bX10_begin_17 st.2 st.1) (v1, r) = some q) (hq : (fun x => x = fin) q) : Wk p l e { frames := 0, cells := 0, slots := 0, locals := 0 } s m args below meth c Γ A (ug G o fin) none 17 2 [(0, .ref (ad Γ o)), (1, .int v1)] [] (ug G o r) := by
  intro H locs ls hw hS hl
  refine iter_walk (P := (fun st : Int32 × Rec => Wk p l e { frames := 0, cells := 0, slots := 0, locals := 0 } s m args below meth c Γ A (ug G o fin) none 17 2 [(0, .ref (ad Γ o)), (1, .int st.1)] [] (ug G o st.2))) (K := (fun x => x = fin)) (fun st q hq1 h1 h2 => ?_) hf hq H locs ls hw hS hl
  exact wX10_begin_17 (r := st.2) (v1 := st.1) C hk hq1 ⟨h1, h2⟩

noncomputable def fX10_begin (r : Rec) : Option Rec :=
  (some (si r 30 0)).bind fun r6 => (some (si r6 31 0)).bind fun r7 => (some (si r7 32 0)).bind fun r8 => iter (fun st : Int32 × Rec => bX10_begin_17 st.2 st.1) (0, r8)
set_option maxRecDepth 100000 in
set_option maxHeartbeats 4000000 in
theorem wX10_begin_e {p : Program} {l : Launch} {e : Env} {s : State} {m : MethodId} {args : Array Value} {below : List Frame} {meth : Method} {c : Code} {Γ : Gm} {A : Nat → Prop} {G : Gs} {o : Nat} {r : Rec} {q : Rec} {fin : Rec} (C : Cx p s m args meth c yX10_begin cX10_begin 2 none Γ A) (hk : kd Γ o = some 10) (hf : fX10_begin r = some q) (hq : (fun x => x = fin) q) : Wk p l e { frames := 0, cells := 0, slots := 0, locals := 0 } s m args below meth c Γ A (ug G o fin) none 0 2 [(0, .ref (ad Γ o))] [] (ug G o r) := by
  intro H locs ls hw hS hl
  unfold fX10_begin at hf
  obtain ⟨hx, hb, hml, hr, hown, htw, hlocks, hE⟩ := id C
  have hown : s.vm.findClass RX10 = some m.cls := hown
  refine lv_aload_n hx hb dX10_begin_0 rfl (lv_at hl 0 rfl) ?_
  refine lv_iconst (v := 0) hx hb dX10_begin_1 (by decide) ?_
  obtain ⟨r6, hr6, hf⟩ := bd hf
  have hr6 := Option.some.inj hr6
  refine wo_put (C := RX10) (T := TX10) (N := 49) (v := .int 0) (ty := .int) hx hb htw uwX10 tyX10 tyX10_ok nmX10 hown hE hw hS hk rfl rfl 30 (by decide) (htw _ mw1273) (fun _ h9 => h9) rfl (tyX10_ok 30 (by decide)) rfl rfl (Nat.le_of_ble_eq_true rfl) (st10_30 hr6) dX10_begin_2 (fun H locs hw hS => ?_)
  refine lv_aload_n hx hb dX10_begin_5 rfl (lv_at hl 0 rfl) ?_
  refine lv_iconst (v := 0) hx hb dX10_begin_6 (by decide) ?_
  obtain ⟨r7, hr7, hf⟩ := bd hf
  have hr7 := Option.some.inj hr7
  refine wo_put (C := RX10) (T := TX10) (N := 49) (v := .int 0) (ty := .int) hx hb htw uwX10 tyX10 tyX10_ok nmX10 hown hE hw hS hk rfl rfl 31 (by decide) (htw _ mw1274) (fun _ h9 => h9) rfl (tyX10_ok 31 (by decide)) rfl rfl (Nat.le_of_ble_eq_true rfl) (st10_31 hr7) dX10_begin_7 (fun H locs hw hS => ?_)
  refine lv_aload_n hx hb dX10_begin_10 rfl (lv_at hl 0 rfl) ?_
  refine lv_iconst (v := 0) hx hb dX10_begin_11 (by decide) ?_
  obtain ⟨r8, hr8, hf⟩ := bd hf
  have hr8 := Option.some.inj hr8
  refine wo_put (C := RX10) (T := TX10) (N := 49) (v := .int 0) (ty := .int) hx hb htw uwX10 tyX10 tyX10_ok nmX10 hown hE hw hS hk rfl rfl 32 (by decide) (htw _ mw1275) (fun _ h9 => h9) rfl (tyX10_ok 32 (by decide)) rfl rfl (Nat.le_of_ble_eq_true rfl) (st10_32 hr8) dX10_begin_12 (fun H locs hw hS => ?_)
  refine lv_iconst (v := 0) hx hb dX10_begin_15 (by decide) ?_
  refine lv_istore_n (lv' := [(1, .int 0), (0, .ref (ad Γ o))]) hx hb dX10_begin_16 rfl hl (by decide) rfl (fun ls hl => ?_)
  exact lwX10_begin_17 C hk hf hq H locs ls hw hS (lv_sub hl [1, 0] rfl)

theorem kX10_begin {l : Launch} {Γ : Gm} {A : Nat → Prop} {G : Gs} {o : Nat} {r : Rec} {fin : Rec} (hk : kd Γ o = some 10) (hf : fX10_begin r = some fin) : Kt l yX10_begin cX10_begin 2 none 0 0 Γ A (ug G o r) (ug G o fin) [.ref (ad Γ o)] none :=
  kt_of (by decide) (Nat.le_of_ble_eq_true rfl) (fun p e s m args below meth c C => wX10_begin_e C hk hf rfl)
theorem kgX10_begin {l : Launch} {Γ : Gm} {A : Nat → Prop} {G : Gs} {o : Nat} {fin : Rec} (hk : kd Γ o = some 10) (hf : fX10_begin (G o) = some fin) : Kt l yX10_begin cX10_begin 2 none 0 0 Γ A G (ug G o fin) [.ref (ad Γ o)] none := by
  have h := kX10_begin (l := l) (A := A) (G := G) (r := G o) hk hf
  rw [ug_self] at h
  exact h
noncomputable def fX10_isThere (r : Rec) (v1 : Int32) : Option Int32 :=
  (fX10_isPiece r v1).bind fun z1 => if z1 = 0 then some (0) else (fX10_has (gi r 31) v1).bind fun z2 => if z2 = 0 then some (1) else some (0)
set_option maxRecDepth 100000 in
set_option maxHeartbeats 4000000 in
theorem wX10_isThere_e {p : Program} {l : Launch} {e : Env} {s : State} {m : MethodId} {args : Array Value} {below : List Frame} {meth : Method} {c : Code} {Γ : Gm} {A : Nat → Prop} {G : Gs} {o : Nat} {r : Rec} {v1 : Int32} {q : Int32} {fin : Int32} (C : Cx p s m args meth c yX10_isThere cX10_isThere 2 (some .boolean) Γ A) (hk : kd Γ o = some 10) (hf : fX10_isThere r v1 = some q) (hq : (fun x => x = fin) q) : Wk p l e { frames := 2, cells := 0, slots := 0, locals := 43 } s m args below meth c Γ A (ug G o r) (some (.int fin)) 0 2 [(0, .ref (ad Γ o)), (1, .int v1)] [] (ug G o r) := by
  intro H locs ls hw hS hl
  unfold fX10_isThere at hf
  obtain ⟨hx, hb, hml, hr, hown, htw, hlocks, hE⟩ := id C
  have hown : s.vm.findClass RX10 = some m.cls := hown
  refine lv_aload_n hx hb dX10_isThere_0 rfl (lv_at hl 0 rfl) ?_
  refine lv_iload_n hx hb dX10_isThere_1 rfl (lv_at hl 1 rfl) ?_
  obtain ⟨z1, hz1, hf⟩ := bd hf
  refine cl_Vs (rest := []) (kX10_isPiece (l := l) (Γ := Γ) (A := A) (G := G) (o := o) hk hz1) ⟨hx, hb, hml, hown, htw⟩ hE hw hS (wo_me hw hk) (q0 := 0) rfl rfl mw1553 mw1555 mw68 mw129 mw1556 pdX10_isPiece ⟨Nat.le_of_ble_eq_true rfl, Nat.le_of_ble_eq_true rfl⟩ rfl rfl hl.1 (Nat.le_of_ble_eq_true rfl) dX10_isThere_2 (fun H locs hw hS => ?_)
  refine lv_if_eq (tgt := 23) hx hb dX10_isThere_5 (by decide) (fun c4 => ?_) (fun c4 => ?_)
  · have hf := ifp c4 hf
    refine lv_iconst (v := 0) hx hb dX10_isThere_23 (by decide) ?_
    obtain rfl := Option.some.inj hf
    subst hq
    exact rt_z C (Or.inl rfl) hw hS dX10_isThere_24
  · have hf := ifn c4 hf
    refine lv_aload_n hx hb dX10_isThere_8 rfl (lv_at hl 0 rfl) ?_
    refine va_get (ci := 10) (v := .int (gi r 31)) (C := RX10) (T := TX10) (N := 49) hx hb htw uwX10 hown hE.1 (wo_me hw hk) 0 rfl rfl 31 (by decide) (htw _ mw1274) (fun _ h9 => h9) rfl dX10_isThere_9 ?_
    refine lv_iload_n hx hb dX10_isThere_12 rfl (lv_at hl 1 rfl) ?_
    obtain ⟨z2, hz2, hf⟩ := bd hf
    refine cl_Ss (rest := []) (kX10_has (l := l) (Γ := Γ) (A := A) (G := (ug G o r)) hz2) ⟨hx, hb, hml, hown, htw⟩ hE hw hS mw1561 mw1562 mw129 mw1563 pdX10_has ⟨Nat.le_of_ble_eq_true rfl, Nat.le_of_ble_eq_true rfl⟩ rfl rfl hl.1 (Nat.le_of_ble_eq_true rfl) dX10_isThere_13 (fun H locs hw hS => ?_)
    refine lv_if_ne (tgt := 23) hx hb dX10_isThere_16 (by decide) (fun c3 => ?_) (fun c3 => ?_)
    · have hf := ifn c3 hf
      refine lv_iconst (v := 0) hx hb dX10_isThere_23 (by decide) ?_
      obtain rfl := Option.some.inj hf
      subst hq
      exact rt_z C (Or.inl rfl) hw hS dX10_isThere_24
    · have hf := ifp c3 hf
      refine lv_iconst (v := 1) hx hb dX10_isThere_19 (by decide) ?_
      refine lv_goto (tgt := 24) hx hb dX10_isThere_20 (by decide) ?_
      obtain rfl := Option.some.inj hf
      subst hq
      exact rt_z C (Or.inr rfl) hw hS dX10_isThere_24

theorem kX10_isThere {l : Launch} {Γ : Gm} {A : Nat → Prop} {G : Gs} {o : Nat} {r : Rec} {v1 : Int32} {fin : Int32} (hk : kd Γ o = some 10) (hf : fX10_isThere r v1 = some fin) : Kt l yX10_isThere cX10_isThere 2 (some .boolean) 2 43 Γ A (ug G o r) (ug G o r) [.ref (ad Γ o), .int v1] (some (.int fin)) :=
  kt_of (by decide) (Nat.le_of_ble_eq_true rfl) (fun p e s m args below meth c C => wX10_isThere_e C hk hf rfl)
theorem kgX10_isThere {l : Launch} {Γ : Gm} {A : Nat → Prop} {G : Gs} {o : Nat} {v1 : Int32} {fin : Int32} (hk : kd Γ o = some 10) (hf : fX10_isThere (G o) v1 = some fin) : Kt l yX10_isThere cX10_isThere 2 (some .boolean) 2 43 Γ A G G [.ref (ad Γ o), .int v1] (some (.int fin)) := by
  have h := kX10_isThere (l := l) (A := A) (G := G) (r := G o) hk hf
  rw [ug_self] at h
  exact h
noncomputable def bX10_tells_53 (r : Rec) (v1 : Int32) (v2 : Int32) : Option (Rec × Int32) :=
  gd (inR v2 8) ((some (si r 32 ((gi r 32) + (ga r 33 (Int32.toNatClampNeg v2))))).bind fun r2 => gd (inR v2 8) (gd (inR v2 8) ((some (sa r2 28 (upd (ga r2 28) (Int32.toNatClampNeg v2) ((ga r2 28 (Int32.toNatClampNeg v2)) ||| ((1 : Int32) <<< (v1 &&& 31)))))).bind fun r5 => some ((r5, 1)))))
set_option maxRecDepth 100000 in
set_option maxHeartbeats 4000000 in
theorem wX10_tells_53 {p : Program} {l : Launch} {e : Env} {s : State} {m : MethodId} {args : Array Value} {below : List Frame} {meth : Method} {c : Code} {Γ : Gm} {A : Nat → Prop} {G : Gs} {o : Nat} {r : Rec} {v1 : Int32} {v2 : Int32} {q : (Rec × Int32)} {fin : Rec × Int32} (C : Cx p s m args meth c yX10_tells cX10_tells 4 (some .boolean) Γ A) (hk : kd Γ o = some 10) (hf : bX10_tells_53 r v1 v2 = some q) (hq : (fun x => x = fin) q) : Wk p l e { frames := 3, cells := 0, slots := 0, locals := 65 } s m args below meth c Γ A (ug G o fin.1) (some (.int fin.2)) 53 4 [(0, .ref (ad Γ o)), (1, .int v1), (2, .int v2)] [] (ug G o r) := by
  intro H locs ls hw hS hl
  unfold bX10_tells_53 at hf
  obtain ⟨hx, hb, hml, hr, hown, htw, hlocks, hE⟩ := id C
  have hown : s.vm.findClass RX10 = some m.cls := hown
  refine lv_aload_n hx hb dX10_tells_53 rfl (lv_at hl 0 rfl) ?_
  refine lv_dup hx hb dX10_tells_54 rfl ?_
  refine va_get (ci := 10) (v := .int (gi r 32)) (C := RX10) (T := TX10) (N := 49) hx hb htw uwX10 hown hE.1 (wo_me hw hk) 0 rfl rfl 32 (by decide) (htw _ mw1275) (fun _ h9 => h9) rfl dX10_tells_55 ?_
  refine lv_aload_n hx hb dX10_tells_58 rfl (lv_at hl 0 rfl) ?_
  refine va_get (ci := 10) (v := .ref (aa Γ o 33)) (C := RX10) (T := TX10) (N := 49) hx hb htw uwX10 hown hE.1 (wo_me hw hk) 0 rfl rfl 33 (by decide) (htw _ mw1276) (fun _ h9 => h9) rfl dX10_tells_59 ?_
  refine lv_iload_n hx hb dX10_tells_62 rfl (lv_at hl 2 rfl) ?_
  obtain ⟨g1, hf⟩ := gd_some hf
  refine va_iald hx hb hE.1 (wo_me hw hk) 13 0 rfl rfl (inR_in g1) dX10_tells_63 ?_
  refine lv_iadd hx hb dX10_tells_64 ?_
  obtain ⟨r2, hr2, hf⟩ := bd hf
  have hr2 := Option.some.inj hr2
  refine wo_put (C := RX10) (T := TX10) (N := 49) (v := .int ((gi r 32) + (ga r 33 (Int32.toNatClampNeg v2)))) (ty := .int) hx hb htw uwX10 tyX10 tyX10_ok nmX10 hown hE hw hS hk rfl rfl 32 (by decide) (htw _ mw1275) (fun _ h9 => h9) rfl (tyX10_ok 32 (by decide)) rfl rfl (Nat.le_of_ble_eq_true rfl) (st10_32 hr2) dX10_tells_65 (fun H locs hw hS => ?_)
  refine lv_aload_n hx hb dX10_tells_68 rfl (lv_at hl 0 rfl) ?_
  refine va_get (ci := 10) (v := .ref (aa Γ o 28)) (C := RX10) (T := TX10) (N := 49) hx hb htw uwX10 hown hE.1 (wo_me hw hk) 0 rfl rfl 28 (by decide) (htw _ mw1271) (fun _ h9 => h9) rfl dX10_tells_69 ?_
  refine lv_iload_n hx hb dX10_tells_72 rfl (lv_at hl 2 rfl) ?_
  refine lv_dup2_11 hx hb dX10_tells_73 rfl rfl ?_
  obtain ⟨g3, hf⟩ := gd_some hf
  refine va_iald hx hb hE.1 (wo_me hw hk) 12 0 rfl rfl (inR_in g3) dX10_tells_74 ?_
  refine lv_iconst (v := 1) hx hb dX10_tells_75 (by decide) ?_
  refine lv_iload_n hx hb dX10_tells_76 rfl (lv_at hl 1 rfl) ?_
  refine lv_ishl hx hb dX10_tells_77 ?_
  refine lv_ior hx hb dX10_tells_78 ?_
  obtain ⟨g4, hf⟩ := gd_some hf
  obtain ⟨r5, hr5, hf⟩ := bd hf
  have hr5 := Option.some.inj hr5
  refine wo_iast hx hb hE hw hS hk (q0 := 12) rfl (inR_in g4) (sa10_28 hr5) dX10_tells_79 (fun H locs hw hS => ?_)
  refine lv_iconst (v := 1) hx hb dX10_tells_80 (by decide) ?_
  obtain rfl := Option.some.inj hf
  subst hq
  exact rt_z C (Or.inr rfl) hw hS dX10_tells_81

noncomputable def bX10_tells_46 (r : Rec) (v1 : Int32) (v2 : Int32) (v3 : Int32) (s0 : Int32) (s1 : Int32) : Option ((Int32 × Rec) ⊕ (Rec × Int32)) :=
  gd (inR s1 8) ((some (sa r 33 (upd (ga r 33) (Int32.toNatClampNeg s1) s0))).bind fun r7 => some (.inl (v3 + 1, r7)))
set_option maxRecDepth 100000 in
set_option maxHeartbeats 4000000 in
theorem wX10_tells_46 {p : Program} {l : Launch} {e : Env} {s : State} {m : MethodId} {args : Array Value} {below : List Frame} {meth : Method} {c : Code} {Γ : Gm} {A : Nat → Prop} {G : Gs} {o : Nat} {r : Rec} {v1 : Int32} {v2 : Int32} {v3 : Int32} {s0 : Int32} {s1 : Int32} {q : ((Int32 × Rec) ⊕ (Rec × Int32))} {fin : Rec × Int32} (C : Cx p s m args meth c yX10_tells cX10_tells 4 (some .boolean) Γ A) (hk : kd Γ o = some 10) (hf : bX10_tells_46 r v1 v2 v3 s0 s1 = some q) (hq : (KC (fun st : Int32 × Rec => Wk p l e { frames := 3, cells := 0, slots := 0, locals := 65 } s m args below meth c Γ A (ug G o fin.1) (some (.int fin.2)) 20 4 [(0, .ref (ad Γ o)), (1, .int v1), (2, .int v2), (3, .int st.1)] [] (ug G o st.2)) (fun x => x = fin)) q) : Wk p l e { frames := 3, cells := 0, slots := 0, locals := 65 } s m args below meth c Γ A (ug G o fin.1) (some (.int fin.2)) 46 4 [(0, .ref (ad Γ o)), (1, .int v1), (2, .int v2), (3, .int v3)] [.int s0, .int s1, .ref (aa Γ o 33)] (ug G o r) := by
  intro H locs ls hw hS hl
  unfold bX10_tells_46 at hf
  obtain ⟨hx, hb, hml, hr, hown, htw, hlocks, hE⟩ := id C
  have hown : s.vm.findClass RX10 = some m.cls := hown
  obtain ⟨g6, hf⟩ := gd_some hf
  obtain ⟨r7, hr7, hf⟩ := bd hf
  have hr7 := Option.some.inj hr7
  refine wo_iast hx hb hE hw hS hk (q0 := 13) rfl (inR_in g6) (sa10_33 hr7) dX10_tells_46 (fun H locs hw hS => ?_)
  refine lv_iinc (v := v3 + 1) (lv' := [(3, .int (v3 + 1)), (0, .ref (ad Γ o)), (1, .int v1), (2, .int v2)]) hx hb dX10_tells_47 hl (k := 3) rfl (by rfl) (by decide) rfl (fun ls hl => ?_)
  refine lv_goto (tgt := 20) hx hb dX10_tells_50 (by decide) ?_
  obtain rfl := Option.some.inj hf
  exact hq.1 _ rfl H locs ls hw hS (lv_sub hl [1, 2, 3, 0] rfl)

noncomputable def bX10_tells_20 (r : Rec) (v1 : Int32) (v2 : Int32) (v3 : Int32) : Option ((Int32 × Rec) ⊕ (Rec × Int32)) :=
  if 8 ≤ v3 then out1 (bX10_tells_53 r v1 v2) else if v3 = v2 then (fX10_worthNow r v1 v2).bind fun z9 => bX10_tells_46 r v1 v2 v3 z9 v3 else bX10_tells_46 r v1 v2 v3 0 v3
set_option maxRecDepth 100000 in
set_option maxHeartbeats 4000000 in
theorem wX10_tells_20 {p : Program} {l : Launch} {e : Env} {s : State} {m : MethodId} {args : Array Value} {below : List Frame} {meth : Method} {c : Code} {Γ : Gm} {A : Nat → Prop} {G : Gs} {o : Nat} {r : Rec} {v1 : Int32} {v2 : Int32} {v3 : Int32} {q : ((Int32 × Rec) ⊕ (Rec × Int32))} {fin : Rec × Int32} (C : Cx p s m args meth c yX10_tells cX10_tells 4 (some .boolean) Γ A) (hk : kd Γ o = some 10) (hf : bX10_tells_20 r v1 v2 v3 = some q) (hq : (KC (fun st : Int32 × Rec => Wk p l e { frames := 3, cells := 0, slots := 0, locals := 65 } s m args below meth c Γ A (ug G o fin.1) (some (.int fin.2)) 20 4 [(0, .ref (ad Γ o)), (1, .int v1), (2, .int v2), (3, .int st.1)] [] (ug G o st.2)) (fun x => x = fin)) q) : Wk p l e { frames := 3, cells := 0, slots := 0, locals := 65 } s m args below meth c Γ A (ug G o fin.1) (some (.int fin.2)) 20 4 [(0, .ref (ad Γ o)), (1, .int v1), (2, .int v2), (3, .int v3)] [] (ug G o r) := by
  intro H locs ls hw hS hl
  unfold bX10_tells_20 at hf
  obtain ⟨hx, hb, hml, hr, hown, htw, hlocks, hE⟩ := id C
  have hown : s.vm.findClass RX10 = some m.cls := hown
  refine lv_iload_n hx hb dX10_tells_20 rfl (lv_at hl 3 rfl) ?_
  refine lv_bipush (v := 8) hx hb dX10_tells_21 (by decide) ?_
  refine lv_icmp_ge (tgt := 53) hx hb dX10_tells_23 (by decide) (fun c11 => ?_) (fun c11 => ?_)
  · have hf := ifp c11 hf
    obtain ⟨q8, hfq8, eq8⟩ := out1_some hf
    subst eq8
    have hf := hfq8
    have hq := hq.2 _ rfl
    exact wX10_tells_53 C hk hf hq H locs ls hw hS (lv_sub hl [0, 1, 2] rfl)
  · have hf := ifn c11 hf
    refine lv_aload_n hx hb dX10_tells_26 rfl (lv_at hl 0 rfl) ?_
    refine va_get (ci := 10) (v := .ref (aa Γ o 33)) (C := RX10) (T := TX10) (N := 49) hx hb htw uwX10 hown hE.1 (wo_me hw hk) 0 rfl rfl 33 (by decide) (htw _ mw1276) (fun _ h9 => h9) rfl dX10_tells_27 ?_
    refine lv_iload_n hx hb dX10_tells_30 rfl (lv_at hl 3 rfl) ?_
    refine lv_iload_n hx hb dX10_tells_31 rfl (lv_at hl 3 rfl) ?_
    refine lv_iload_n hx hb dX10_tells_32 rfl (lv_at hl 2 rfl) ?_
    refine lv_icmp_ne (tgt := 45) hx hb dX10_tells_33 (by decide) (fun c10 => ?_) (fun c10 => ?_)
    · have hf := ifn c10 hf
      refine lv_iconst (v := 0) hx hb dX10_tells_45 (by decide) ?_
      exact wX10_tells_46 C hk hf hq H locs ls hw hS hl
    · have hf := ifp c10 hf
      refine lv_aload_n hx hb dX10_tells_36 rfl (lv_at hl 0 rfl) ?_
      refine lv_iload_n hx hb dX10_tells_37 rfl (lv_at hl 1 rfl) ?_
      refine lv_iload_n hx hb dX10_tells_38 rfl (lv_at hl 2 rfl) ?_
      obtain ⟨z9, hz9, hf⟩ := bd hf
      refine cl_Vs (rest := [.int v3, .ref (aa Γ o 33)]) (kX10_worthNow (l := l) (Γ := Γ) (A := A) (G := G) (o := o) hk hz9) ⟨hx, hb, hml, hown, htw⟩ hE hw hS (wo_me hw hk) (q0 := 0) rfl rfl mw1557 mw1559 mw69 mw129 mw1560 pdX10_worthNow ⟨Nat.le_of_ble_eq_true rfl, Nat.le_of_ble_eq_true rfl⟩ rfl rfl hl.1 (Nat.le_of_ble_eq_true rfl) dX10_tells_39 (fun H locs hw hS => ?_)
      refine lv_goto (tgt := 46) hx hb dX10_tells_42 (by decide) ?_
      exact wX10_tells_46 C hk hf hq H locs ls hw hS hl

set_option maxRecDepth 100000 in
set_option maxHeartbeats 4000000 in
theorem lwX10_tells_20 {p : Program} {l : Launch} {e : Env} {s : State} {m : MethodId} {args : Array Value} {below : List Frame} {meth : Method} {c : Code} {Γ : Gm} {A : Nat → Prop} {G : Gs} {o : Nat} {r : Rec} {v1 : Int32} {v2 : Int32} {v3 : Int32} {q : (Rec × Int32)} {fin : Rec × Int32} (C : Cx p s m args meth c yX10_tells cX10_tells 4 (some .boolean) Γ A) (hk : kd Γ o = some 10) (hf : iter (fun st : Int32 × Rec => bX10_tells_20 st.2 v1 v2 st.1) (v3, r) = some q) (hq : (fun x => x = fin) q) : Wk p l e { frames := 3, cells := 0, slots := 0, locals := 65 } s m args below meth c Γ A (ug G o fin.1) (some (.int fin.2)) 20 4 [(0, .ref (ad Γ o)), (1, .int v1), (2, .int v2), (3, .int v3)] [] (ug G o r) := by
  intro H locs ls hw hS hl
  refine iter_walk (P := (fun st : Int32 × Rec => Wk p l e { frames := 3, cells := 0, slots := 0, locals := 65 } s m args below meth c Γ A (ug G o fin.1) (some (.int fin.2)) 20 4 [(0, .ref (ad Γ o)), (1, .int v1), (2, .int v2), (3, .int st.1)] [] (ug G o st.2))) (K := (fun x => x = fin)) (fun st q hq1 h1 h2 => ?_) hf hq H locs ls hw hS hl
  exact wX10_tells_20 (r := st.2) (v3 := st.1) C hk hq1 ⟨h1, h2⟩

noncomputable def fX10_tells (r : Rec) (v1 : Int32) (v2 : Int32) : Option (Rec × Int32) :=
  (fX10_isSecret r v1).bind fun z12 => if z12 = 0 then some ((r, 0)) else (fX10_isThere r v2).bind fun z13 => if z13 = 0 then some ((r, 0)) else iter (fun st : Int32 × Rec => bX10_tells_20 st.2 v1 v2 st.1) (0, r)
set_option maxRecDepth 100000 in
set_option maxHeartbeats 4000000 in
theorem wX10_tells_e {p : Program} {l : Launch} {e : Env} {s : State} {m : MethodId} {args : Array Value} {below : List Frame} {meth : Method} {c : Code} {Γ : Gm} {A : Nat → Prop} {G : Gs} {o : Nat} {r : Rec} {v1 : Int32} {v2 : Int32} {q : (Rec × Int32)} {fin : Rec × Int32} (C : Cx p s m args meth c yX10_tells cX10_tells 4 (some .boolean) Γ A) (hk : kd Γ o = some 10) (hf : fX10_tells r v1 v2 = some q) (hq : (fun x => x = fin) q) : Wk p l e { frames := 3, cells := 0, slots := 0, locals := 65 } s m args below meth c Γ A (ug G o fin.1) (some (.int fin.2)) 0 4 [(0, .ref (ad Γ o)), (1, .int v1), (2, .int v2)] [] (ug G o r) := by
  intro H locs ls hw hS hl
  unfold fX10_tells at hf
  obtain ⟨hx, hb, hml, hr, hown, htw, hlocks, hE⟩ := id C
  have hown : s.vm.findClass RX10 = some m.cls := hown
  refine lv_aload_n hx hb dX10_tells_0 rfl (lv_at hl 0 rfl) ?_
  refine lv_iload_n hx hb dX10_tells_1 rfl (lv_at hl 1 rfl) ?_
  obtain ⟨z12, hz12, hf⟩ := bd hf
  refine cl_Vs (rest := []) (kX10_isSecret (l := l) (Γ := Γ) (A := A) (G := G) (o := o) hk hz12) ⟨hx, hb, hml, hown, htw⟩ hE hw hS (wo_me hw hk) (q0 := 0) rfl rfl mw1549 mw1551 mw67 mw129 mw1552 pdX10_isSecret ⟨Nat.le_of_ble_eq_true rfl, Nat.le_of_ble_eq_true rfl⟩ rfl rfl hl.1 (Nat.le_of_ble_eq_true rfl) dX10_tells_2 (fun H locs hw hS => ?_)
  refine lv_if_eq (tgt := 16) hx hb dX10_tells_5 (by decide) (fun c15 => ?_) (fun c15 => ?_)
  · have hf := ifp c15 hf
    refine lv_iconst (v := 0) hx hb dX10_tells_16 (by decide) ?_
    obtain rfl := Option.some.inj hf
    subst hq
    exact rt_z C (Or.inl rfl) hw hS dX10_tells_17
  · have hf := ifn c15 hf
    refine lv_aload_n hx hb dX10_tells_8 rfl (lv_at hl 0 rfl) ?_
    refine lv_iload_n hx hb dX10_tells_9 rfl (lv_at hl 2 rfl) ?_
    obtain ⟨z13, hz13, hf⟩ := bd hf
    refine cl_Vs (rest := []) (kX10_isThere (l := l) (Γ := Γ) (A := A) (G := G) (o := o) hk hz13) ⟨hx, hb, hml, hown, htw⟩ hE hw hS (wo_me hw hk) (q0 := 0) rfl rfl mw1612 mw1614 mw80 mw129 mw1615 pdX10_isThere ⟨Nat.le_of_ble_eq_true rfl, Nat.le_of_ble_eq_true rfl⟩ rfl rfl hl.1 (Nat.le_of_ble_eq_true rfl) dX10_tells_10 (fun H locs hw hS => ?_)
    refine lv_if_ne (tgt := 18) hx hb dX10_tells_13 (by decide) (fun c14 => ?_) (fun c14 => ?_)
    · have hf := ifn c14 hf
      refine lv_iconst (v := 0) hx hb dX10_tells_18 (by decide) ?_
      refine lv_istore_n (lv' := [(3, .int 0), (0, .ref (ad Γ o)), (1, .int v1), (2, .int v2)]) hx hb dX10_tells_19 rfl hl (by decide) rfl (fun ls hl => ?_)
      exact lwX10_tells_20 C hk hf hq H locs ls hw hS (lv_sub hl [1, 2, 3, 0] rfl)
    · have hf := ifp c14 hf
      refine lv_iconst (v := 0) hx hb dX10_tells_16 (by decide) ?_
      obtain rfl := Option.some.inj hf
      subst hq
      exact rt_z C (Or.inl rfl) hw hS dX10_tells_17

theorem kX10_tells {l : Launch} {Γ : Gm} {A : Nat → Prop} {G : Gs} {o : Nat} {r : Rec} {v1 : Int32} {v2 : Int32} {fin : Rec × Int32} (hk : kd Γ o = some 10) (hf : fX10_tells r v1 v2 = some fin) : Kt l yX10_tells cX10_tells 4 (some .boolean) 3 65 Γ A (ug G o r) (ug G o fin.1) [.ref (ad Γ o), .int v1, .int v2] (some (.int fin.2)) :=
  kt_of (by decide) (Nat.le_of_ble_eq_true rfl) (fun p e s m args below meth c C => wX10_tells_e C hk hf rfl)
theorem kgX10_tells {l : Launch} {Γ : Gm} {A : Nat → Prop} {G : Gs} {o : Nat} {v1 : Int32} {v2 : Int32} {fin : Rec × Int32} (hk : kd Γ o = some 10) (hf : fX10_tells (G o) v1 v2 = some fin) : Kt l yX10_tells cX10_tells 4 (some .boolean) 3 65 Γ A G (ug G o fin.1) [.ref (ad Γ o), .int v1, .int v2] (some (.int fin.2)) := by
  have h := kX10_tells (l := l) (A := A) (G := G) (r := G o) hk hf
  rw [ug_self] at h
  exact h
noncomputable def bX10_tellsBoth_79 (r : Rec) (v1 : Int32) (v2 : Int32) (v3 : Int32) : Option (Rec × Int32) :=
  gd (inR v2 8) (gd (inR v3 8) ((some (si r 32 ((gi r 32) + ((ga r 33 (Int32.toNatClampNeg v2)) + (ga r 33 (Int32.toNatClampNeg v3)))))).bind fun r3 => gd (inR v2 8) (gd (inR v2 8) ((some (sa r3 28 (upd (ga r3 28) (Int32.toNatClampNeg v2) ((ga r3 28 (Int32.toNatClampNeg v2)) ||| ((1 : Int32) <<< (v1 &&& 31)))))).bind fun r6 => gd (inR v3 8) (gd (inR v3 8) ((some (sa r6 28 (upd (ga r6 28) (Int32.toNatClampNeg v3) ((ga r6 28 (Int32.toNatClampNeg v3)) ||| ((1 : Int32) <<< (v1 &&& 31)))))).bind fun r9 => some ((r9, 1))))))))
set_option maxRecDepth 100000 in
set_option maxHeartbeats 4000000 in
theorem wX10_tellsBoth_79 {p : Program} {l : Launch} {e : Env} {s : State} {m : MethodId} {args : Array Value} {below : List Frame} {meth : Method} {c : Code} {Γ : Gm} {A : Nat → Prop} {G : Gs} {o : Nat} {r : Rec} {v1 : Int32} {v2 : Int32} {v3 : Int32} {q : (Rec × Int32)} {fin : Rec × Int32} (C : Cx p s m args meth c yX10_tellsBoth cX10_tellsBoth 5 (some .boolean) Γ A) (hk : kd Γ o = some 10) (hf : bX10_tellsBoth_79 r v1 v2 v3 = some q) (hq : (fun x => x = fin) q) : Wk p l e { frames := 3, cells := 0, slots := 0, locals := 65 } s m args below meth c Γ A (ug G o fin.1) (some (.int fin.2)) 79 5 [(0, .ref (ad Γ o)), (1, .int v1), (2, .int v2), (3, .int v3)] [] (ug G o r) := by
  intro H locs ls hw hS hl
  unfold bX10_tellsBoth_79 at hf
  obtain ⟨hx, hb, hml, hr, hown, htw, hlocks, hE⟩ := id C
  have hown : s.vm.findClass RX10 = some m.cls := hown
  refine lv_aload_n hx hb dX10_tellsBoth_79 rfl (lv_at hl 0 rfl) ?_
  refine lv_dup hx hb dX10_tellsBoth_80 rfl ?_
  refine va_get (ci := 10) (v := .int (gi r 32)) (C := RX10) (T := TX10) (N := 49) hx hb htw uwX10 hown hE.1 (wo_me hw hk) 0 rfl rfl 32 (by decide) (htw _ mw1275) (fun _ h9 => h9) rfl dX10_tellsBoth_81 ?_
  refine lv_aload_n hx hb dX10_tellsBoth_84 rfl (lv_at hl 0 rfl) ?_
  refine va_get (ci := 10) (v := .ref (aa Γ o 33)) (C := RX10) (T := TX10) (N := 49) hx hb htw uwX10 hown hE.1 (wo_me hw hk) 0 rfl rfl 33 (by decide) (htw _ mw1276) (fun _ h9 => h9) rfl dX10_tellsBoth_85 ?_
  refine lv_iload_n hx hb dX10_tellsBoth_88 rfl (lv_at hl 2 rfl) ?_
  obtain ⟨g1, hf⟩ := gd_some hf
  refine va_iald hx hb hE.1 (wo_me hw hk) 13 0 rfl rfl (inR_in g1) dX10_tellsBoth_89 ?_
  refine lv_aload_n hx hb dX10_tellsBoth_90 rfl (lv_at hl 0 rfl) ?_
  refine va_get (ci := 10) (v := .ref (aa Γ o 33)) (C := RX10) (T := TX10) (N := 49) hx hb htw uwX10 hown hE.1 (wo_me hw hk) 0 rfl rfl 33 (by decide) (htw _ mw1276) (fun _ h9 => h9) rfl dX10_tellsBoth_91 ?_
  refine lv_iload_n hx hb dX10_tellsBoth_94 rfl (lv_at hl 3 rfl) ?_
  obtain ⟨g2, hf⟩ := gd_some hf
  refine va_iald hx hb hE.1 (wo_me hw hk) 13 0 rfl rfl (inR_in g2) dX10_tellsBoth_95 ?_
  refine lv_iadd hx hb dX10_tellsBoth_96 ?_
  refine lv_iadd hx hb dX10_tellsBoth_97 ?_
  obtain ⟨r3, hr3, hf⟩ := bd hf
  have hr3 := Option.some.inj hr3
  refine wo_put (C := RX10) (T := TX10) (N := 49) (v := .int ((gi r 32) + ((ga r 33 (Int32.toNatClampNeg v2)) + (ga r 33 (Int32.toNatClampNeg v3))))) (ty := .int) hx hb htw uwX10 tyX10 tyX10_ok nmX10 hown hE hw hS hk rfl rfl 32 (by decide) (htw _ mw1275) (fun _ h9 => h9) rfl (tyX10_ok 32 (by decide)) rfl rfl (Nat.le_of_ble_eq_true rfl) (st10_32 hr3) dX10_tellsBoth_98 (fun H locs hw hS => ?_)
  refine lv_aload_n hx hb dX10_tellsBoth_101 rfl (lv_at hl 0 rfl) ?_
  refine va_get (ci := 10) (v := .ref (aa Γ o 28)) (C := RX10) (T := TX10) (N := 49) hx hb htw uwX10 hown hE.1 (wo_me hw hk) 0 rfl rfl 28 (by decide) (htw _ mw1271) (fun _ h9 => h9) rfl dX10_tellsBoth_102 ?_
  refine lv_iload_n hx hb dX10_tellsBoth_105 rfl (lv_at hl 2 rfl) ?_
  refine lv_dup2_11 hx hb dX10_tellsBoth_106 rfl rfl ?_
  obtain ⟨g4, hf⟩ := gd_some hf
  refine va_iald hx hb hE.1 (wo_me hw hk) 12 0 rfl rfl (inR_in g4) dX10_tellsBoth_107 ?_
  refine lv_iconst (v := 1) hx hb dX10_tellsBoth_108 (by decide) ?_
  refine lv_iload_n hx hb dX10_tellsBoth_109 rfl (lv_at hl 1 rfl) ?_
  refine lv_ishl hx hb dX10_tellsBoth_110 ?_
  refine lv_ior hx hb dX10_tellsBoth_111 ?_
  obtain ⟨g5, hf⟩ := gd_some hf
  obtain ⟨r6, hr6, hf⟩ := bd hf
  have hr6 := Option.some.inj hr6
  refine wo_iast hx hb hE hw hS hk (q0 := 12) rfl (inR_in g5) (sa10_28 hr6) dX10_tellsBoth_112 (fun H locs hw hS => ?_)
  refine lv_aload_n hx hb dX10_tellsBoth_113 rfl (lv_at hl 0 rfl) ?_
  refine va_get (ci := 10) (v := .ref (aa Γ o 28)) (C := RX10) (T := TX10) (N := 49) hx hb htw uwX10 hown hE.1 (wo_me hw hk) 0 rfl rfl 28 (by decide) (htw _ mw1271) (fun _ h9 => h9) rfl dX10_tellsBoth_114 ?_
  refine lv_iload_n hx hb dX10_tellsBoth_117 rfl (lv_at hl 3 rfl) ?_
  refine lv_dup2_11 hx hb dX10_tellsBoth_118 rfl rfl ?_
  obtain ⟨g7, hf⟩ := gd_some hf
  refine va_iald hx hb hE.1 (wo_me hw hk) 12 0 rfl rfl (inR_in g7) dX10_tellsBoth_119 ?_
  refine lv_iconst (v := 1) hx hb dX10_tellsBoth_120 (by decide) ?_
  refine lv_iload_n hx hb dX10_tellsBoth_121 rfl (lv_at hl 1 rfl) ?_
  refine lv_ishl hx hb dX10_tellsBoth_122 ?_
  refine lv_ior hx hb dX10_tellsBoth_123 ?_
  obtain ⟨g8, hf⟩ := gd_some hf
  obtain ⟨r9, hr9, hf⟩ := bd hf
  have hr9 := Option.some.inj hr9
  refine wo_iast hx hb hE hw hS hk (q0 := 12) rfl (inR_in g8) (sa10_28 hr9) dX10_tellsBoth_124 (fun H locs hw hS => ?_)
  refine lv_iconst (v := 1) hx hb dX10_tellsBoth_125 (by decide) ?_
  obtain rfl := Option.some.inj hf
  subst hq
  exact rt_z C (Or.inr rfl) hw hS dX10_tellsBoth_126

noncomputable def bX10_tellsBoth_72 (r : Rec) (v1 : Int32) (v2 : Int32) (v3 : Int32) (v4 : Int32) (s0 : Int32) (s1 : Int32) : Option ((Int32 × Rec) ⊕ (Rec × Int32)) :=
  gd (inR s1 8) ((some (sa r 33 (upd (ga r 33) (Int32.toNatClampNeg s1) s0))).bind fun r11 => some (.inl (v4 + 1, r11)))
set_option maxRecDepth 100000 in
set_option maxHeartbeats 4000000 in
theorem wX10_tellsBoth_72 {p : Program} {l : Launch} {e : Env} {s : State} {m : MethodId} {args : Array Value} {below : List Frame} {meth : Method} {c : Code} {Γ : Gm} {A : Nat → Prop} {G : Gs} {o : Nat} {r : Rec} {v1 : Int32} {v2 : Int32} {v3 : Int32} {v4 : Int32} {s0 : Int32} {s1 : Int32} {q : ((Int32 × Rec) ⊕ (Rec × Int32))} {fin : Rec × Int32} (C : Cx p s m args meth c yX10_tellsBoth cX10_tellsBoth 5 (some .boolean) Γ A) (hk : kd Γ o = some 10) (hf : bX10_tellsBoth_72 r v1 v2 v3 v4 s0 s1 = some q) (hq : (KC (fun st : Int32 × Rec => Wk p l e { frames := 3, cells := 0, slots := 0, locals := 65 } s m args below meth c Γ A (ug G o fin.1) (some (.int fin.2)) 34 5 [(0, .ref (ad Γ o)), (1, .int v1), (2, .int v2), (3, .int v3), (4, .int st.1)] [] (ug G o st.2)) (fun x => x = fin)) q) : Wk p l e { frames := 3, cells := 0, slots := 0, locals := 65 } s m args below meth c Γ A (ug G o fin.1) (some (.int fin.2)) 72 5 [(0, .ref (ad Γ o)), (1, .int v1), (2, .int v2), (3, .int v3), (4, .int v4)] [.int s0, .int s1, .ref (aa Γ o 33)] (ug G o r) := by
  intro H locs ls hw hS hl
  unfold bX10_tellsBoth_72 at hf
  obtain ⟨hx, hb, hml, hr, hown, htw, hlocks, hE⟩ := id C
  have hown : s.vm.findClass RX10 = some m.cls := hown
  obtain ⟨g10, hf⟩ := gd_some hf
  obtain ⟨r11, hr11, hf⟩ := bd hf
  have hr11 := Option.some.inj hr11
  refine wo_iast hx hb hE hw hS hk (q0 := 13) rfl (inR_in g10) (sa10_33 hr11) dX10_tellsBoth_72 (fun H locs hw hS => ?_)
  refine lv_iinc (v := v4 + 1) (lv' := [(4, .int (v4 + 1)), (0, .ref (ad Γ o)), (1, .int v1), (2, .int v2), (3, .int v3)]) hx hb dX10_tellsBoth_73 hl (k := 4) rfl (by rfl) (by decide) rfl (fun ls hl => ?_)
  refine lv_goto (tgt := 34) hx hb dX10_tellsBoth_76 (by decide) ?_
  obtain rfl := Option.some.inj hf
  exact hq.1 _ rfl H locs ls hw hS (lv_sub hl [1, 2, 3, 4, 0] rfl)

noncomputable def bX10_tellsBoth_59 (r : Rec) (v1 : Int32) (v2 : Int32) (v3 : Int32) (v4 : Int32) (s0 : Int32) : Option ((Int32 × Rec) ⊕ (Rec × Int32)) :=
  (fX10_worthNow r v1 v4).bind fun z12 => bX10_tellsBoth_72 r v1 v2 v3 v4 (z12 / 2) s0
set_option maxRecDepth 100000 in
set_option maxHeartbeats 4000000 in
theorem wX10_tellsBoth_59 {p : Program} {l : Launch} {e : Env} {s : State} {m : MethodId} {args : Array Value} {below : List Frame} {meth : Method} {c : Code} {Γ : Gm} {A : Nat → Prop} {G : Gs} {o : Nat} {r : Rec} {v1 : Int32} {v2 : Int32} {v3 : Int32} {v4 : Int32} {s0 : Int32} {q : ((Int32 × Rec) ⊕ (Rec × Int32))} {fin : Rec × Int32} (C : Cx p s m args meth c yX10_tellsBoth cX10_tellsBoth 5 (some .boolean) Γ A) (hk : kd Γ o = some 10) (hf : bX10_tellsBoth_59 r v1 v2 v3 v4 s0 = some q) (hq : (KC (fun st : Int32 × Rec => Wk p l e { frames := 3, cells := 0, slots := 0, locals := 65 } s m args below meth c Γ A (ug G o fin.1) (some (.int fin.2)) 34 5 [(0, .ref (ad Γ o)), (1, .int v1), (2, .int v2), (3, .int v3), (4, .int st.1)] [] (ug G o st.2)) (fun x => x = fin)) q) : Wk p l e { frames := 3, cells := 0, slots := 0, locals := 65 } s m args below meth c Γ A (ug G o fin.1) (some (.int fin.2)) 59 5 [(0, .ref (ad Γ o)), (1, .int v1), (2, .int v2), (3, .int v3), (4, .int v4)] [.int s0, .ref (aa Γ o 33)] (ug G o r) := by
  intro H locs ls hw hS hl
  unfold bX10_tellsBoth_59 at hf
  obtain ⟨hx, hb, hml, hr, hown, htw, hlocks, hE⟩ := id C
  have hown : s.vm.findClass RX10 = some m.cls := hown
  refine lv_aload_n hx hb dX10_tellsBoth_59 rfl (lv_at hl 0 rfl) ?_
  refine lv_iload_n hx hb dX10_tellsBoth_60 rfl (lv_at hl 1 rfl) ?_
  refine lv_iload hx hb dX10_tellsBoth_61 (lv_at hl 4 rfl) ?_
  obtain ⟨z12, hz12, hf⟩ := bd hf
  refine cl_Vs (rest := [.int s0, .ref (aa Γ o 33)]) (kX10_worthNow (l := l) (Γ := Γ) (A := A) (G := G) (o := o) hk hz12) ⟨hx, hb, hml, hown, htw⟩ hE hw hS (wo_me hw hk) (q0 := 0) rfl rfl mw1557 mw1559 mw69 mw129 mw1560 pdX10_worthNow ⟨Nat.le_of_ble_eq_true rfl, Nat.le_of_ble_eq_true rfl⟩ rfl rfl hl.1 (Nat.le_of_ble_eq_true rfl) dX10_tellsBoth_63 (fun H locs hw hS => ?_)
  refine lv_iconst (v := 2) hx hb dX10_tellsBoth_66 (by decide) ?_
  refine lv_idiv hx hb dX10_tellsBoth_67 (by decide) ?_
  refine lv_goto (tgt := 72) hx hb dX10_tellsBoth_68 (by decide) ?_
  exact wX10_tellsBoth_72 C hk hf hq H locs ls hw hS hl

noncomputable def bX10_tellsBoth_34 (r : Rec) (v1 : Int32) (v2 : Int32) (v3 : Int32) (v4 : Int32) : Option ((Int32 × Rec) ⊕ (Rec × Int32)) :=
  if 8 ≤ v4 then out1 (bX10_tellsBoth_79 r v1 v2 v3) else if v4 = v2 then bX10_tellsBoth_59 r v1 v2 v3 v4 v4 else if v4 = v3 then bX10_tellsBoth_59 r v1 v2 v3 v4 v4 else bX10_tellsBoth_72 r v1 v2 v3 v4 0 v4
set_option maxRecDepth 100000 in
set_option maxHeartbeats 4000000 in
theorem wX10_tellsBoth_34 {p : Program} {l : Launch} {e : Env} {s : State} {m : MethodId} {args : Array Value} {below : List Frame} {meth : Method} {c : Code} {Γ : Gm} {A : Nat → Prop} {G : Gs} {o : Nat} {r : Rec} {v1 : Int32} {v2 : Int32} {v3 : Int32} {v4 : Int32} {q : ((Int32 × Rec) ⊕ (Rec × Int32))} {fin : Rec × Int32} (C : Cx p s m args meth c yX10_tellsBoth cX10_tellsBoth 5 (some .boolean) Γ A) (hk : kd Γ o = some 10) (hf : bX10_tellsBoth_34 r v1 v2 v3 v4 = some q) (hq : (KC (fun st : Int32 × Rec => Wk p l e { frames := 3, cells := 0, slots := 0, locals := 65 } s m args below meth c Γ A (ug G o fin.1) (some (.int fin.2)) 34 5 [(0, .ref (ad Γ o)), (1, .int v1), (2, .int v2), (3, .int v3), (4, .int st.1)] [] (ug G o st.2)) (fun x => x = fin)) q) : Wk p l e { frames := 3, cells := 0, slots := 0, locals := 65 } s m args below meth c Γ A (ug G o fin.1) (some (.int fin.2)) 34 5 [(0, .ref (ad Γ o)), (1, .int v1), (2, .int v2), (3, .int v3), (4, .int v4)] [] (ug G o r) := by
  intro H locs ls hw hS hl
  unfold bX10_tellsBoth_34 at hf
  obtain ⟨hx, hb, hml, hr, hown, htw, hlocks, hE⟩ := id C
  have hown : s.vm.findClass RX10 = some m.cls := hown
  refine lv_iload hx hb dX10_tellsBoth_34 (lv_at hl 4 rfl) ?_
  refine lv_bipush (v := 8) hx hb dX10_tellsBoth_36 (by decide) ?_
  refine lv_icmp_ge (tgt := 79) hx hb dX10_tellsBoth_38 (by decide) (fun c16 => ?_) (fun c16 => ?_)
  · have hf := ifp c16 hf
    obtain ⟨q13, hfq13, eq13⟩ := out1_some hf
    subst eq13
    have hf := hfq13
    have hq := hq.2 _ rfl
    exact wX10_tellsBoth_79 C hk hf hq H locs ls hw hS (lv_sub hl [0, 1, 2, 3] rfl)
  · have hf := ifn c16 hf
    refine lv_aload_n hx hb dX10_tellsBoth_41 rfl (lv_at hl 0 rfl) ?_
    refine va_get (ci := 10) (v := .ref (aa Γ o 33)) (C := RX10) (T := TX10) (N := 49) hx hb htw uwX10 hown hE.1 (wo_me hw hk) 0 rfl rfl 33 (by decide) (htw _ mw1276) (fun _ h9 => h9) rfl dX10_tellsBoth_42 ?_
    refine lv_iload hx hb dX10_tellsBoth_45 (lv_at hl 4 rfl) ?_
    refine lv_iload hx hb dX10_tellsBoth_47 (lv_at hl 4 rfl) ?_
    refine lv_iload_n hx hb dX10_tellsBoth_49 rfl (lv_at hl 2 rfl) ?_
    refine lv_icmp_eq (tgt := 59) hx hb dX10_tellsBoth_50 (by decide) (fun c15 => ?_) (fun c15 => ?_)
    · have hf := ifp c15 hf
      exact wX10_tellsBoth_59 C hk hf hq H locs ls hw hS hl
    · have hf := ifn c15 hf
      refine lv_iload hx hb dX10_tellsBoth_53 (lv_at hl 4 rfl) ?_
      refine lv_iload_n hx hb dX10_tellsBoth_55 rfl (lv_at hl 3 rfl) ?_
      refine lv_icmp_ne (tgt := 71) hx hb dX10_tellsBoth_56 (by decide) (fun c14 => ?_) (fun c14 => ?_)
      · have hf := ifn c14 hf
        refine lv_iconst (v := 0) hx hb dX10_tellsBoth_71 (by decide) ?_
        exact wX10_tellsBoth_72 C hk hf hq H locs ls hw hS hl
      · have hf := ifp c14 hf
        exact wX10_tellsBoth_59 C hk hf hq H locs ls hw hS hl

set_option maxRecDepth 100000 in
set_option maxHeartbeats 4000000 in
theorem lwX10_tellsBoth_34 {p : Program} {l : Launch} {e : Env} {s : State} {m : MethodId} {args : Array Value} {below : List Frame} {meth : Method} {c : Code} {Γ : Gm} {A : Nat → Prop} {G : Gs} {o : Nat} {r : Rec} {v1 : Int32} {v2 : Int32} {v3 : Int32} {v4 : Int32} {q : (Rec × Int32)} {fin : Rec × Int32} (C : Cx p s m args meth c yX10_tellsBoth cX10_tellsBoth 5 (some .boolean) Γ A) (hk : kd Γ o = some 10) (hf : iter (fun st : Int32 × Rec => bX10_tellsBoth_34 st.2 v1 v2 v3 st.1) (v4, r) = some q) (hq : (fun x => x = fin) q) : Wk p l e { frames := 3, cells := 0, slots := 0, locals := 65 } s m args below meth c Γ A (ug G o fin.1) (some (.int fin.2)) 34 5 [(0, .ref (ad Γ o)), (1, .int v1), (2, .int v2), (3, .int v3), (4, .int v4)] [] (ug G o r) := by
  intro H locs ls hw hS hl
  refine iter_walk (P := (fun st : Int32 × Rec => Wk p l e { frames := 3, cells := 0, slots := 0, locals := 65 } s m args below meth c Γ A (ug G o fin.1) (some (.int fin.2)) 34 5 [(0, .ref (ad Γ o)), (1, .int v1), (2, .int v2), (3, .int v3), (4, .int st.1)] [] (ug G o st.2))) (K := (fun x => x = fin)) (fun st q hq1 h1 h2 => ?_) hf hq H locs ls hw hS hl
  exact wX10_tellsBoth_34 (r := st.2) (v4 := st.1) C hk hq1 ⟨h1, h2⟩

noncomputable def fX10_tellsBoth (r : Rec) (v1 : Int32) (v2 : Int32) (v3 : Int32) : Option (Rec × Int32) :=
  (fX10_isSecret r v1).bind fun z17 => if z17 = 0 then some ((r, 0)) else (fX10_isThere r v2).bind fun z18 => if z18 = 0 then some ((r, 0)) else (fX10_isThere r v3).bind fun z19 => if z19 = 0 then some ((r, 0)) else if v2 = v3 then some ((r, 0)) else iter (fun st : Int32 × Rec => bX10_tellsBoth_34 st.2 v1 v2 v3 st.1) (0, r)
set_option maxRecDepth 100000 in
set_option maxHeartbeats 4000000 in
theorem wX10_tellsBoth_e {p : Program} {l : Launch} {e : Env} {s : State} {m : MethodId} {args : Array Value} {below : List Frame} {meth : Method} {c : Code} {Γ : Gm} {A : Nat → Prop} {G : Gs} {o : Nat} {r : Rec} {v1 : Int32} {v2 : Int32} {v3 : Int32} {q : (Rec × Int32)} {fin : Rec × Int32} (C : Cx p s m args meth c yX10_tellsBoth cX10_tellsBoth 5 (some .boolean) Γ A) (hk : kd Γ o = some 10) (hf : fX10_tellsBoth r v1 v2 v3 = some q) (hq : (fun x => x = fin) q) : Wk p l e { frames := 3, cells := 0, slots := 0, locals := 65 } s m args below meth c Γ A (ug G o fin.1) (some (.int fin.2)) 0 5 [(0, .ref (ad Γ o)), (1, .int v1), (2, .int v2), (3, .int v3)] [] (ug G o r) := by
  intro H locs ls hw hS hl
  unfold fX10_tellsBoth at hf
  obtain ⟨hx, hb, hml, hr, hown, htw, hlocks, hE⟩ := id C
  have hown : s.vm.findClass RX10 = some m.cls := hown
  refine lv_aload_n hx hb dX10_tellsBoth_0 rfl (lv_at hl 0 rfl) ?_
  refine lv_iload_n hx hb dX10_tellsBoth_1 rfl (lv_at hl 1 rfl) ?_
  obtain ⟨z17, hz17, hf⟩ := bd hf
  refine cl_Vs (rest := []) (kX10_isSecret (l := l) (Γ := Γ) (A := A) (G := G) (o := o) hk hz17) ⟨hx, hb, hml, hown, htw⟩ hE hw hS (wo_me hw hk) (q0 := 0) rfl rfl mw1549 mw1551 mw67 mw129 mw1552 pdX10_isSecret ⟨Nat.le_of_ble_eq_true rfl, Nat.le_of_ble_eq_true rfl⟩ rfl rfl hl.1 (Nat.le_of_ble_eq_true rfl) dX10_tellsBoth_2 (fun H locs hw hS => ?_)
  refine lv_if_eq (tgt := 29) hx hb dX10_tellsBoth_5 (by decide) (fun c23 => ?_) (fun c23 => ?_)
  · have hf := ifp c23 hf
    refine lv_iconst (v := 0) hx hb dX10_tellsBoth_29 (by decide) ?_
    obtain rfl := Option.some.inj hf
    subst hq
    exact rt_z C (Or.inl rfl) hw hS dX10_tellsBoth_30
  · have hf := ifn c23 hf
    refine lv_aload_n hx hb dX10_tellsBoth_8 rfl (lv_at hl 0 rfl) ?_
    refine lv_iload_n hx hb dX10_tellsBoth_9 rfl (lv_at hl 2 rfl) ?_
    obtain ⟨z18, hz18, hf⟩ := bd hf
    refine cl_Vs (rest := []) (kX10_isThere (l := l) (Γ := Γ) (A := A) (G := G) (o := o) hk hz18) ⟨hx, hb, hml, hown, htw⟩ hE hw hS (wo_me hw hk) (q0 := 0) rfl rfl mw1612 mw1614 mw80 mw129 mw1615 pdX10_isThere ⟨Nat.le_of_ble_eq_true rfl, Nat.le_of_ble_eq_true rfl⟩ rfl rfl hl.1 (Nat.le_of_ble_eq_true rfl) dX10_tellsBoth_10 (fun H locs hw hS => ?_)
    refine lv_if_eq (tgt := 29) hx hb dX10_tellsBoth_13 (by decide) (fun c22 => ?_) (fun c22 => ?_)
    · have hf := ifp c22 hf
      refine lv_iconst (v := 0) hx hb dX10_tellsBoth_29 (by decide) ?_
      obtain rfl := Option.some.inj hf
      subst hq
      exact rt_z C (Or.inl rfl) hw hS dX10_tellsBoth_30
    · have hf := ifn c22 hf
      refine lv_aload_n hx hb dX10_tellsBoth_16 rfl (lv_at hl 0 rfl) ?_
      refine lv_iload_n hx hb dX10_tellsBoth_17 rfl (lv_at hl 3 rfl) ?_
      obtain ⟨z19, hz19, hf⟩ := bd hf
      refine cl_Vs (rest := []) (kX10_isThere (l := l) (Γ := Γ) (A := A) (G := G) (o := o) hk hz19) ⟨hx, hb, hml, hown, htw⟩ hE hw hS (wo_me hw hk) (q0 := 0) rfl rfl mw1612 mw1614 mw80 mw129 mw1615 pdX10_isThere ⟨Nat.le_of_ble_eq_true rfl, Nat.le_of_ble_eq_true rfl⟩ rfl rfl hl.1 (Nat.le_of_ble_eq_true rfl) dX10_tellsBoth_18 (fun H locs hw hS => ?_)
      refine lv_if_eq (tgt := 29) hx hb dX10_tellsBoth_21 (by decide) (fun c21 => ?_) (fun c21 => ?_)
      · have hf := ifp c21 hf
        refine lv_iconst (v := 0) hx hb dX10_tellsBoth_29 (by decide) ?_
        obtain rfl := Option.some.inj hf
        subst hq
        exact rt_z C (Or.inl rfl) hw hS dX10_tellsBoth_30
      · have hf := ifn c21 hf
        refine lv_iload_n hx hb dX10_tellsBoth_24 rfl (lv_at hl 2 rfl) ?_
        refine lv_iload_n hx hb dX10_tellsBoth_25 rfl (lv_at hl 3 rfl) ?_
        refine lv_icmp_ne (tgt := 31) hx hb dX10_tellsBoth_26 (by decide) (fun c20 => ?_) (fun c20 => ?_)
        · have hf := ifn c20 hf
          refine lv_iconst (v := 0) hx hb dX10_tellsBoth_31 (by decide) ?_
          refine lv_istore (lv' := [(4, .int 0), (0, .ref (ad Γ o)), (1, .int v1), (2, .int v2), (3, .int v3)]) hx hb dX10_tellsBoth_32 hl (by decide) rfl (fun ls hl => ?_)
          exact lwX10_tellsBoth_34 C hk hf hq H locs ls hw hS (lv_sub hl [1, 2, 3, 4, 0] rfl)
        · have hf := ifp c20 hf
          refine lv_iconst (v := 0) hx hb dX10_tellsBoth_29 (by decide) ?_
          obtain rfl := Option.some.inj hf
          subst hq
          exact rt_z C (Or.inl rfl) hw hS dX10_tellsBoth_30

theorem kX10_tellsBoth {l : Launch} {Γ : Gm} {A : Nat → Prop} {G : Gs} {o : Nat} {r : Rec} {v1 : Int32} {v2 : Int32} {v3 : Int32} {fin : Rec × Int32} (hk : kd Γ o = some 10) (hf : fX10_tellsBoth r v1 v2 v3 = some fin) : Kt l yX10_tellsBoth cX10_tellsBoth 5 (some .boolean) 3 65 Γ A (ug G o r) (ug G o fin.1) [.ref (ad Γ o), .int v1, .int v2, .int v3] (some (.int fin.2)) :=
  kt_of (by decide) (Nat.le_of_ble_eq_true rfl) (fun p e s m args below meth c C => wX10_tellsBoth_e C hk hf rfl)
theorem kgX10_tellsBoth {l : Launch} {Γ : Gm} {A : Nat → Prop} {G : Gs} {o : Nat} {v1 : Int32} {v2 : Int32} {v3 : Int32} {fin : Rec × Int32} (hk : kd Γ o = some 10) (hf : fX10_tellsBoth (G o) v1 v2 v3 = some fin) : Kt l yX10_tellsBoth cX10_tellsBoth 5 (some .boolean) 3 65 Γ A G (ug G o fin.1) [.ref (ad Γ o), .int v1, .int v2, .int v3] (some (.int fin.2)) := by
  have h := kX10_tellsBoth (l := l) (A := A) (G := G) (r := G o) hk hf
  rw [ug_self] at h
  exact h
noncomputable def bX10_polishes_33 (r : Rec) (v1 : Int32) (v2 : Int32) (s0 : Int32) (s1 : Int32) : Option ((Int32 × Rec) ⊕ (Rec × Int32)) :=
  gd (inR s1 8) ((some (sa r 34 (upd (ga r 34) (Int32.toNatClampNeg s1) s0))).bind fun r2 => some (.inl (v2 + 1, r2)))
set_option maxRecDepth 100000 in
set_option maxHeartbeats 4000000 in
theorem wX10_polishes_33 {p : Program} {l : Launch} {e : Env} {s : State} {m : MethodId} {args : Array Value} {below : List Frame} {meth : Method} {c : Code} {Γ : Gm} {A : Nat → Prop} {G : Gs} {o : Nat} {r : Rec} {v1 : Int32} {v2 : Int32} {s0 : Int32} {s1 : Int32} {q : ((Int32 × Rec) ⊕ (Rec × Int32))} {fin : Rec × Int32} (C : Cx p s m args meth c yX10_polishes cX10_polishes 3 (some .boolean) Γ A) (hk : kd Γ o = some 10) (hf : bX10_polishes_33 r v1 v2 s0 s1 = some q) (hq : (KC (fun st : Int32 × Rec => Wk p l e { frames := 3, cells := 0, slots := 0, locals := 64 } s m args below meth c Γ A (ug G o fin.1) (some (.int fin.2)) 12 3 [(0, .ref (ad Γ o)), (1, .int v1), (2, .int st.1)] [] (ug G o st.2)) (fun x => x = fin)) q) : Wk p l e { frames := 3, cells := 0, slots := 0, locals := 64 } s m args below meth c Γ A (ug G o fin.1) (some (.int fin.2)) 33 3 [(0, .ref (ad Γ o)), (1, .int v1), (2, .int v2)] [.int s0, .int s1, .ref (aa Γ o 34)] (ug G o r) := by
  intro H locs ls hw hS hl
  unfold bX10_polishes_33 at hf
  obtain ⟨hx, hb, hml, hr, hown, htw, hlocks, hE⟩ := id C
  have hown : s.vm.findClass RX10 = some m.cls := hown
  obtain ⟨g1, hf⟩ := gd_some hf
  obtain ⟨r2, hr2, hf⟩ := bd hf
  have hr2 := Option.some.inj hr2
  refine wo_iast hx hb hE hw hS hk (q0 := 14) rfl (inR_in g1) (sa10_34 hr2) dX10_polishes_33 (fun H locs hw hS => ?_)
  refine lv_iinc (v := v2 + 1) (lv' := [(2, .int (v2 + 1)), (0, .ref (ad Γ o)), (1, .int v1)]) hx hb dX10_polishes_34 hl (k := 2) rfl (by rfl) (by decide) rfl (fun ls hl => ?_)
  refine lv_goto (tgt := 12) hx hb dX10_polishes_37 (by decide) ?_
  obtain rfl := Option.some.inj hf
  exact hq.1 _ rfl H locs ls hw hS (lv_sub hl [1, 2, 0] rfl)

noncomputable def bX10_polishes_12 (r : Rec) (v1 : Int32) (v2 : Int32) : Option ((Int32 × Rec) ⊕ (Rec × Int32)) :=
  if 8 ≤ v2 then some (.inr ((r, 1))) else if v2 = v1 then bX10_polishes_33 r v1 v2 5 v2 else bX10_polishes_33 r v1 v2 0 v2
set_option maxRecDepth 100000 in
set_option maxHeartbeats 4000000 in
theorem wX10_polishes_12 {p : Program} {l : Launch} {e : Env} {s : State} {m : MethodId} {args : Array Value} {below : List Frame} {meth : Method} {c : Code} {Γ : Gm} {A : Nat → Prop} {G : Gs} {o : Nat} {r : Rec} {v1 : Int32} {v2 : Int32} {q : ((Int32 × Rec) ⊕ (Rec × Int32))} {fin : Rec × Int32} (C : Cx p s m args meth c yX10_polishes cX10_polishes 3 (some .boolean) Γ A) (hk : kd Γ o = some 10) (hf : bX10_polishes_12 r v1 v2 = some q) (hq : (KC (fun st : Int32 × Rec => Wk p l e { frames := 3, cells := 0, slots := 0, locals := 64 } s m args below meth c Γ A (ug G o fin.1) (some (.int fin.2)) 12 3 [(0, .ref (ad Γ o)), (1, .int v1), (2, .int st.1)] [] (ug G o st.2)) (fun x => x = fin)) q) : Wk p l e { frames := 3, cells := 0, slots := 0, locals := 64 } s m args below meth c Γ A (ug G o fin.1) (some (.int fin.2)) 12 3 [(0, .ref (ad Γ o)), (1, .int v1), (2, .int v2)] [] (ug G o r) := by
  intro H locs ls hw hS hl
  unfold bX10_polishes_12 at hf
  obtain ⟨hx, hb, hml, hr, hown, htw, hlocks, hE⟩ := id C
  have hown : s.vm.findClass RX10 = some m.cls := hown
  refine lv_iload_n hx hb dX10_polishes_12 rfl (lv_at hl 2 rfl) ?_
  refine lv_bipush (v := 8) hx hb dX10_polishes_13 (by decide) ?_
  refine lv_icmp_ge (tgt := 40) hx hb dX10_polishes_15 (by decide) (fun c4 => ?_) (fun c4 => ?_)
  · have hf := ifp c4 hf
    refine lv_iconst (v := 1) hx hb dX10_polishes_40 (by decide) ?_
    obtain rfl := Option.some.inj hf
    have hq := hq.2 _ rfl
    subst hq
    exact rt_z C (Or.inr rfl) hw hS dX10_polishes_41
  · have hf := ifn c4 hf
    refine lv_aload_n hx hb dX10_polishes_18 rfl (lv_at hl 0 rfl) ?_
    refine va_get (ci := 10) (v := .ref (aa Γ o 34)) (C := RX10) (T := TX10) (N := 49) hx hb htw uwX10 hown hE.1 (wo_me hw hk) 0 rfl rfl 34 (by decide) (htw _ mw1277) (fun _ h9 => h9) rfl dX10_polishes_19 ?_
    refine lv_iload_n hx hb dX10_polishes_22 rfl (lv_at hl 2 rfl) ?_
    refine lv_iload_n hx hb dX10_polishes_23 rfl (lv_at hl 2 rfl) ?_
    refine lv_iload_n hx hb dX10_polishes_24 rfl (lv_at hl 1 rfl) ?_
    refine lv_icmp_ne (tgt := 32) hx hb dX10_polishes_25 (by decide) (fun c3 => ?_) (fun c3 => ?_)
    · have hf := ifn c3 hf
      refine lv_iconst (v := 0) hx hb dX10_polishes_32 (by decide) ?_
      exact wX10_polishes_33 C hk hf hq H locs ls hw hS hl
    · have hf := ifp c3 hf
      refine lv_iconst (v := 5) hx hb dX10_polishes_28 (by decide) ?_
      refine lv_goto (tgt := 33) hx hb dX10_polishes_29 (by decide) ?_
      exact wX10_polishes_33 C hk hf hq H locs ls hw hS hl

set_option maxRecDepth 100000 in
set_option maxHeartbeats 4000000 in
theorem lwX10_polishes_12 {p : Program} {l : Launch} {e : Env} {s : State} {m : MethodId} {args : Array Value} {below : List Frame} {meth : Method} {c : Code} {Γ : Gm} {A : Nat → Prop} {G : Gs} {o : Nat} {r : Rec} {v1 : Int32} {v2 : Int32} {q : (Rec × Int32)} {fin : Rec × Int32} (C : Cx p s m args meth c yX10_polishes cX10_polishes 3 (some .boolean) Γ A) (hk : kd Γ o = some 10) (hf : iter (fun st : Int32 × Rec => bX10_polishes_12 st.2 v1 st.1) (v2, r) = some q) (hq : (fun x => x = fin) q) : Wk p l e { frames := 3, cells := 0, slots := 0, locals := 64 } s m args below meth c Γ A (ug G o fin.1) (some (.int fin.2)) 12 3 [(0, .ref (ad Γ o)), (1, .int v1), (2, .int v2)] [] (ug G o r) := by
  intro H locs ls hw hS hl
  refine iter_walk (P := (fun st : Int32 × Rec => Wk p l e { frames := 3, cells := 0, slots := 0, locals := 64 } s m args below meth c Γ A (ug G o fin.1) (some (.int fin.2)) 12 3 [(0, .ref (ad Γ o)), (1, .int v1), (2, .int st.1)] [] (ug G o st.2))) (K := (fun x => x = fin)) (fun st q hq1 h1 h2 => ?_) hf hq H locs ls hw hS hl
  exact wX10_polishes_12 (r := st.2) (v2 := st.1) C hk hq1 ⟨h1, h2⟩

noncomputable def fX10_polishes (r : Rec) (v1 : Int32) : Option (Rec × Int32) :=
  (fX10_isThere r v1).bind fun z5 => if z5 = 0 then some ((r, 0)) else iter (fun st : Int32 × Rec => bX10_polishes_12 st.2 v1 st.1) (0, r)
set_option maxRecDepth 100000 in
set_option maxHeartbeats 4000000 in
theorem wX10_polishes_e {p : Program} {l : Launch} {e : Env} {s : State} {m : MethodId} {args : Array Value} {below : List Frame} {meth : Method} {c : Code} {Γ : Gm} {A : Nat → Prop} {G : Gs} {o : Nat} {r : Rec} {v1 : Int32} {q : (Rec × Int32)} {fin : Rec × Int32} (C : Cx p s m args meth c yX10_polishes cX10_polishes 3 (some .boolean) Γ A) (hk : kd Γ o = some 10) (hf : fX10_polishes r v1 = some q) (hq : (fun x => x = fin) q) : Wk p l e { frames := 3, cells := 0, slots := 0, locals := 64 } s m args below meth c Γ A (ug G o fin.1) (some (.int fin.2)) 0 3 [(0, .ref (ad Γ o)), (1, .int v1)] [] (ug G o r) := by
  intro H locs ls hw hS hl
  unfold fX10_polishes at hf
  obtain ⟨hx, hb, hml, hr, hown, htw, hlocks, hE⟩ := id C
  have hown : s.vm.findClass RX10 = some m.cls := hown
  refine lv_aload_n hx hb dX10_polishes_0 rfl (lv_at hl 0 rfl) ?_
  refine lv_iload_n hx hb dX10_polishes_1 rfl (lv_at hl 1 rfl) ?_
  obtain ⟨z5, hz5, hf⟩ := bd hf
  refine cl_Vs (rest := []) (kX10_isThere (l := l) (Γ := Γ) (A := A) (G := G) (o := o) hk hz5) ⟨hx, hb, hml, hown, htw⟩ hE hw hS (wo_me hw hk) (q0 := 0) rfl rfl mw1612 mw1614 mw80 mw129 mw1615 pdX10_isThere ⟨Nat.le_of_ble_eq_true rfl, Nat.le_of_ble_eq_true rfl⟩ rfl rfl hl.1 (Nat.le_of_ble_eq_true rfl) dX10_polishes_2 (fun H locs hw hS => ?_)
  refine lv_if_ne (tgt := 10) hx hb dX10_polishes_5 (by decide) (fun c6 => ?_) (fun c6 => ?_)
  · have hf := ifn c6 hf
    refine lv_iconst (v := 0) hx hb dX10_polishes_10 (by decide) ?_
    refine lv_istore_n (lv' := [(2, .int 0), (0, .ref (ad Γ o)), (1, .int v1)]) hx hb dX10_polishes_11 rfl hl (by decide) rfl (fun ls hl => ?_)
    exact lwX10_polishes_12 C hk hf hq H locs ls hw hS (lv_sub hl [1, 2, 0] rfl)
  · have hf := ifp c6 hf
    refine lv_iconst (v := 0) hx hb dX10_polishes_8 (by decide) ?_
    obtain rfl := Option.some.inj hf
    subst hq
    exact rt_z C (Or.inl rfl) hw hS dX10_polishes_9

theorem kX10_polishes {l : Launch} {Γ : Gm} {A : Nat → Prop} {G : Gs} {o : Nat} {r : Rec} {v1 : Int32} {fin : Rec × Int32} (hk : kd Γ o = some 10) (hf : fX10_polishes r v1 = some fin) : Kt l yX10_polishes cX10_polishes 3 (some .boolean) 3 64 Γ A (ug G o r) (ug G o fin.1) [.ref (ad Γ o), .int v1] (some (.int fin.2)) :=
  kt_of (by decide) (Nat.le_of_ble_eq_true rfl) (fun p e s m args below meth c C => wX10_polishes_e C hk hf rfl)
theorem kgX10_polishes {l : Launch} {Γ : Gm} {A : Nat → Prop} {G : Gs} {o : Nat} {v1 : Int32} {fin : Rec × Int32} (hk : kd Γ o = some 10) (hf : fX10_polishes (G o) v1 = some fin) : Kt l yX10_polishes cX10_polishes 3 (some .boolean) 3 64 Γ A G (ug G o fin.1) [.ref (ad Γ o), .int v1] (some (.int fin.2)) := by
  have h := kX10_polishes (l := l) (A := A) (G := G) (r := G o) hk hf
  rw [ug_self] at h
  exact h
noncomputable def bX10_goesOn_54 (r : Rec) : Option (Rec × Int32) :=
  (some (si r 30 ((gi r 30) + 1))).bind fun r1 => some ((r1, 1))
set_option maxRecDepth 100000 in
set_option maxHeartbeats 4000000 in
theorem wX10_goesOn_54 {p : Program} {l : Launch} {e : Env} {s : State} {m : MethodId} {args : Array Value} {below : List Frame} {meth : Method} {c : Code} {Γ : Gm} {A : Nat → Prop} {G : Gs} {o : Nat} {r : Rec} {q : (Rec × Int32)} {fin : Rec × Int32} (C : Cx p s m args meth c yX10_goesOn cX10_goesOn 2 (some .boolean) Γ A) (hk : kd Γ o = some 10) (hf : bX10_goesOn_54 r = some q) (hq : (fun x => x = fin) q) : Wk p l e { frames := 2, cells := 0, slots := 0, locals := 42 } s m args below meth c Γ A (ug G o fin.1) (some (.int fin.2)) 54 2 [(0, .ref (ad Γ o))] [] (ug G o r) := by
  intro H locs ls hw hS hl
  unfold bX10_goesOn_54 at hf
  obtain ⟨hx, hb, hml, hr, hown, htw, hlocks, hE⟩ := id C
  have hown : s.vm.findClass RX10 = some m.cls := hown
  refine lv_aload_n hx hb dX10_goesOn_54 rfl (lv_at hl 0 rfl) ?_
  refine lv_dup hx hb dX10_goesOn_55 rfl ?_
  refine va_get (ci := 10) (v := .int (gi r 30)) (C := RX10) (T := TX10) (N := 49) hx hb htw uwX10 hown hE.1 (wo_me hw hk) 0 rfl rfl 30 (by decide) (htw _ mw1273) (fun _ h9 => h9) rfl dX10_goesOn_56 ?_
  refine lv_iconst (v := 1) hx hb dX10_goesOn_59 (by decide) ?_
  refine lv_iadd hx hb dX10_goesOn_60 ?_
  obtain ⟨r1, hr1, hf⟩ := bd hf
  have hr1 := Option.some.inj hr1
  refine wo_put (C := RX10) (T := TX10) (N := 49) (v := .int ((gi r 30) + 1)) (ty := .int) hx hb htw uwX10 tyX10 tyX10_ok nmX10 hown hE hw hS hk rfl rfl 30 (by decide) (htw _ mw1273) (fun _ h9 => h9) rfl (tyX10_ok 30 (by decide)) rfl rfl (Nat.le_of_ble_eq_true rfl) (st10_30 hr1) dX10_goesOn_61 (fun H locs hw hS => ?_)
  refine lv_iconst (v := 1) hx hb dX10_goesOn_64 (by decide) ?_
  obtain rfl := Option.some.inj hf
  subst hq
  exact rt_z C (Or.inr rfl) hw hS dX10_goesOn_65

noncomputable def bX10_goesOn_13 (r : Rec) (v1 : Int32) : Option ((Int32 × Rec) ⊕ (Rec × Int32)) :=
  if 8 ≤ v1 then out1 (bX10_goesOn_54 r) else gd (inR v1 8) ((fX10_wear r v1).bind fun z4 => (fX10_greater 0 ((ga r 33 (Int32.toNatClampNeg v1)) - z4)).bind fun z5 => gd (inR v1 8) ((some (sa r 33 (upd (ga r 33) (Int32.toNatClampNeg v1) z5))).bind fun r7 => gd (inR v1 8) ((some (sa r7 34 (upd (ga r7 34) (Int32.toNatClampNeg v1) 0))).bind fun r9 => some (.inl (v1 + 1, r9)))))
set_option maxRecDepth 100000 in
set_option maxHeartbeats 4000000 in
theorem wX10_goesOn_13 {p : Program} {l : Launch} {e : Env} {s : State} {m : MethodId} {args : Array Value} {below : List Frame} {meth : Method} {c : Code} {Γ : Gm} {A : Nat → Prop} {G : Gs} {o : Nat} {r : Rec} {v1 : Int32} {q : ((Int32 × Rec) ⊕ (Rec × Int32))} {fin : Rec × Int32} (C : Cx p s m args meth c yX10_goesOn cX10_goesOn 2 (some .boolean) Γ A) (hk : kd Γ o = some 10) (hf : bX10_goesOn_13 r v1 = some q) (hq : (KC (fun st : Int32 × Rec => Wk p l e { frames := 2, cells := 0, slots := 0, locals := 42 } s m args below meth c Γ A (ug G o fin.1) (some (.int fin.2)) 13 2 [(0, .ref (ad Γ o)), (1, .int st.1)] [] (ug G o st.2)) (fun x => x = fin)) q) : Wk p l e { frames := 2, cells := 0, slots := 0, locals := 42 } s m args below meth c Γ A (ug G o fin.1) (some (.int fin.2)) 13 2 [(0, .ref (ad Γ o)), (1, .int v1)] [] (ug G o r) := by
  intro H locs ls hw hS hl
  unfold bX10_goesOn_13 at hf
  obtain ⟨hx, hb, hml, hr, hown, htw, hlocks, hE⟩ := id C
  have hown : s.vm.findClass RX10 = some m.cls := hown
  refine lv_iload_n hx hb dX10_goesOn_13 rfl (lv_at hl 1 rfl) ?_
  refine lv_bipush (v := 8) hx hb dX10_goesOn_14 (by decide) ?_
  refine lv_icmp_ge (tgt := 54) hx hb dX10_goesOn_16 (by decide) (fun c10 => ?_) (fun c10 => ?_)
  · have hf := ifp c10 hf
    obtain ⟨q2, hfq2, eq2⟩ := out1_some hf
    subst eq2
    have hf := hfq2
    have hq := hq.2 _ rfl
    exact wX10_goesOn_54 C hk hf hq H locs ls hw hS (lv_sub hl [0] rfl)
  · have hf := ifn c10 hf
    refine lv_aload_n hx hb dX10_goesOn_19 rfl (lv_at hl 0 rfl) ?_
    refine va_get (ci := 10) (v := .ref (aa Γ o 33)) (C := RX10) (T := TX10) (N := 49) hx hb htw uwX10 hown hE.1 (wo_me hw hk) 0 rfl rfl 33 (by decide) (htw _ mw1276) (fun _ h9 => h9) rfl dX10_goesOn_20 ?_
    refine lv_iload_n hx hb dX10_goesOn_23 rfl (lv_at hl 1 rfl) ?_
    refine lv_iconst (v := 0) hx hb dX10_goesOn_24 (by decide) ?_
    refine lv_aload_n hx hb dX10_goesOn_25 rfl (lv_at hl 0 rfl) ?_
    refine va_get (ci := 10) (v := .ref (aa Γ o 33)) (C := RX10) (T := TX10) (N := 49) hx hb htw uwX10 hown hE.1 (wo_me hw hk) 0 rfl rfl 33 (by decide) (htw _ mw1276) (fun _ h9 => h9) rfl dX10_goesOn_26 ?_
    refine lv_iload_n hx hb dX10_goesOn_29 rfl (lv_at hl 1 rfl) ?_
    obtain ⟨g3, hf⟩ := gd_some hf
    refine va_iald hx hb hE.1 (wo_me hw hk) 13 0 rfl rfl (inR_in g3) dX10_goesOn_30 ?_
    refine lv_aload_n hx hb dX10_goesOn_31 rfl (lv_at hl 0 rfl) ?_
    refine lv_iload_n hx hb dX10_goesOn_32 rfl (lv_at hl 1 rfl) ?_
    obtain ⟨z4, hz4, hf⟩ := bd hf
    refine cl_Vs (rest := [.int (ga r 33 (Int32.toNatClampNeg v1)), .int 0, .int v1, .ref (aa Γ o 33)]) (kX10_wear (l := l) (Γ := Γ) (A := A) (G := G) (o := o) hk hz4) ⟨hx, hb, hml, hown, htw⟩ hE hw hS (wo_me hw hk) (q0 := 0) rfl rfl mw1628 mw1630 mw84 mw129 mw1631 pdX10_wear ⟨Nat.le_of_ble_eq_true rfl, Nat.le_of_ble_eq_true rfl⟩ rfl rfl hl.1 (Nat.le_of_ble_eq_true rfl) dX10_goesOn_33 (fun H locs hw hS => ?_)
    refine lv_isub hx hb dX10_goesOn_36 ?_
    obtain ⟨z5, hz5, hf⟩ := bd hf
    refine cl_Ss (rest := [.int v1, .ref (aa Γ o 33)]) (kX10_greater (l := l) (Γ := Γ) (A := A) (G := (ug G o r)) hz5) ⟨hx, hb, hml, hown, htw⟩ hE hw hS mw1467 mw1468 mw129 mw1469 pdX10_greater ⟨Nat.le_of_ble_eq_true rfl, Nat.le_of_ble_eq_true rfl⟩ rfl rfl hl.1 (Nat.le_of_ble_eq_true rfl) dX10_goesOn_37 (fun H locs hw hS => ?_)
    obtain ⟨g6, hf⟩ := gd_some hf
    obtain ⟨r7, hr7, hf⟩ := bd hf
    have hr7 := Option.some.inj hr7
    refine wo_iast hx hb hE hw hS hk (q0 := 13) rfl (inR_in g6) (sa10_33 hr7) dX10_goesOn_40 (fun H locs hw hS => ?_)
    refine lv_aload_n hx hb dX10_goesOn_41 rfl (lv_at hl 0 rfl) ?_
    refine va_get (ci := 10) (v := .ref (aa Γ o 34)) (C := RX10) (T := TX10) (N := 49) hx hb htw uwX10 hown hE.1 (wo_me hw hk) 0 rfl rfl 34 (by decide) (htw _ mw1277) (fun _ h9 => h9) rfl dX10_goesOn_42 ?_
    refine lv_iload_n hx hb dX10_goesOn_45 rfl (lv_at hl 1 rfl) ?_
    refine lv_iconst (v := 0) hx hb dX10_goesOn_46 (by decide) ?_
    obtain ⟨g8, hf⟩ := gd_some hf
    obtain ⟨r9, hr9, hf⟩ := bd hf
    have hr9 := Option.some.inj hr9
    refine wo_iast hx hb hE hw hS hk (q0 := 14) rfl (inR_in g8) (sa10_34 hr9) dX10_goesOn_47 (fun H locs hw hS => ?_)
    refine lv_iinc (v := v1 + 1) (lv' := [(1, .int (v1 + 1)), (0, .ref (ad Γ o))]) hx hb dX10_goesOn_48 hl (k := 1) rfl (by rfl) (by decide) rfl (fun ls hl => ?_)
    refine lv_goto (tgt := 13) hx hb dX10_goesOn_51 (by decide) ?_
    obtain rfl := Option.some.inj hf
    exact hq.1 _ rfl H locs ls hw hS (lv_sub hl [1, 0] rfl)

set_option maxRecDepth 100000 in
set_option maxHeartbeats 4000000 in
theorem lwX10_goesOn_13 {p : Program} {l : Launch} {e : Env} {s : State} {m : MethodId} {args : Array Value} {below : List Frame} {meth : Method} {c : Code} {Γ : Gm} {A : Nat → Prop} {G : Gs} {o : Nat} {r : Rec} {v1 : Int32} {q : (Rec × Int32)} {fin : Rec × Int32} (C : Cx p s m args meth c yX10_goesOn cX10_goesOn 2 (some .boolean) Γ A) (hk : kd Γ o = some 10) (hf : iter (fun st : Int32 × Rec => bX10_goesOn_13 st.2 st.1) (v1, r) = some q) (hq : (fun x => x = fin) q) : Wk p l e { frames := 2, cells := 0, slots := 0, locals := 42 } s m args below meth c Γ A (ug G o fin.1) (some (.int fin.2)) 13 2 [(0, .ref (ad Γ o)), (1, .int v1)] [] (ug G o r) := by
  intro H locs ls hw hS hl
  refine iter_walk (P := (fun st : Int32 × Rec => Wk p l e { frames := 2, cells := 0, slots := 0, locals := 42 } s m args below meth c Γ A (ug G o fin.1) (some (.int fin.2)) 13 2 [(0, .ref (ad Γ o)), (1, .int st.1)] [] (ug G o st.2))) (K := (fun x => x = fin)) (fun st q hq1 h1 h2 => ?_) hf hq H locs ls hw hS hl
  exact wX10_goesOn_13 (r := st.2) (v1 := st.1) C hk hq1 ⟨h1, h2⟩

noncomputable def fX10_goesOn (r : Rec) : Option (Rec × Int32) :=
  if (gi r 30) = 99 then some ((r, 0)) else iter (fun st : Int32 × Rec => bX10_goesOn_13 st.2 st.1) (0, r)
set_option maxRecDepth 100000 in
set_option maxHeartbeats 4000000 in
theorem wX10_goesOn_e {p : Program} {l : Launch} {e : Env} {s : State} {m : MethodId} {args : Array Value} {below : List Frame} {meth : Method} {c : Code} {Γ : Gm} {A : Nat → Prop} {G : Gs} {o : Nat} {r : Rec} {q : (Rec × Int32)} {fin : Rec × Int32} (C : Cx p s m args meth c yX10_goesOn cX10_goesOn 2 (some .boolean) Γ A) (hk : kd Γ o = some 10) (hf : fX10_goesOn r = some q) (hq : (fun x => x = fin) q) : Wk p l e { frames := 2, cells := 0, slots := 0, locals := 42 } s m args below meth c Γ A (ug G o fin.1) (some (.int fin.2)) 0 2 [(0, .ref (ad Γ o))] [] (ug G o r) := by
  intro H locs ls hw hS hl
  unfold fX10_goesOn at hf
  obtain ⟨hx, hb, hml, hr, hown, htw, hlocks, hE⟩ := id C
  have hown : s.vm.findClass RX10 = some m.cls := hown
  refine lv_aload_n hx hb dX10_goesOn_0 rfl (lv_at hl 0 rfl) ?_
  refine va_get (ci := 10) (v := .int (gi r 30)) (C := RX10) (T := TX10) (N := 49) hx hb htw uwX10 hown hE.1 (wo_me hw hk) 0 rfl rfl 30 (by decide) (htw _ mw1273) (fun _ h9 => h9) rfl dX10_goesOn_1 ?_
  refine lv_bipush (v := 99) hx hb dX10_goesOn_4 (by decide) ?_
  refine lv_icmp_ne (tgt := 11) hx hb dX10_goesOn_6 (by decide) (fun c11 => ?_) (fun c11 => ?_)
  · have hf := ifn c11 hf
    refine lv_iconst (v := 0) hx hb dX10_goesOn_11 (by decide) ?_
    refine lv_istore_n (lv' := [(1, .int 0), (0, .ref (ad Γ o))]) hx hb dX10_goesOn_12 rfl hl (by decide) rfl (fun ls hl => ?_)
    exact lwX10_goesOn_13 C hk hf hq H locs ls hw hS (lv_sub hl [1, 0] rfl)
  · have hf := ifp c11 hf
    refine lv_iconst (v := 0) hx hb dX10_goesOn_9 (by decide) ?_
    obtain rfl := Option.some.inj hf
    subst hq
    exact rt_z C (Or.inl rfl) hw hS dX10_goesOn_10

theorem kX10_goesOn {l : Launch} {Γ : Gm} {A : Nat → Prop} {G : Gs} {o : Nat} {r : Rec} {fin : Rec × Int32} (hk : kd Γ o = some 10) (hf : fX10_goesOn r = some fin) : Kt l yX10_goesOn cX10_goesOn 2 (some .boolean) 2 42 Γ A (ug G o r) (ug G o fin.1) [.ref (ad Γ o)] (some (.int fin.2)) :=
  kt_of (by decide) (Nat.le_of_ble_eq_true rfl) (fun p e s m args below meth c C => wX10_goesOn_e C hk hf rfl)
theorem kgX10_goesOn {l : Launch} {Γ : Gm} {A : Nat → Prop} {G : Gs} {o : Nat} {fin : Rec × Int32} (hk : kd Γ o = some 10) (hf : fX10_goesOn (G o) = some fin) : Kt l yX10_goesOn cX10_goesOn 2 (some .boolean) 2 42 Γ A G (ug G o fin.1) [.ref (ad Γ o)] (some (.int fin.2)) := by
  have h := kX10_goesOn (l := l) (A := A) (G := G) (r := G o) hk hf
  rw [ug_self] at h
  exact h
noncomputable def fX10_takes (r : Rec) (v1 : Int32) (v2 : Int32) : Option (Rec × Int32) :=
  (fX10_isPiece r v1).bind fun z1 => if z1 = 0 then some ((r, 0)) else (fX10_has (gi r 31) v1).bind fun z2 => if z2 = v2 then some ((r, 0)) else (some (si r 31 ((gi r 31) ^^^ ((1 : Int32) <<< (v1 &&& 31))))).bind fun r3 => gd (inR v1 8) ((some (sa r3 33 (upd (ga r3 33) (Int32.toNatClampNeg v1) 0))).bind fun r5 => gd (inR v1 8) ((some (sa r5 34 (upd (ga r5 34) (Int32.toNatClampNeg v1) 0))).bind fun r7 => some ((r7, 1))))
set_option maxRecDepth 100000 in
set_option maxHeartbeats 4000000 in
theorem wX10_takes_e {p : Program} {l : Launch} {e : Env} {s : State} {m : MethodId} {args : Array Value} {below : List Frame} {meth : Method} {c : Code} {Γ : Gm} {A : Nat → Prop} {G : Gs} {o : Nat} {r : Rec} {v1 : Int32} {v2 : Int32} {q : (Rec × Int32)} {fin : Rec × Int32} (C : Cx p s m args meth c yX10_takes cX10_takes 3 (some .boolean) Γ A) (hk : kd Γ o = some 10) (hf : fX10_takes r v1 v2 = some q) (hq : (fun x => x = fin) q) : Wk p l e { frames := 2, cells := 0, slots := 0, locals := 43 } s m args below meth c Γ A (ug G o fin.1) (some (.int fin.2)) 0 3 [(0, .ref (ad Γ o)), (1, .int v1), (2, .int v2)] [] (ug G o r) := by
  intro H locs ls hw hS hl
  unfold fX10_takes at hf
  obtain ⟨hx, hb, hml, hr, hown, htw, hlocks, hE⟩ := id C
  have hown : s.vm.findClass RX10 = some m.cls := hown
  refine lv_aload_n hx hb dX10_takes_0 rfl (lv_at hl 0 rfl) ?_
  refine lv_iload_n hx hb dX10_takes_1 rfl (lv_at hl 1 rfl) ?_
  obtain ⟨z1, hz1, hf⟩ := bd hf
  refine cl_Vs (rest := []) (kX10_isPiece (l := l) (Γ := Γ) (A := A) (G := G) (o := o) hk hz1) ⟨hx, hb, hml, hown, htw⟩ hE hw hS (wo_me hw hk) (q0 := 0) rfl rfl mw1553 mw1555 mw68 mw129 mw1556 pdX10_isPiece ⟨Nat.le_of_ble_eq_true rfl, Nat.le_of_ble_eq_true rfl⟩ rfl rfl hl.1 (Nat.le_of_ble_eq_true rfl) dX10_takes_2 (fun H locs hw hS => ?_)
  refine lv_if_eq (tgt := 20) hx hb dX10_takes_5 (by decide) (fun c9 => ?_) (fun c9 => ?_)
  · have hf := ifp c9 hf
    refine lv_iconst (v := 0) hx hb dX10_takes_20 (by decide) ?_
    obtain rfl := Option.some.inj hf
    subst hq
    exact rt_z C (Or.inl rfl) hw hS dX10_takes_21
  · have hf := ifn c9 hf
    refine lv_aload_n hx hb dX10_takes_8 rfl (lv_at hl 0 rfl) ?_
    refine va_get (ci := 10) (v := .int (gi r 31)) (C := RX10) (T := TX10) (N := 49) hx hb htw uwX10 hown hE.1 (wo_me hw hk) 0 rfl rfl 31 (by decide) (htw _ mw1274) (fun _ h9 => h9) rfl dX10_takes_9 ?_
    refine lv_iload_n hx hb dX10_takes_12 rfl (lv_at hl 1 rfl) ?_
    obtain ⟨z2, hz2, hf⟩ := bd hf
    refine cl_Ss (rest := []) (kX10_has (l := l) (Γ := Γ) (A := A) (G := (ug G o r)) hz2) ⟨hx, hb, hml, hown, htw⟩ hE hw hS mw1561 mw1562 mw129 mw1563 pdX10_has ⟨Nat.le_of_ble_eq_true rfl, Nat.le_of_ble_eq_true rfl⟩ rfl rfl hl.1 (Nat.le_of_ble_eq_true rfl) dX10_takes_13 (fun H locs hw hS => ?_)
    refine lv_iload_n hx hb dX10_takes_16 rfl (lv_at hl 2 rfl) ?_
    refine lv_icmp_ne (tgt := 22) hx hb dX10_takes_17 (by decide) (fun c8 => ?_) (fun c8 => ?_)
    · have hf := ifn c8 hf
      refine lv_aload_n hx hb dX10_takes_22 rfl (lv_at hl 0 rfl) ?_
      refine lv_dup hx hb dX10_takes_23 rfl ?_
      refine va_get (ci := 10) (v := .int (gi r 31)) (C := RX10) (T := TX10) (N := 49) hx hb htw uwX10 hown hE.1 (wo_me hw hk) 0 rfl rfl 31 (by decide) (htw _ mw1274) (fun _ h9 => h9) rfl dX10_takes_24 ?_
      refine lv_iconst (v := 1) hx hb dX10_takes_27 (by decide) ?_
      refine lv_iload_n hx hb dX10_takes_28 rfl (lv_at hl 1 rfl) ?_
      refine lv_ishl hx hb dX10_takes_29 ?_
      refine lv_ixor hx hb dX10_takes_30 ?_
      obtain ⟨r3, hr3, hf⟩ := bd hf
      have hr3 := Option.some.inj hr3
      refine wo_put (C := RX10) (T := TX10) (N := 49) (v := .int ((gi r 31) ^^^ ((1 : Int32) <<< (v1 &&& 31)))) (ty := .int) hx hb htw uwX10 tyX10 tyX10_ok nmX10 hown hE hw hS hk rfl rfl 31 (by decide) (htw _ mw1274) (fun _ h9 => h9) rfl (tyX10_ok 31 (by decide)) rfl rfl (Nat.le_of_ble_eq_true rfl) (st10_31 hr3) dX10_takes_31 (fun H locs hw hS => ?_)
      refine lv_aload_n hx hb dX10_takes_34 rfl (lv_at hl 0 rfl) ?_
      refine va_get (ci := 10) (v := .ref (aa Γ o 33)) (C := RX10) (T := TX10) (N := 49) hx hb htw uwX10 hown hE.1 (wo_me hw hk) 0 rfl rfl 33 (by decide) (htw _ mw1276) (fun _ h9 => h9) rfl dX10_takes_35 ?_
      refine lv_iload_n hx hb dX10_takes_38 rfl (lv_at hl 1 rfl) ?_
      refine lv_iconst (v := 0) hx hb dX10_takes_39 (by decide) ?_
      obtain ⟨g4, hf⟩ := gd_some hf
      obtain ⟨r5, hr5, hf⟩ := bd hf
      have hr5 := Option.some.inj hr5
      refine wo_iast hx hb hE hw hS hk (q0 := 13) rfl (inR_in g4) (sa10_33 hr5) dX10_takes_40 (fun H locs hw hS => ?_)
      refine lv_aload_n hx hb dX10_takes_41 rfl (lv_at hl 0 rfl) ?_
      refine va_get (ci := 10) (v := .ref (aa Γ o 34)) (C := RX10) (T := TX10) (N := 49) hx hb htw uwX10 hown hE.1 (wo_me hw hk) 0 rfl rfl 34 (by decide) (htw _ mw1277) (fun _ h9 => h9) rfl dX10_takes_42 ?_
      refine lv_iload_n hx hb dX10_takes_45 rfl (lv_at hl 1 rfl) ?_
      refine lv_iconst (v := 0) hx hb dX10_takes_46 (by decide) ?_
      obtain ⟨g6, hf⟩ := gd_some hf
      obtain ⟨r7, hr7, hf⟩ := bd hf
      have hr7 := Option.some.inj hr7
      refine wo_iast hx hb hE hw hS hk (q0 := 14) rfl (inR_in g6) (sa10_34 hr7) dX10_takes_47 (fun H locs hw hS => ?_)
      refine lv_iconst (v := 1) hx hb dX10_takes_48 (by decide) ?_
      obtain rfl := Option.some.inj hf
      subst hq
      exact rt_z C (Or.inr rfl) hw hS dX10_takes_49
    · have hf := ifp c8 hf
      refine lv_iconst (v := 0) hx hb dX10_takes_20 (by decide) ?_
      obtain rfl := Option.some.inj hf
      subst hq
      exact rt_z C (Or.inl rfl) hw hS dX10_takes_21

theorem kX10_takes {l : Launch} {Γ : Gm} {A : Nat → Prop} {G : Gs} {o : Nat} {r : Rec} {v1 : Int32} {v2 : Int32} {fin : Rec × Int32} (hk : kd Γ o = some 10) (hf : fX10_takes r v1 v2 = some fin) : Kt l yX10_takes cX10_takes 3 (some .boolean) 2 43 Γ A (ug G o r) (ug G o fin.1) [.ref (ad Γ o), .int v1, .int v2] (some (.int fin.2)) :=
  kt_of (by decide) (Nat.le_of_ble_eq_true rfl) (fun p e s m args below meth c C => wX10_takes_e C hk hf rfl)
theorem kgX10_takes {l : Launch} {Γ : Gm} {A : Nat → Prop} {G : Gs} {o : Nat} {v1 : Int32} {v2 : Int32} {fin : Rec × Int32} (hk : kd Γ o = some 10) (hf : fX10_takes (G o) v1 v2 = some fin) : Kt l yX10_takes cX10_takes 3 (some .boolean) 2 43 Γ A G (ug G o fin.1) [.ref (ad Γ o), .int v1, .int v2] (some (.int fin.2)) := by
  have h := kX10_takes (l := l) (A := A) (G := G) (r := G o) hk hf
  rw [ug_self] at h
  exact h
noncomputable def bX10_does_79 (r : Rec) (s0 : Int32) (s1 : Int32) : Option (Rec × Int32) :=
  (fX10_takes r s1 s0).bind fun z1 => gd (isB z1.2) (some ((z1.1, z1.2)))
set_option maxRecDepth 100000 in
set_option maxHeartbeats 4000000 in
theorem wX10_does_79 {p : Program} {l : Launch} {e : Env} {s : State} {m : MethodId} {args : Array Value} {below : List Frame} {meth : Method} {c : Code} {Γ : Gm} {A : Nat → Prop} {G : Gs} {o : Nat} {r : Rec} {s0 : Int32} {s1 : Int32} {q : (Rec × Int32)} {fin : Rec × Int32} (C : Cx p s m args meth c yX10_does cX10_does 5 (some .boolean) Γ A) (hk : kd Γ o = some 10) (hf : bX10_does_79 r s0 s1 = some q) (hq : (fun x => x = fin) q) : Wk p l e { frames := 4, cells := 0, slots := 0, locals := 89 } s m args below meth c Γ A (ug G o fin.1) (some (.int fin.2)) 79 5 [] [.int s0, .int s1, .ref (ad Γ o)] (ug G o r) := by
  intro H locs ls hw hS hl
  unfold bX10_does_79 at hf
  obtain ⟨hx, hb, hml, hr, hown, htw, hlocks, hE⟩ := id C
  have hown : s.vm.findClass RX10 = some m.cls := hown
  obtain ⟨z1, hz1, hf⟩ := bd hf
  refine cl_Vs (rest := []) (kX10_takes (l := l) (Γ := Γ) (A := A) (G := G) (o := o) hk hz1) ⟨hx, hb, hml, hown, htw⟩ hE hw hS (wo_me hw hk) (q0 := 0) rfl rfl mw1632 mw1634 mw85 mw129 mw1635 pdX10_takes ⟨Nat.le_of_ble_eq_true rfl, Nat.le_of_ble_eq_true rfl⟩ rfl rfl hl.1 (Nat.le_of_ble_eq_true rfl) dX10_does_79 (fun H locs hw hS => ?_)
  obtain ⟨g2, hf⟩ := gd_some hf
  obtain rfl := Option.some.inj hf
  subst hq
  exact rt_z C (isB_or g2) hw hS dX10_does_82

noncomputable def bX10_does_67 (r : Rec) (v1 : Int32) (v2 : Int32) : Option (Rec × Int32) :=
  if v1 = 3 then bX10_does_79 r 1 v2 else bX10_does_79 r 0 v2
set_option maxRecDepth 100000 in
set_option maxHeartbeats 4000000 in
theorem wX10_does_67 {p : Program} {l : Launch} {e : Env} {s : State} {m : MethodId} {args : Array Value} {below : List Frame} {meth : Method} {c : Code} {Γ : Gm} {A : Nat → Prop} {G : Gs} {o : Nat} {r : Rec} {v1 : Int32} {v2 : Int32} {q : (Rec × Int32)} {fin : Rec × Int32} (C : Cx p s m args meth c yX10_does cX10_does 5 (some .boolean) Γ A) (hk : kd Γ o = some 10) (hf : bX10_does_67 r v1 v2 = some q) (hq : (fun x => x = fin) q) : Wk p l e { frames := 4, cells := 0, slots := 0, locals := 89 } s m args below meth c Γ A (ug G o fin.1) (some (.int fin.2)) 67 5 [(0, .ref (ad Γ o)), (1, .int v1), (2, .int v2)] [] (ug G o r) := by
  intro H locs ls hw hS hl
  unfold bX10_does_67 at hf
  obtain ⟨hx, hb, hml, hr, hown, htw, hlocks, hE⟩ := id C
  have hown : s.vm.findClass RX10 = some m.cls := hown
  refine lv_aload_n hx hb dX10_does_67 rfl (lv_at hl 0 rfl) ?_
  refine lv_iload_n hx hb dX10_does_68 rfl (lv_at hl 2 rfl) ?_
  refine lv_iload_n hx hb dX10_does_69 rfl (lv_at hl 1 rfl) ?_
  refine lv_iconst (v := 3) hx hb dX10_does_70 (by decide) ?_
  refine lv_icmp_ne (tgt := 78) hx hb dX10_does_71 (by decide) (fun c3 => ?_) (fun c3 => ?_)
  · have hf := ifn c3 hf
    refine lv_iconst (v := 0) hx hb dX10_does_78 (by decide) ?_
    exact wX10_does_79 C hk hf hq H locs ls hw hS (lv_sub hl [] rfl)
  · have hf := ifp c3 hf
    refine lv_iconst (v := 1) hx hb dX10_does_74 (by decide) ?_
    refine lv_goto (tgt := 79) hx hb dX10_does_75 (by decide) ?_
    exact wX10_does_79 C hk hf hq H locs ls hw hS (lv_sub hl [] rfl)

noncomputable def fX10_does (r : Rec) (v1 : Int32) (v2 : Int32) (v3 : Int32) (v4 : Int32) : Option (Rec × Int32) :=
  if v1 = 0 then (fX10_tells r v2 v3).bind fun z4 => gd (isB z4.2) (some ((z4.1, z4.2))) else if v1 = 1 then (fX10_tellsBoth r v2 v3 v4).bind fun z6 => gd (isB z6.2) (some ((z6.1, z6.2))) else if v1 = 2 then (fX10_polishes r v2).bind fun z8 => gd (isB z8.2) (some ((z8.1, z8.2))) else if v1 = 3 then bX10_does_67 r v1 v2 else if v1 = 4 then bX10_does_67 r v1 v2 else if v1 = 5 then (fX10_goesOn r).bind fun z10 => gd (isB z10.2) (some ((z10.1, z10.2))) else bX10_does_67 r v1 v2
set_option maxRecDepth 100000 in
set_option maxHeartbeats 4000000 in
theorem wX10_does_e {p : Program} {l : Launch} {e : Env} {s : State} {m : MethodId} {args : Array Value} {below : List Frame} {meth : Method} {c : Code} {Γ : Gm} {A : Nat → Prop} {G : Gs} {o : Nat} {r : Rec} {v1 : Int32} {v2 : Int32} {v3 : Int32} {v4 : Int32} {q : (Rec × Int32)} {fin : Rec × Int32} (C : Cx p s m args meth c yX10_does cX10_does 5 (some .boolean) Γ A) (hk : kd Γ o = some 10) (hf : fX10_does r v1 v2 v3 v4 = some q) (hq : (fun x => x = fin) q) : Wk p l e { frames := 4, cells := 0, slots := 0, locals := 89 } s m args below meth c Γ A (ug G o fin.1) (some (.int fin.2)) 0 5 [(0, .ref (ad Γ o)), (1, .int v1), (2, .int v2), (3, .int v3), (4, .int v4)] [] (ug G o r) := by
  intro H locs ls hw hS hl
  unfold fX10_does at hf
  obtain ⟨hx, hb, hml, hr, hown, htw, hlocks, hE⟩ := id C
  have hown : s.vm.findClass RX10 = some m.cls := hown
  refine lv_iload_n hx hb dX10_does_0 rfl (lv_at hl 1 rfl) ?_
  by_cases c12 : v1 = 0
  · have hf := ifp c12 hf
    rw [c12]
    refine lv_tableIn (off := 39) (tgt := 40) hx hb dX10_does_1 (by decide) (by decide) (by rfl) (by decide) ?_
    refine lv_aload_n hx hb dX10_does_40 rfl (lv_at hl 0 rfl) ?_
    refine lv_iload_n hx hb dX10_does_41 rfl (lv_at hl 2 rfl) ?_
    refine lv_iload_n hx hb dX10_does_42 rfl (lv_at hl 3 rfl) ?_
    obtain ⟨z4, hz4, hf⟩ := bd hf
    refine cl_Vs (rest := []) (kX10_tells (l := l) (Γ := Γ) (A := A) (G := G) (o := o) hk hz4) ⟨hx, hb, hml, hown, htw⟩ hE hw hS (wo_me hw hk) (q0 := 0) rfl rfl mw1608 mw1610 mw79 mw129 mw1611 pdX10_tells ⟨Nat.le_of_ble_eq_true rfl, Nat.le_of_ble_eq_true rfl⟩ rfl rfl hl.1 (Nat.le_of_ble_eq_true rfl) dX10_does_43 (fun H locs hw hS => ?_)
    obtain ⟨g5, hf⟩ := gd_some hf
    obtain rfl := Option.some.inj hf
    subst hq
    exact rt_z C (isB_or g5) hw hS dX10_does_46
  have hf := ifn c12 hf
  by_cases c13 : v1 = 1
  · have hf := ifp c13 hf
    rw [c13]
    refine lv_tableIn (off := 46) (tgt := 47) hx hb dX10_does_1 (by decide) (by decide) (by rfl) (by decide) ?_
    refine lv_aload_n hx hb dX10_does_47 rfl (lv_at hl 0 rfl) ?_
    refine lv_iload_n hx hb dX10_does_48 rfl (lv_at hl 2 rfl) ?_
    refine lv_iload_n hx hb dX10_does_49 rfl (lv_at hl 3 rfl) ?_
    refine lv_iload hx hb dX10_does_50 (lv_at hl 4 rfl) ?_
    obtain ⟨z6, hz6, hf⟩ := bd hf
    refine cl_Vs (rest := []) (kX10_tellsBoth (l := l) (Γ := Γ) (A := A) (G := G) (o := o) hk hz6) ⟨hx, hb, hml, hown, htw⟩ hE hw hS (wo_me hw hk) (q0 := 0) rfl rfl mw1616 mw1618 mw81 mw129 mw1619 pdX10_tellsBoth ⟨Nat.le_of_ble_eq_true rfl, Nat.le_of_ble_eq_true rfl⟩ rfl rfl hl.1 (Nat.le_of_ble_eq_true rfl) dX10_does_52 (fun H locs hw hS => ?_)
    obtain ⟨g7, hf⟩ := gd_some hf
    obtain rfl := Option.some.inj hf
    subst hq
    exact rt_z C (isB_or g7) hw hS dX10_does_55
  have hf := ifn c13 hf
  by_cases c14 : v1 = 2
  · have hf := ifp c14 hf
    rw [c14]
    refine lv_tableIn (off := 55) (tgt := 56) hx hb dX10_does_1 (by decide) (by decide) (by rfl) (by decide) ?_
    refine lv_aload_n hx hb dX10_does_56 rfl (lv_at hl 0 rfl) ?_
    refine lv_iload_n hx hb dX10_does_57 rfl (lv_at hl 2 rfl) ?_
    obtain ⟨z8, hz8, hf⟩ := bd hf
    refine cl_Vs (rest := []) (kX10_polishes (l := l) (Γ := Γ) (A := A) (G := G) (o := o) hk hz8) ⟨hx, hb, hml, hown, htw⟩ hE hw hS (wo_me hw hk) (q0 := 0) rfl rfl mw1620 mw1622 mw82 mw129 mw1623 pdX10_polishes ⟨Nat.le_of_ble_eq_true rfl, Nat.le_of_ble_eq_true rfl⟩ rfl rfl hl.1 (Nat.le_of_ble_eq_true rfl) dX10_does_58 (fun H locs hw hS => ?_)
    obtain ⟨g9, hf⟩ := gd_some hf
    obtain rfl := Option.some.inj hf
    subst hq
    exact rt_z C (isB_or g9) hw hS dX10_does_61
  have hf := ifn c14 hf
  by_cases c15 : v1 = 3
  · have hf := ifp c15 hf
    rw [c15]
    refine lv_tableIn (off := 66) (tgt := 67) hx hb dX10_does_1 (by decide) (by decide) (by rfl) (by decide) ?_
    exact wX10_does_67 C hk hf hq H locs ls hw hS (lv_sub hl [0, 1, 2] rfl)
  have hf := ifn c15 hf
  by_cases c16 : v1 = 4
  · have hf := ifp c16 hf
    rw [c16]
    refine lv_tableIn (off := 66) (tgt := 67) hx hb dX10_does_1 (by decide) (by decide) (by rfl) (by decide) ?_
    exact wX10_does_67 C hk hf hq H locs ls hw hS (lv_sub hl [0, 1, 2] rfl)
  have hf := ifn c16 hf
  by_cases c17 : v1 = 5
  · have hf := ifp c17 hf
    rw [c17]
    refine lv_tableIn (off := 61) (tgt := 62) hx hb dX10_does_1 (by decide) (by decide) (by rfl) (by decide) ?_
    refine lv_aload_n hx hb dX10_does_62 rfl (lv_at hl 0 rfl) ?_
    obtain ⟨z10, hz10, hf⟩ := bd hf
    refine cl_Vs (rest := []) (kX10_goesOn (l := l) (Γ := Γ) (A := A) (G := G) (o := o) hk hz10) ⟨hx, hb, hml, hown, htw⟩ hE hw hS (wo_me hw hk) (q0 := 0) rfl rfl mw1624 mw1626 mw83 mw129 mw1627 pdX10_goesOn ⟨Nat.le_of_ble_eq_true rfl, Nat.le_of_ble_eq_true rfl⟩ rfl rfl hl.1 (Nat.le_of_ble_eq_true rfl) dX10_does_63 (fun H locs hw hS => ?_)
    obtain ⟨g11, hf⟩ := gd_some hf
    obtain rfl := Option.some.inj hf
    subst hq
    exact rt_z C (isB_or g11) hw hS dX10_does_66
  have hf := ifn c17 hf
  refine lv_tableOut (tgt := 67) hx hb dX10_does_1 (by have := And.intro (ts_ne (k := 0) (by decide) c12) (And.intro (ts_ne (k := 1) (by decide) c13) (And.intro (ts_ne (k := 2) (by decide) c14) (And.intro (ts_ne (k := 3) (by decide) c15) (And.intro (ts_ne (k := 4) (by decide) c16) (And.intro (ts_ne (k := 5) (by decide) c17) (True.intro)))))); omega) (by decide) ?_
  exact wX10_does_67 C hk hf hq H locs ls hw hS (lv_sub hl [0, 1, 2] rfl)

theorem kX10_does {l : Launch} {Γ : Gm} {A : Nat → Prop} {G : Gs} {o : Nat} {r : Rec} {v1 : Int32} {v2 : Int32} {v3 : Int32} {v4 : Int32} {fin : Rec × Int32} (hk : kd Γ o = some 10) (hf : fX10_does r v1 v2 v3 v4 = some fin) : Kt l yX10_does cX10_does 5 (some .boolean) 4 89 Γ A (ug G o r) (ug G o fin.1) [.ref (ad Γ o), .int v1, .int v2, .int v3, .int v4] (some (.int fin.2)) :=
  kt_of (by decide) (Nat.le_of_ble_eq_true rfl) (fun p e s m args below meth c C => wX10_does_e C hk hf rfl)
theorem kgX10_does {l : Launch} {Γ : Gm} {A : Nat → Prop} {G : Gs} {o : Nat} {v1 : Int32} {v2 : Int32} {v3 : Int32} {v4 : Int32} {fin : Rec × Int32} (hk : kd Γ o = some 10) (hf : fX10_does (G o) v1 v2 v3 v4 = some fin) : Kt l yX10_does cX10_does 5 (some .boolean) 4 89 Γ A G (ug G o fin.1) [.ref (ad Γ o), .int v1, .int v2, .int v3, .int v4] (some (.int fin.2)) := by
  have h := kX10_does (l := l) (A := A) (G := G) (r := G o) hk hf
  rw [ug_self] at h
  exact h
noncomputable def fX10_doesDeed (r : Rec) (v1 : Int32) : Option (Rec × Int32) :=
  (fX10_deedOf r v1 0).bind fun z1 => (fX10_deedOf r v1 1).bind fun z2 => (fX10_deedOf r v1 2).bind fun z3 => (fX10_deedOf r v1 3).bind fun z4 => (fX10_does r z1 z2 z3 z4).bind fun z5 => gd (isB z5.2) (some ((z5.1, z5.2)))
set_option maxRecDepth 100000 in
set_option maxHeartbeats 4000000 in
theorem wX10_doesDeed_e {p : Program} {l : Launch} {e : Env} {s : State} {m : MethodId} {args : Array Value} {below : List Frame} {meth : Method} {c : Code} {Γ : Gm} {A : Nat → Prop} {G : Gs} {o : Nat} {r : Rec} {v1 : Int32} {q : (Rec × Int32)} {fin : Rec × Int32} (C : Cx p s m args meth c yX10_doesDeed cX10_doesDeed 2 (some .boolean) Γ A) (hk : kd Γ o = some 10) (hf : fX10_doesDeed r v1 = some q) (hq : (fun x => x = fin) q) : Wk p l e { frames := 5, cells := 0, slots := 0, locals := 113 } s m args below meth c Γ A (ug G o fin.1) (some (.int fin.2)) 0 2 [(0, .ref (ad Γ o)), (1, .int v1)] [] (ug G o r) := by
  intro H locs ls hw hS hl
  unfold fX10_doesDeed at hf
  obtain ⟨hx, hb, hml, hr, hown, htw, hlocks, hE⟩ := id C
  have hown : s.vm.findClass RX10 = some m.cls := hown
  refine lv_aload_n hx hb dX10_doesDeed_0 rfl (lv_at hl 0 rfl) ?_
  refine lv_aload_n hx hb dX10_doesDeed_1 rfl (lv_at hl 0 rfl) ?_
  refine lv_iload_n hx hb dX10_doesDeed_2 rfl (lv_at hl 1 rfl) ?_
  refine lv_iconst (v := 0) hx hb dX10_doesDeed_3 (by decide) ?_
  obtain ⟨z1, hz1, hf⟩ := bd hf
  refine cl_Vs (rest := [.ref (ad Γ o)]) (kX10_deedOf (l := l) (Γ := Γ) (A := A) (G := G) (o := o) hk hz1) ⟨hx, hb, hml, hown, htw⟩ hE hw hS (wo_me hw hk) (q0 := 0) rfl rfl mw1580 mw1582 mw73 mw129 mw1583 pdX10_deedOf ⟨Nat.le_of_ble_eq_true rfl, Nat.le_of_ble_eq_true rfl⟩ rfl rfl hl.1 (Nat.le_of_ble_eq_true rfl) dX10_doesDeed_4 (fun H locs hw hS => ?_)
  refine lv_aload_n hx hb dX10_doesDeed_7 rfl (lv_at hl 0 rfl) ?_
  refine lv_iload_n hx hb dX10_doesDeed_8 rfl (lv_at hl 1 rfl) ?_
  refine lv_iconst (v := 1) hx hb dX10_doesDeed_9 (by decide) ?_
  obtain ⟨z2, hz2, hf⟩ := bd hf
  refine cl_Vs (rest := [.int z1, .ref (ad Γ o)]) (kX10_deedOf (l := l) (Γ := Γ) (A := A) (G := G) (o := o) hk hz2) ⟨hx, hb, hml, hown, htw⟩ hE hw hS (wo_me hw hk) (q0 := 0) rfl rfl mw1580 mw1582 mw73 mw129 mw1583 pdX10_deedOf ⟨Nat.le_of_ble_eq_true rfl, Nat.le_of_ble_eq_true rfl⟩ rfl rfl hl.1 (Nat.le_of_ble_eq_true rfl) dX10_doesDeed_10 (fun H locs hw hS => ?_)
  refine lv_aload_n hx hb dX10_doesDeed_13 rfl (lv_at hl 0 rfl) ?_
  refine lv_iload_n hx hb dX10_doesDeed_14 rfl (lv_at hl 1 rfl) ?_
  refine lv_iconst (v := 2) hx hb dX10_doesDeed_15 (by decide) ?_
  obtain ⟨z3, hz3, hf⟩ := bd hf
  refine cl_Vs (rest := [.int z2, .int z1, .ref (ad Γ o)]) (kX10_deedOf (l := l) (Γ := Γ) (A := A) (G := G) (o := o) hk hz3) ⟨hx, hb, hml, hown, htw⟩ hE hw hS (wo_me hw hk) (q0 := 0) rfl rfl mw1580 mw1582 mw73 mw129 mw1583 pdX10_deedOf ⟨Nat.le_of_ble_eq_true rfl, Nat.le_of_ble_eq_true rfl⟩ rfl rfl hl.1 (Nat.le_of_ble_eq_true rfl) dX10_doesDeed_16 (fun H locs hw hS => ?_)
  refine lv_aload_n hx hb dX10_doesDeed_19 rfl (lv_at hl 0 rfl) ?_
  refine lv_iload_n hx hb dX10_doesDeed_20 rfl (lv_at hl 1 rfl) ?_
  refine lv_iconst (v := 3) hx hb dX10_doesDeed_21 (by decide) ?_
  obtain ⟨z4, hz4, hf⟩ := bd hf
  refine cl_Vs (rest := [.int z3, .int z2, .int z1, .ref (ad Γ o)]) (kX10_deedOf (l := l) (Γ := Γ) (A := A) (G := G) (o := o) hk hz4) ⟨hx, hb, hml, hown, htw⟩ hE hw hS (wo_me hw hk) (q0 := 0) rfl rfl mw1580 mw1582 mw73 mw129 mw1583 pdX10_deedOf ⟨Nat.le_of_ble_eq_true rfl, Nat.le_of_ble_eq_true rfl⟩ rfl rfl hl.1 (Nat.le_of_ble_eq_true rfl) dX10_doesDeed_22 (fun H locs hw hS => ?_)
  obtain ⟨z5, hz5, hf⟩ := bd hf
  refine cl_Vs (rest := []) (kX10_does (l := l) (Γ := Γ) (A := A) (G := G) (o := o) hk hz5) ⟨hx, hb, hml, hown, htw⟩ hE hw hS (wo_me hw hk) (q0 := 0) rfl rfl mw1604 mw1606 mw78 mw129 mw1607 pdX10_does ⟨Nat.le_of_ble_eq_true rfl, Nat.le_of_ble_eq_true rfl⟩ rfl rfl hl.1 (Nat.le_of_ble_eq_true rfl) dX10_doesDeed_25 (fun H locs hw hS => ?_)
  obtain ⟨g6, hf⟩ := gd_some hf
  obtain rfl := Option.some.inj hf
  subst hq
  exact rt_z C (isB_or g6) hw hS dX10_doesDeed_28

theorem kX10_doesDeed {l : Launch} {Γ : Gm} {A : Nat → Prop} {G : Gs} {o : Nat} {r : Rec} {v1 : Int32} {fin : Rec × Int32} (hk : kd Γ o = some 10) (hf : fX10_doesDeed r v1 = some fin) : Kt l yX10_doesDeed cX10_doesDeed 2 (some .boolean) 5 113 Γ A (ug G o r) (ug G o fin.1) [.ref (ad Γ o), .int v1] (some (.int fin.2)) :=
  kt_of (by decide) (Nat.le_of_ble_eq_true rfl) (fun p e s m args below meth c C => wX10_doesDeed_e C hk hf rfl)
theorem kgX10_doesDeed {l : Launch} {Γ : Gm} {A : Nat → Prop} {G : Gs} {o : Nat} {v1 : Int32} {fin : Rec × Int32} (hk : kd Γ o = some 10) (hf : fX10_doesDeed (G o) v1 = some fin) : Kt l yX10_doesDeed cX10_doesDeed 2 (some .boolean) 5 113 Γ A G (ug G o fin.1) [.ref (ad Γ o), .int v1] (some (.int fin.2)) := by
  have h := kX10_doesDeed (l := l) (A := A) (G := G) (r := G o) hk hf
  rw [ug_self] at h
  exact h
noncomputable def bX10_play_6 (r : Rec) (v1 : Int32) (v2 : Int32) : Option ((Int32 × Rec) ⊕ (Rec × Int32)) :=
  if v1 ≤ v2 then some (.inr ((r, v2))) else (fX10_doesDeed r v2).bind fun z1 => if z1.2 = 0 then some (.inr ((z1.1, v2))) else some (.inl (v2 + 1, z1.1))
set_option maxRecDepth 100000 in
set_option maxHeartbeats 4000000 in
theorem wX10_play_6 {p : Program} {l : Launch} {e : Env} {s : State} {m : MethodId} {args : Array Value} {below : List Frame} {meth : Method} {c : Code} {Γ : Gm} {A : Nat → Prop} {G : Gs} {o : Nat} {r : Rec} {v1 : Int32} {v2 : Int32} {q : ((Int32 × Rec) ⊕ (Rec × Int32))} {fin : Rec × Int32} (C : Cx p s m args meth c yX10_play cX10_play 3 (some .int) Γ A) (hk : kd Γ o = some 10) (hf : bX10_play_6 r v1 v2 = some q) (hq : (KC (fun st : Int32 × Rec => Wk p l e { frames := 6, cells := 0, slots := 0, locals := 134 } s m args below meth c Γ A (ug G o fin.1) (some (.int fin.2)) 6 3 [(0, .ref (ad Γ o)), (1, .int v1), (2, .int st.1)] [] (ug G o st.2)) (fun x => x = fin)) q) : Wk p l e { frames := 6, cells := 0, slots := 0, locals := 134 } s m args below meth c Γ A (ug G o fin.1) (some (.int fin.2)) 6 3 [(0, .ref (ad Γ o)), (1, .int v1), (2, .int v2)] [] (ug G o r) := by
  intro H locs ls hw hS hl
  unfold bX10_play_6 at hf
  obtain ⟨hx, hb, hml, hr, hown, htw, hlocks, hE⟩ := id C
  have hown : s.vm.findClass RX10 = some m.cls := hown
  refine lv_iload_n hx hb dX10_play_6 rfl (lv_at hl 2 rfl) ?_
  refine lv_iload_n hx hb dX10_play_7 rfl (lv_at hl 1 rfl) ?_
  refine lv_icmp_ge (tgt := 25) hx hb dX10_play_8 (by decide) (fun c3 => ?_) (fun c3 => ?_)
  · have hf := ifp c3 hf
    refine lv_iload_n hx hb dX10_play_25 rfl (lv_at hl 2 rfl) ?_
    obtain rfl := Option.some.inj hf
    have hq := hq.2 _ rfl
    subst hq
    exact rt_i C hw hS dX10_play_26
  · have hf := ifn c3 hf
    refine lv_aload_n hx hb dX10_play_11 rfl (lv_at hl 0 rfl) ?_
    refine lv_iload_n hx hb dX10_play_12 rfl (lv_at hl 2 rfl) ?_
    obtain ⟨z1, hz1, hf⟩ := bd hf
    refine cl_Vs (rest := []) (kX10_doesDeed (l := l) (Γ := Γ) (A := A) (G := G) (o := o) hk hz1) ⟨hx, hb, hml, hown, htw⟩ hE hw hS (wo_me hw hk) (q0 := 0) rfl rfl mw1600 mw1602 mw77 mw129 mw1603 pdX10_doesDeed ⟨Nat.le_of_ble_eq_true rfl, Nat.le_of_ble_eq_true rfl⟩ rfl rfl hl.1 (Nat.le_of_ble_eq_true rfl) dX10_play_13 (fun H locs hw hS => ?_)
    refine lv_if_eq (tgt := 25) hx hb dX10_play_16 (by decide) (fun c2 => ?_) (fun c2 => ?_)
    · have hf := ifp c2 hf
      refine lv_iload_n hx hb dX10_play_25 rfl (lv_at hl 2 rfl) ?_
      obtain rfl := Option.some.inj hf
      have hq := hq.2 _ rfl
      subst hq
      exact rt_i C hw hS dX10_play_26
    · have hf := ifn c2 hf
      refine lv_iinc (v := v2 + 1) (lv' := [(2, .int (v2 + 1)), (0, .ref (ad Γ o)), (1, .int v1)]) hx hb dX10_play_19 hl (k := 2) rfl (by rfl) (by decide) rfl (fun ls hl => ?_)
      refine lv_goto (tgt := 6) hx hb dX10_play_22 (by decide) ?_
      obtain rfl := Option.some.inj hf
      exact hq.1 _ rfl H locs ls hw hS (lv_sub hl [1, 2, 0] rfl)

set_option maxRecDepth 100000 in
set_option maxHeartbeats 4000000 in
theorem lwX10_play_6 {p : Program} {l : Launch} {e : Env} {s : State} {m : MethodId} {args : Array Value} {below : List Frame} {meth : Method} {c : Code} {Γ : Gm} {A : Nat → Prop} {G : Gs} {o : Nat} {r : Rec} {v1 : Int32} {v2 : Int32} {q : (Rec × Int32)} {fin : Rec × Int32} (C : Cx p s m args meth c yX10_play cX10_play 3 (some .int) Γ A) (hk : kd Γ o = some 10) (hf : iter (fun st : Int32 × Rec => bX10_play_6 st.2 v1 st.1) (v2, r) = some q) (hq : (fun x => x = fin) q) : Wk p l e { frames := 6, cells := 0, slots := 0, locals := 134 } s m args below meth c Γ A (ug G o fin.1) (some (.int fin.2)) 6 3 [(0, .ref (ad Γ o)), (1, .int v1), (2, .int v2)] [] (ug G o r) := by
  intro H locs ls hw hS hl
  refine iter_walk (P := (fun st : Int32 × Rec => Wk p l e { frames := 6, cells := 0, slots := 0, locals := 134 } s m args below meth c Γ A (ug G o fin.1) (some (.int fin.2)) 6 3 [(0, .ref (ad Γ o)), (1, .int v1), (2, .int st.1)] [] (ug G o st.2))) (K := (fun x => x = fin)) (fun st q hq1 h1 h2 => ?_) hf hq H locs ls hw hS hl
  exact wX10_play_6 (r := st.2) (v2 := st.1) C hk hq1 ⟨h1, h2⟩

noncomputable def fX10_play (r : Rec) (v1 : Int32) : Option (Rec × Int32) :=
  (fX10_begin r).bind fun z4 => iter (fun st : Int32 × Rec => bX10_play_6 st.2 v1 st.1) (0, z4)
set_option maxRecDepth 100000 in
set_option maxHeartbeats 4000000 in
theorem wX10_play_e {p : Program} {l : Launch} {e : Env} {s : State} {m : MethodId} {args : Array Value} {below : List Frame} {meth : Method} {c : Code} {Γ : Gm} {A : Nat → Prop} {G : Gs} {o : Nat} {r : Rec} {v1 : Int32} {q : (Rec × Int32)} {fin : Rec × Int32} (C : Cx p s m args meth c yX10_play cX10_play 3 (some .int) Γ A) (hk : kd Γ o = some 10) (hf : fX10_play r v1 = some q) (hq : (fun x => x = fin) q) : Wk p l e { frames := 6, cells := 0, slots := 0, locals := 134 } s m args below meth c Γ A (ug G o fin.1) (some (.int fin.2)) 0 3 [(0, .ref (ad Γ o)), (1, .int v1)] [] (ug G o r) := by
  intro H locs ls hw hS hl
  unfold fX10_play at hf
  obtain ⟨hx, hb, hml, hr, hown, htw, hlocks, hE⟩ := id C
  have hown : s.vm.findClass RX10 = some m.cls := hown
  refine lv_aload_n hx hb dX10_play_0 rfl (lv_at hl 0 rfl) ?_
  obtain ⟨z4, hz4, hf⟩ := bd hf
  refine cl_Vv (rest := []) (kX10_begin (l := l) (Γ := Γ) (A := A) (G := G) (o := o) hk hz4) ⟨hx, hb, hml, hown, htw⟩ hE hw hS (wo_me hw hk) (q0 := 0) rfl rfl mw1596 mw1598 mw76 mw129 mw1599 pdX10_begin ⟨Nat.le_of_ble_eq_true rfl, Nat.le_of_ble_eq_true rfl⟩ rfl rfl hl.1 (Nat.le_of_ble_eq_true rfl) dX10_play_1 (fun H locs hw hS => ?_)
  refine lv_iconst (v := 0) hx hb dX10_play_4 (by decide) ?_
  refine lv_istore_n (lv' := [(2, .int 0), (0, .ref (ad Γ o)), (1, .int v1)]) hx hb dX10_play_5 rfl hl (by decide) rfl (fun ls hl => ?_)
  exact lwX10_play_6 C hk hf hq H locs ls hw hS (lv_sub hl [1, 2, 0] rfl)

theorem kX10_play {l : Launch} {Γ : Gm} {A : Nat → Prop} {G : Gs} {o : Nat} {r : Rec} {v1 : Int32} {fin : Rec × Int32} (hk : kd Γ o = some 10) (hf : fX10_play r v1 = some fin) : Kt l yX10_play cX10_play 3 (some .int) 6 134 Γ A (ug G o r) (ug G o fin.1) [.ref (ad Γ o), .int v1] (some (.int fin.2)) :=
  kt_of (by decide) (Nat.le_of_ble_eq_true rfl) (fun p e s m args below meth c C => wX10_play_e C hk hf rfl)
theorem kgX10_play {l : Launch} {Γ : Gm} {A : Nat → Prop} {G : Gs} {o : Nat} {v1 : Int32} {fin : Rec × Int32} (hk : kd Γ o = some 10) (hf : fX10_play (G o) v1 = some fin) : Kt l yX10_play cX10_play 3 (some .int) 6 134 Γ A G (ug G o fin.1) [.ref (ad Γ o), .int v1] (some (.int fin.2)) := by
  have h := kX10_play (l := l) (A := A) (G := G) (r := G o) hk hf
  rw [ug_self] at h
  exact h
noncomputable def fX10_layAll (r : Rec) (v1 : Int32) (v2 : Int32) : Option (Rec × Int32) :=
  (fX10_hasMonth r v2).bind fun z1 => if z1.2 = 0 then some ((z1.1, 0)) else (fX10_hand z1.1 v1).bind fun z2 => if z2.2 = 0 then some ((z2.1, 0)) else some ((z2.1, 1))
set_option maxRecDepth 100000 in
set_option maxHeartbeats 4000000 in
theorem wX10_layAll_e {p : Program} {l : Launch} {e : Env} {s : State} {m : MethodId} {args : Array Value} {below : List Frame} {meth : Method} {c : Code} {Γ : Gm} {A : Nat → Prop} {G : Gs} {o : Nat} {r : Rec} {v1 : Int32} {v2 : Int32} {q : (Rec × Int32)} {fin : Rec × Int32} (C : Cx p s m args meth c yX10_layAll cX10_layAll 3 (some .boolean) Γ A) (hk : kd Γ o = some 10) (hf : fX10_layAll r v1 v2 = some q) (hq : (fun x => x = fin) q) : Wk p l e { frames := 3, cells := 0, slots := 0, locals := 66 } s m args below meth c Γ A (ug G o fin.1) (some (.int fin.2)) 0 3 [(0, .ref (ad Γ o)), (1, .int v1), (2, .int v2)] [] (ug G o r) := by
  intro H locs ls hw hS hl
  unfold fX10_layAll at hf
  obtain ⟨hx, hb, hml, hr, hown, htw, hlocks, hE⟩ := id C
  have hown : s.vm.findClass RX10 = some m.cls := hown
  refine lv_aload_n hx hb dX10_layAll_0 rfl (lv_at hl 0 rfl) ?_
  refine lv_iload_n hx hb dX10_layAll_1 rfl (lv_at hl 2 rfl) ?_
  obtain ⟨z1, hz1, hf⟩ := bd hf
  refine cl_Vs (rest := []) (kX10_hasMonth (l := l) (Γ := Γ) (A := A) (G := G) (o := o) hk hz1) ⟨hx, hb, hml, hown, htw⟩ hE hw hS (wo_me hw hk) (q0 := 0) rfl rfl mw1572 mw1574 mw71 mw129 mw1575 pdX10_hasMonth ⟨Nat.le_of_ble_eq_true rfl, Nat.le_of_ble_eq_true rfl⟩ rfl rfl hl.1 (Nat.le_of_ble_eq_true rfl) dX10_layAll_2 (fun H locs hw hS => ?_)
  refine lv_if_eq (tgt := 20) hx hb dX10_layAll_5 (by decide) (fun c4 => ?_) (fun c4 => ?_)
  · have hf := ifp c4 hf
    refine lv_iconst (v := 0) hx hb dX10_layAll_20 (by decide) ?_
    obtain rfl := Option.some.inj hf
    subst hq
    exact rt_z C (Or.inl rfl) hw hS dX10_layAll_21
  · have hf := ifn c4 hf
    refine lv_aload_n hx hb dX10_layAll_8 rfl (lv_at hl 0 rfl) ?_
    refine lv_iload_n hx hb dX10_layAll_9 rfl (lv_at hl 1 rfl) ?_
    obtain ⟨z2, hz2, hf⟩ := bd hf
    refine cl_Vs (rest := []) (kX10_hand (l := l) (Γ := Γ) (A := A) (G := G) (o := o) hk hz2) ⟨hx, hb, hml, hown, htw⟩ hE hw hS (wo_me hw hk) (q0 := 0) rfl rfl mw1537 mw1539 mw65 mw129 mw1540 pdX10_hand ⟨Nat.le_of_ble_eq_true rfl, Nat.le_of_ble_eq_true rfl⟩ rfl rfl hl.1 (Nat.le_of_ble_eq_true rfl) dX10_layAll_10 (fun H locs hw hS => ?_)
    refine lv_if_eq (tgt := 20) hx hb dX10_layAll_13 (by decide) (fun c3 => ?_) (fun c3 => ?_)
    · have hf := ifp c3 hf
      refine lv_iconst (v := 0) hx hb dX10_layAll_20 (by decide) ?_
      obtain rfl := Option.some.inj hf
      subst hq
      exact rt_z C (Or.inl rfl) hw hS dX10_layAll_21
    · have hf := ifn c3 hf
      refine lv_iconst (v := 1) hx hb dX10_layAll_16 (by decide) ?_
      refine lv_goto (tgt := 21) hx hb dX10_layAll_17 (by decide) ?_
      obtain rfl := Option.some.inj hf
      subst hq
      exact rt_z C (Or.inr rfl) hw hS dX10_layAll_21

theorem kX10_layAll {l : Launch} {Γ : Gm} {A : Nat → Prop} {G : Gs} {o : Nat} {r : Rec} {v1 : Int32} {v2 : Int32} {fin : Rec × Int32} (hk : kd Γ o = some 10) (hf : fX10_layAll r v1 v2 = some fin) : Kt l yX10_layAll cX10_layAll 3 (some .boolean) 3 66 Γ A (ug G o r) (ug G o fin.1) [.ref (ad Γ o), .int v1, .int v2] (some (.int fin.2)) :=
  kt_of (by decide) (Nat.le_of_ble_eq_true rfl) (fun p e s m args below meth c C => wX10_layAll_e C hk hf rfl)
theorem kgX10_layAll {l : Launch} {Γ : Gm} {A : Nat → Prop} {G : Gs} {o : Nat} {v1 : Int32} {v2 : Int32} {fin : Rec × Int32} (hk : kd Γ o = some 10) (hf : fX10_layAll (G o) v1 v2 = some fin) : Kt l yX10_layAll cX10_layAll 3 (some .boolean) 3 66 Γ A G (ug G o fin.1) [.ref (ad Γ o), .int v1, .int v2] (some (.int fin.2)) := by
  have h := kX10_layAll (l := l) (A := A) (G := G) (r := G o) hk hf
  rw [ug_self] at h
  exact h
noncomputable def fX10_till (r : Rec) (v1 : Int32) (v2 : Int32) : Option (Rec × Int32) :=
  (some (si r 0 0)).bind fun r1 => (fX10_layAll r1 v1 v2).bind fun z2 => if z2.2 = 0 then some ((z2.1, (-1))) else (fX10_deeds z2.1).bind fun z3 => (fX10_play z2.1 z3).bind fun z4 => some ((z4.1, z4.2))
set_option maxRecDepth 100000 in
set_option maxHeartbeats 4000000 in
theorem wX10_till_e {p : Program} {l : Launch} {e : Env} {s : State} {m : MethodId} {args : Array Value} {below : List Frame} {meth : Method} {c : Code} {Γ : Gm} {A : Nat → Prop} {G : Gs} {o : Nat} {r : Rec} {v1 : Int32} {v2 : Int32} {q : (Rec × Int32)} {fin : Rec × Int32} (C : Cx p s m args meth c yX10_till cX10_till 3 (some .int) Γ A) (hk : kd Γ o = some 10) (hf : fX10_till r v1 v2 = some q) (hq : (fun x => x = fin) q) : Wk p l e { frames := 7, cells := 0, slots := 0, locals := 156 } s m args below meth c Γ A (ug G o fin.1) (some (.int fin.2)) 0 3 [(0, .ref (ad Γ o)), (1, .int v1), (2, .int v2)] [] (ug G o r) := by
  intro H locs ls hw hS hl
  unfold fX10_till at hf
  obtain ⟨hx, hb, hml, hr, hown, htw, hlocks, hE⟩ := id C
  have hown : s.vm.findClass RX10 = some m.cls := hown
  refine lv_aload_n hx hb dX10_till_0 rfl (lv_at hl 0 rfl) ?_
  refine lv_iconst (v := 0) hx hb dX10_till_1 (by decide) ?_
  obtain ⟨r1, hr1, hf⟩ := bd hf
  have hr1 := Option.some.inj hr1
  refine wo_put (C := RX10) (T := TX10) (N := 49) (v := .int 0) (ty := .int) hx hb htw uwX10 tyX10 tyX10_ok nmX10 hown hE hw hS hk rfl rfl 0 (by decide) (htw _ mw1243) (fun _ h9 => h9) rfl (tyX10_ok 0 (by decide)) rfl rfl (Nat.le_of_ble_eq_true rfl) (st10_0 hr1) dX10_till_2 (fun H locs hw hS => ?_)
  refine lv_aload_n hx hb dX10_till_5 rfl (lv_at hl 0 rfl) ?_
  refine lv_iload_n hx hb dX10_till_6 rfl (lv_at hl 1 rfl) ?_
  refine lv_iload_n hx hb dX10_till_7 rfl (lv_at hl 2 rfl) ?_
  obtain ⟨z2, hz2, hf⟩ := bd hf
  refine cl_Vs (rest := []) (kX10_layAll (l := l) (Γ := Γ) (A := A) (G := G) (o := o) hk hz2) ⟨hx, hb, hml, hown, htw⟩ hE hw hS (wo_me hw hk) (q0 := 0) rfl rfl mw1588 mw1590 mw74 mw129 mw1591 pdX10_layAll ⟨Nat.le_of_ble_eq_true rfl, Nat.le_of_ble_eq_true rfl⟩ rfl rfl hl.1 (Nat.le_of_ble_eq_true rfl) dX10_till_8 (fun H locs hw hS => ?_)
  refine lv_if_eq (tgt := 25) hx hb dX10_till_11 (by decide) (fun c5 => ?_) (fun c5 => ?_)
  · have hf := ifp c5 hf
    refine lv_iconst (v := (-1)) hx hb dX10_till_25 (by decide) ?_
    obtain rfl := Option.some.inj hf
    subst hq
    exact rt_i C hw hS dX10_till_26
  · have hf := ifn c5 hf
    refine lv_aload_n hx hb dX10_till_14 rfl (lv_at hl 0 rfl) ?_
    refine lv_aload_n hx hb dX10_till_15 rfl (lv_at hl 0 rfl) ?_
    obtain ⟨z3, hz3, hf⟩ := bd hf
    refine cl_Vs (rest := [.ref (ad Γ o)]) (kX10_deeds (l := l) (Γ := Γ) (A := A) (G := G) (o := o) hk hz3) ⟨hx, hb, hml, hown, htw⟩ hE hw hS (wo_me hw hk) (q0 := 0) rfl rfl mw1576 mw1578 mw72 mw129 mw1579 pdX10_deeds ⟨Nat.le_of_ble_eq_true rfl, Nat.le_of_ble_eq_true rfl⟩ rfl rfl hl.1 (Nat.le_of_ble_eq_true rfl) dX10_till_16 (fun H locs hw hS => ?_)
    obtain ⟨z4, hz4, hf⟩ := bd hf
    refine cl_Vs (rest := []) (kX10_play (l := l) (Γ := Γ) (A := A) (G := G) (o := o) hk hz4) ⟨hx, hb, hml, hown, htw⟩ hE hw hS (wo_me hw hk) (q0 := 0) rfl rfl mw1592 mw1594 mw75 mw129 mw1595 pdX10_play ⟨Nat.le_of_ble_eq_true rfl, Nat.le_of_ble_eq_true rfl⟩ rfl rfl hl.1 (Nat.le_of_ble_eq_true rfl) dX10_till_19 (fun H locs hw hS => ?_)
    refine lv_goto (tgt := 26) hx hb dX10_till_22 (by decide) ?_
    obtain rfl := Option.some.inj hf
    subst hq
    exact rt_i C hw hS dX10_till_26

theorem kX10_till {l : Launch} {Γ : Gm} {A : Nat → Prop} {G : Gs} {o : Nat} {r : Rec} {v1 : Int32} {v2 : Int32} {fin : Rec × Int32} (hk : kd Γ o = some 10) (hf : fX10_till r v1 v2 = some fin) : Kt l yX10_till cX10_till 3 (some .int) 7 156 Γ A (ug G o r) (ug G o fin.1) [.ref (ad Γ o), .int v1, .int v2] (some (.int fin.2)) :=
  kt_of (by decide) (Nat.le_of_ble_eq_true rfl) (fun p e s m args below meth c C => wX10_till_e C hk hf rfl)
theorem kgX10_till {l : Launch} {Γ : Gm} {A : Nat → Prop} {G : Gs} {o : Nat} {v1 : Int32} {v2 : Int32} {fin : Rec × Int32} (hk : kd Γ o = some 10) (hf : fX10_till (G o) v1 v2 = some fin) : Kt l yX10_till cX10_till 3 (some .int) 7 156 Γ A G (ug G o fin.1) [.ref (ad Γ o), .int v1, .int v2] (some (.int fin.2)) := by
  have h := kX10_till (l := l) (A := A) (G := G) (r := G o) hk hf
  rw [ug_self] at h
  exact h
noncomputable def bX10_bright_55 (r : Rec) (v2 : Int32) (s0 : Int32) : Option ((Int32 × Int32) ⊕ Int32) :=
  some (.inl (s0, v2 + 1))
set_option maxRecDepth 100000 in
set_option maxHeartbeats 4000000 in
theorem wX10_bright_55 {p : Program} {l : Launch} {e : Env} {s : State} {m : MethodId} {args : Array Value} {below : List Frame} {meth : Method} {c : Code} {Γ : Gm} {A : Nat → Prop} {G : Gs} {o : Nat} {r : Rec} {v2 : Int32} {s0 : Int32} {q : ((Int32 × Int32) ⊕ Int32)} {fin : Int32} (C : Cx p s m args meth c yX10_bright cX10_bright 3 (some .int) Γ A) (hk : kd Γ o = some 10) (hf : bX10_bright_55 r v2 s0 = some q) (hq : (KC (fun st : Int32 × Int32 => Wk p l e { frames := 0, cells := 0, slots := 0, locals := 0 } s m args below meth c Γ A (ug G o r) (some (.int fin)) 4 3 [(0, .ref (ad Γ o)), (1, .int st.1), (2, .int st.2)] [] (ug G o r)) (fun x => x = fin)) q) : Wk p l e { frames := 0, cells := 0, slots := 0, locals := 0 } s m args below meth c Γ A (ug G o r) (some (.int fin)) 55 3 [(0, .ref (ad Γ o)), (2, .int v2)] [.int s0] (ug G o r) := by
  intro H locs ls hw hS hl
  unfold bX10_bright_55 at hf
  obtain ⟨hx, hb, hml, hr, hown, htw, hlocks, hE⟩ := id C
  have hown : s.vm.findClass RX10 = some m.cls := hown
  refine lv_istore_n (lv' := [(1, .int s0), (0, .ref (ad Γ o)), (2, .int v2)]) hx hb dX10_bright_55 rfl hl (by decide) rfl (fun ls hl => ?_)
  refine lv_iinc (v := v2 + 1) (lv' := [(2, .int (v2 + 1)), (1, .int s0), (0, .ref (ad Γ o))]) hx hb dX10_bright_56 hl (k := 2) rfl (by rfl) (by decide) rfl (fun ls hl => ?_)
  refine lv_goto (tgt := 4) hx hb dX10_bright_59 (by decide) ?_
  obtain rfl := Option.some.inj hf
  exact hq.1 _ rfl H locs ls hw hS (lv_sub hl [2, 1, 0] rfl)

noncomputable def bX10_bright_47 (r : Rec) (v1 : Int32) (v2 : Int32) (s0 : Int32) (s1 : Int32) : Option ((Int32 × Int32) ⊕ Int32) :=
  if s1 ≤ s0 then bX10_bright_55 r v2 v1 else bX10_bright_55 r v2 v2
set_option maxRecDepth 100000 in
set_option maxHeartbeats 4000000 in
theorem wX10_bright_47 {p : Program} {l : Launch} {e : Env} {s : State} {m : MethodId} {args : Array Value} {below : List Frame} {meth : Method} {c : Code} {Γ : Gm} {A : Nat → Prop} {G : Gs} {o : Nat} {r : Rec} {v1 : Int32} {v2 : Int32} {s0 : Int32} {s1 : Int32} {q : ((Int32 × Int32) ⊕ Int32)} {fin : Int32} (C : Cx p s m args meth c yX10_bright cX10_bright 3 (some .int) Γ A) (hk : kd Γ o = some 10) (hf : bX10_bright_47 r v1 v2 s0 s1 = some q) (hq : (KC (fun st : Int32 × Int32 => Wk p l e { frames := 0, cells := 0, slots := 0, locals := 0 } s m args below meth c Γ A (ug G o r) (some (.int fin)) 4 3 [(0, .ref (ad Γ o)), (1, .int st.1), (2, .int st.2)] [] (ug G o r)) (fun x => x = fin)) q) : Wk p l e { frames := 0, cells := 0, slots := 0, locals := 0 } s m args below meth c Γ A (ug G o r) (some (.int fin)) 47 3 [(0, .ref (ad Γ o)), (1, .int v1), (2, .int v2)] [.int s0, .int s1] (ug G o r) := by
  intro H locs ls hw hS hl
  unfold bX10_bright_47 at hf
  obtain ⟨hx, hb, hml, hr, hown, htw, hlocks, hE⟩ := id C
  have hown : s.vm.findClass RX10 = some m.cls := hown
  refine lv_icmp_le (tgt := 54) hx hb dX10_bright_47 (by decide) (fun c1 => ?_) (fun c1 => ?_)
  · have hf := ifp c1 hf
    refine lv_iload_n hx hb dX10_bright_54 rfl (lv_at hl 1 rfl) ?_
    exact wX10_bright_55 C hk hf hq H locs ls hw hS (lv_sub hl [0, 2] rfl)
  · have hf := ifn c1 hf
    refine lv_iload_n hx hb dX10_bright_50 rfl (lv_at hl 2 rfl) ?_
    refine lv_goto (tgt := 55) hx hb dX10_bright_51 (by decide) ?_
    exact wX10_bright_55 C hk hf hq H locs ls hw hS (lv_sub hl [0, 2] rfl)

noncomputable def bX10_bright_4 (r : Rec) (v1 : Int32) (v2 : Int32) : Option ((Int32 × Int32) ⊕ Int32) :=
  if (gi r 26) ≤ v2 then some (.inr (v1)) else gd (inR v2 8) (gd (inR v2 8) (if v1 = (-1) then bX10_bright_47 r v1 v2 0 ((ga r 33 (Int32.toNatClampNeg v2)) + (ga r 34 (Int32.toNatClampNeg v2))) else gd (inR v1 8) (gd (inR v1 8) (bX10_bright_47 r v1 v2 ((ga r 33 (Int32.toNatClampNeg v1)) + (ga r 34 (Int32.toNatClampNeg v1))) ((ga r 33 (Int32.toNatClampNeg v2)) + (ga r 34 (Int32.toNatClampNeg v2)))))))
set_option maxRecDepth 100000 in
set_option maxHeartbeats 4000000 in
theorem wX10_bright_4 {p : Program} {l : Launch} {e : Env} {s : State} {m : MethodId} {args : Array Value} {below : List Frame} {meth : Method} {c : Code} {Γ : Gm} {A : Nat → Prop} {G : Gs} {o : Nat} {r : Rec} {v1 : Int32} {v2 : Int32} {q : ((Int32 × Int32) ⊕ Int32)} {fin : Int32} (C : Cx p s m args meth c yX10_bright cX10_bright 3 (some .int) Γ A) (hk : kd Γ o = some 10) (hf : bX10_bright_4 r v1 v2 = some q) (hq : (KC (fun st : Int32 × Int32 => Wk p l e { frames := 0, cells := 0, slots := 0, locals := 0 } s m args below meth c Γ A (ug G o r) (some (.int fin)) 4 3 [(0, .ref (ad Γ o)), (1, .int st.1), (2, .int st.2)] [] (ug G o r)) (fun x => x = fin)) q) : Wk p l e { frames := 0, cells := 0, slots := 0, locals := 0 } s m args below meth c Γ A (ug G o r) (some (.int fin)) 4 3 [(0, .ref (ad Γ o)), (1, .int v1), (2, .int v2)] [] (ug G o r) := by
  intro H locs ls hw hS hl
  unfold bX10_bright_4 at hf
  obtain ⟨hx, hb, hml, hr, hown, htw, hlocks, hE⟩ := id C
  have hown : s.vm.findClass RX10 = some m.cls := hown
  refine lv_iload_n hx hb dX10_bright_4 rfl (lv_at hl 2 rfl) ?_
  refine lv_aload_n hx hb dX10_bright_5 rfl (lv_at hl 0 rfl) ?_
  refine va_get (ci := 10) (v := .int (gi r 26)) (C := RX10) (T := TX10) (N := 49) hx hb htw uwX10 hown hE.1 (wo_me hw hk) 0 rfl rfl 26 (by decide) (htw _ mw1269) (fun _ h9 => h9) rfl dX10_bright_6 ?_
  refine lv_icmp_ge (tgt := 62) hx hb dX10_bright_9 (by decide) (fun c7 => ?_) (fun c7 => ?_)
  · have hf := ifp c7 hf
    refine lv_iload_n hx hb dX10_bright_62 rfl (lv_at hl 1 rfl) ?_
    obtain rfl := Option.some.inj hf
    have hq := hq.2 _ rfl
    subst hq
    exact rt_i C hw hS dX10_bright_63
  · have hf := ifn c7 hf
    refine lv_aload_n hx hb dX10_bright_12 rfl (lv_at hl 0 rfl) ?_
    refine va_get (ci := 10) (v := .ref (aa Γ o 33)) (C := RX10) (T := TX10) (N := 49) hx hb htw uwX10 hown hE.1 (wo_me hw hk) 0 rfl rfl 33 (by decide) (htw _ mw1276) (fun _ h9 => h9) rfl dX10_bright_13 ?_
    refine lv_iload_n hx hb dX10_bright_16 rfl (lv_at hl 2 rfl) ?_
    obtain ⟨g2, hf⟩ := gd_some hf
    refine va_iald hx hb hE.1 (wo_me hw hk) 13 0 rfl rfl (inR_in g2) dX10_bright_17 ?_
    refine lv_aload_n hx hb dX10_bright_18 rfl (lv_at hl 0 rfl) ?_
    refine va_get (ci := 10) (v := .ref (aa Γ o 34)) (C := RX10) (T := TX10) (N := 49) hx hb htw uwX10 hown hE.1 (wo_me hw hk) 0 rfl rfl 34 (by decide) (htw _ mw1277) (fun _ h9 => h9) rfl dX10_bright_19 ?_
    refine lv_iload_n hx hb dX10_bright_22 rfl (lv_at hl 2 rfl) ?_
    obtain ⟨g3, hf⟩ := gd_some hf
    refine va_iald hx hb hE.1 (wo_me hw hk) 14 0 rfl rfl (inR_in g3) dX10_bright_23 ?_
    refine lv_iadd hx hb dX10_bright_24 ?_
    refine lv_iload_n hx hb dX10_bright_25 rfl (lv_at hl 1 rfl) ?_
    refine lv_iconst (v := (-1)) hx hb dX10_bright_26 (by decide) ?_
    refine lv_icmp_ne (tgt := 34) hx hb dX10_bright_27 (by decide) (fun c6 => ?_) (fun c6 => ?_)
    · have hf := ifn c6 hf
      refine lv_aload_n hx hb dX10_bright_34 rfl (lv_at hl 0 rfl) ?_
      refine va_get (ci := 10) (v := .ref (aa Γ o 33)) (C := RX10) (T := TX10) (N := 49) hx hb htw uwX10 hown hE.1 (wo_me hw hk) 0 rfl rfl 33 (by decide) (htw _ mw1276) (fun _ h9 => h9) rfl dX10_bright_35 ?_
      refine lv_iload_n hx hb dX10_bright_38 rfl (lv_at hl 1 rfl) ?_
      obtain ⟨g4, hf⟩ := gd_some hf
      refine va_iald hx hb hE.1 (wo_me hw hk) 13 0 rfl rfl (inR_in g4) dX10_bright_39 ?_
      refine lv_aload_n hx hb dX10_bright_40 rfl (lv_at hl 0 rfl) ?_
      refine va_get (ci := 10) (v := .ref (aa Γ o 34)) (C := RX10) (T := TX10) (N := 49) hx hb htw uwX10 hown hE.1 (wo_me hw hk) 0 rfl rfl 34 (by decide) (htw _ mw1277) (fun _ h9 => h9) rfl dX10_bright_41 ?_
      refine lv_iload_n hx hb dX10_bright_44 rfl (lv_at hl 1 rfl) ?_
      obtain ⟨g5, hf⟩ := gd_some hf
      refine va_iald hx hb hE.1 (wo_me hw hk) 14 0 rfl rfl (inR_in g5) dX10_bright_45 ?_
      refine lv_iadd hx hb dX10_bright_46 ?_
      exact wX10_bright_47 C hk hf hq H locs ls hw hS hl
    · have hf := ifp c6 hf
      refine lv_iconst (v := 0) hx hb dX10_bright_30 (by decide) ?_
      refine lv_goto (tgt := 47) hx hb dX10_bright_31 (by decide) ?_
      exact wX10_bright_47 C hk hf hq H locs ls hw hS hl

set_option maxRecDepth 100000 in
set_option maxHeartbeats 4000000 in
theorem lwX10_bright_4 {p : Program} {l : Launch} {e : Env} {s : State} {m : MethodId} {args : Array Value} {below : List Frame} {meth : Method} {c : Code} {Γ : Gm} {A : Nat → Prop} {G : Gs} {o : Nat} {r : Rec} {v1 : Int32} {v2 : Int32} {q : Int32} {fin : Int32} (C : Cx p s m args meth c yX10_bright cX10_bright 3 (some .int) Γ A) (hk : kd Γ o = some 10) (hf : iter (fun st : Int32 × Int32 => bX10_bright_4 r st.1 st.2) (v1, v2) = some q) (hq : (fun x => x = fin) q) : Wk p l e { frames := 0, cells := 0, slots := 0, locals := 0 } s m args below meth c Γ A (ug G o r) (some (.int fin)) 4 3 [(0, .ref (ad Γ o)), (1, .int v1), (2, .int v2)] [] (ug G o r) := by
  intro H locs ls hw hS hl
  refine iter_walk (P := (fun st : Int32 × Int32 => Wk p l e { frames := 0, cells := 0, slots := 0, locals := 0 } s m args below meth c Γ A (ug G o r) (some (.int fin)) 4 3 [(0, .ref (ad Γ o)), (1, .int st.1), (2, .int st.2)] [] (ug G o r))) (K := (fun x => x = fin)) (fun st q hq1 h1 h2 => ?_) hf hq H locs ls hw hS hl
  exact wX10_bright_4 (v1 := st.1) (v2 := st.2) C hk hq1 ⟨h1, h2⟩

noncomputable def fX10_bright (r : Rec) : Option Int32 :=
  iter (fun st : Int32 × Int32 => bX10_bright_4 r st.1 st.2) ((-1), 0)
set_option maxRecDepth 100000 in
set_option maxHeartbeats 4000000 in
theorem wX10_bright_e {p : Program} {l : Launch} {e : Env} {s : State} {m : MethodId} {args : Array Value} {below : List Frame} {meth : Method} {c : Code} {Γ : Gm} {A : Nat → Prop} {G : Gs} {o : Nat} {r : Rec} {q : Int32} {fin : Int32} (C : Cx p s m args meth c yX10_bright cX10_bright 3 (some .int) Γ A) (hk : kd Γ o = some 10) (hf : fX10_bright r = some q) (hq : (fun x => x = fin) q) : Wk p l e { frames := 0, cells := 0, slots := 0, locals := 0 } s m args below meth c Γ A (ug G o r) (some (.int fin)) 0 3 [(0, .ref (ad Γ o))] [] (ug G o r) := by
  intro H locs ls hw hS hl
  unfold fX10_bright at hf
  obtain ⟨hx, hb, hml, hr, hown, htw, hlocks, hE⟩ := id C
  have hown : s.vm.findClass RX10 = some m.cls := hown
  refine lv_iconst (v := (-1)) hx hb dX10_bright_0 (by decide) ?_
  refine lv_istore_n (lv' := [(1, .int (-1)), (0, .ref (ad Γ o))]) hx hb dX10_bright_1 rfl hl (by decide) rfl (fun ls hl => ?_)
  refine lv_iconst (v := 0) hx hb dX10_bright_2 (by decide) ?_
  refine lv_istore_n (lv' := [(2, .int 0), (1, .int (-1)), (0, .ref (ad Γ o))]) hx hb dX10_bright_3 rfl hl (by decide) rfl (fun ls hl => ?_)
  exact lwX10_bright_4 C hk hf hq H locs ls hw hS (lv_sub hl [2, 1, 0] rfl)

theorem kX10_bright {l : Launch} {Γ : Gm} {A : Nat → Prop} {G : Gs} {o : Nat} {r : Rec} {fin : Int32} (hk : kd Γ o = some 10) (hf : fX10_bright r = some fin) : Kt l yX10_bright cX10_bright 3 (some .int) 0 0 Γ A (ug G o r) (ug G o r) [.ref (ad Γ o)] (some (.int fin)) :=
  kt_of (by decide) (Nat.le_of_ble_eq_true rfl) (fun p e s m args below meth c C => wX10_bright_e C hk hf rfl)
theorem kgX10_bright {l : Launch} {Γ : Gm} {A : Nat → Prop} {G : Gs} {o : Nat} {fin : Int32} (hk : kd Γ o = some 10) (hf : fX10_bright (G o) = some fin) : Kt l yX10_bright cX10_bright 3 (some .int) 0 0 Γ A G G [.ref (ad Γ o)] (some (.int fin)) := by
  have h := kX10_bright (l := l) (A := A) (G := G) (r := G o) hk hf
  rw [ug_self] at h
  exact h
noncomputable def bX10_isDusk_42 (r : Rec) (v1 : Int32) : Option Int32 :=
  if v1 ≤ 1 then some (0) else some (1)
set_option maxRecDepth 100000 in
set_option maxHeartbeats 4000000 in
theorem wX10_isDusk_42 {p : Program} {l : Launch} {e : Env} {s : State} {m : MethodId} {args : Array Value} {below : List Frame} {meth : Method} {c : Code} {Γ : Gm} {A : Nat → Prop} {G : Gs} {o : Nat} {r : Rec} {v1 : Int32} {q : Int32} {fin : Int32} (C : Cx p s m args meth c yX10_isDusk cX10_isDusk 3 (some .boolean) Γ A) (hk : kd Γ o = some 10) (hf : bX10_isDusk_42 r v1 = some q) (hq : (fun x => x = fin) q) : Wk p l e { frames := 0, cells := 0, slots := 0, locals := 0 } s m args below meth c Γ A (ug G o r) (some (.int fin)) 42 3 [(1, .int v1)] [] (ug G o r) := by
  intro H locs ls hw hS hl
  unfold bX10_isDusk_42 at hf
  obtain ⟨hx, hb, hml, hr, hown, htw, hlocks, hE⟩ := id C
  have hown : s.vm.findClass RX10 = some m.cls := hown
  refine lv_iload_n hx hb dX10_isDusk_42 rfl (lv_at hl 0 rfl) ?_
  refine lv_iconst (v := 1) hx hb dX10_isDusk_43 (by decide) ?_
  refine lv_icmp_le (tgt := 51) hx hb dX10_isDusk_44 (by decide) (fun c1 => ?_) (fun c1 => ?_)
  · have hf := ifp c1 hf
    refine lv_iconst (v := 0) hx hb dX10_isDusk_51 (by decide) ?_
    obtain rfl := Option.some.inj hf
    subst hq
    exact rt_z C (Or.inl rfl) hw hS dX10_isDusk_52
  · have hf := ifn c1 hf
    refine lv_iconst (v := 1) hx hb dX10_isDusk_47 (by decide) ?_
    refine lv_goto (tgt := 52) hx hb dX10_isDusk_48 (by decide) ?_
    obtain rfl := Option.some.inj hf
    subst hq
    exact rt_z C (Or.inr rfl) hw hS dX10_isDusk_52

noncomputable def bX10_isDusk_34 (r : Rec) (v2 : Int32) (s0 : Int32) (s1 : Int32) : Option ((Int32 × Int32) ⊕ Int32) :=
  some (.inl (s1 + s0, v2 + 1))
set_option maxRecDepth 100000 in
set_option maxHeartbeats 4000000 in
theorem wX10_isDusk_34 {p : Program} {l : Launch} {e : Env} {s : State} {m : MethodId} {args : Array Value} {below : List Frame} {meth : Method} {c : Code} {Γ : Gm} {A : Nat → Prop} {G : Gs} {o : Nat} {r : Rec} {v2 : Int32} {s0 : Int32} {s1 : Int32} {q : ((Int32 × Int32) ⊕ Int32)} {fin : Int32} (C : Cx p s m args meth c yX10_isDusk cX10_isDusk 3 (some .boolean) Γ A) (hk : kd Γ o = some 10) (hf : bX10_isDusk_34 r v2 s0 s1 = some q) (hq : (KC (fun st : Int32 × Int32 => Wk p l e { frames := 0, cells := 0, slots := 0, locals := 0 } s m args below meth c Γ A (ug G o r) (some (.int fin)) 4 3 [(0, .ref (ad Γ o)), (1, .int st.1), (2, .int st.2)] [] (ug G o r)) (fun x => x = fin)) q) : Wk p l e { frames := 0, cells := 0, slots := 0, locals := 0 } s m args below meth c Γ A (ug G o r) (some (.int fin)) 34 3 [(0, .ref (ad Γ o)), (2, .int v2)] [.int s0, .int s1] (ug G o r) := by
  intro H locs ls hw hS hl
  unfold bX10_isDusk_34 at hf
  obtain ⟨hx, hb, hml, hr, hown, htw, hlocks, hE⟩ := id C
  have hown : s.vm.findClass RX10 = some m.cls := hown
  refine lv_iadd hx hb dX10_isDusk_34 ?_
  refine lv_istore_n (lv' := [(1, .int (s1 + s0)), (0, .ref (ad Γ o)), (2, .int v2)]) hx hb dX10_isDusk_35 rfl hl (by decide) rfl (fun ls hl => ?_)
  refine lv_iinc (v := v2 + 1) (lv' := [(2, .int (v2 + 1)), (1, .int (s1 + s0)), (0, .ref (ad Γ o))]) hx hb dX10_isDusk_36 hl (k := 2) rfl (by rfl) (by decide) rfl (fun ls hl => ?_)
  refine lv_goto (tgt := 4) hx hb dX10_isDusk_39 (by decide) ?_
  obtain rfl := Option.some.inj hf
  exact hq.1 _ rfl H locs ls hw hS (lv_sub hl [2, 1, 0] rfl)

noncomputable def bX10_isDusk_4 (r : Rec) (v1 : Int32) (v2 : Int32) : Option ((Int32 × Int32) ⊕ Int32) :=
  if (gi r 26) ≤ v2 then out1 (bX10_isDusk_42 r v1) else gd (inR v2 8) (gd (inR v2 8) (if ((ga r 33 (Int32.toNatClampNeg v2)) + (ga r 34 (Int32.toNatClampNeg v2))) ≤ 0 then bX10_isDusk_34 r v2 0 v1 else bX10_isDusk_34 r v2 1 v1))
set_option maxRecDepth 100000 in
set_option maxHeartbeats 4000000 in
theorem wX10_isDusk_4 {p : Program} {l : Launch} {e : Env} {s : State} {m : MethodId} {args : Array Value} {below : List Frame} {meth : Method} {c : Code} {Γ : Gm} {A : Nat → Prop} {G : Gs} {o : Nat} {r : Rec} {v1 : Int32} {v2 : Int32} {q : ((Int32 × Int32) ⊕ Int32)} {fin : Int32} (C : Cx p s m args meth c yX10_isDusk cX10_isDusk 3 (some .boolean) Γ A) (hk : kd Γ o = some 10) (hf : bX10_isDusk_4 r v1 v2 = some q) (hq : (KC (fun st : Int32 × Int32 => Wk p l e { frames := 0, cells := 0, slots := 0, locals := 0 } s m args below meth c Γ A (ug G o r) (some (.int fin)) 4 3 [(0, .ref (ad Γ o)), (1, .int st.1), (2, .int st.2)] [] (ug G o r)) (fun x => x = fin)) q) : Wk p l e { frames := 0, cells := 0, slots := 0, locals := 0 } s m args below meth c Γ A (ug G o r) (some (.int fin)) 4 3 [(0, .ref (ad Γ o)), (1, .int v1), (2, .int v2)] [] (ug G o r) := by
  intro H locs ls hw hS hl
  unfold bX10_isDusk_4 at hf
  obtain ⟨hx, hb, hml, hr, hown, htw, hlocks, hE⟩ := id C
  have hown : s.vm.findClass RX10 = some m.cls := hown
  refine lv_iload_n hx hb dX10_isDusk_4 rfl (lv_at hl 2 rfl) ?_
  refine lv_aload_n hx hb dX10_isDusk_5 rfl (lv_at hl 0 rfl) ?_
  refine va_get (ci := 10) (v := .int (gi r 26)) (C := RX10) (T := TX10) (N := 49) hx hb htw uwX10 hown hE.1 (wo_me hw hk) 0 rfl rfl 26 (by decide) (htw _ mw1269) (fun _ h9 => h9) rfl dX10_isDusk_6 ?_
  refine lv_icmp_ge (tgt := 42) hx hb dX10_isDusk_9 (by decide) (fun c6 => ?_) (fun c6 => ?_)
  · have hf := ifp c6 hf
    obtain ⟨q2, hfq2, eq2⟩ := out1_some hf
    subst eq2
    have hf := hfq2
    have hq := hq.2 _ rfl
    exact wX10_isDusk_42 C hk hf hq H locs ls hw hS (lv_sub hl [1] rfl)
  · have hf := ifn c6 hf
    refine lv_iload_n hx hb dX10_isDusk_12 rfl (lv_at hl 1 rfl) ?_
    refine lv_aload_n hx hb dX10_isDusk_13 rfl (lv_at hl 0 rfl) ?_
    refine va_get (ci := 10) (v := .ref (aa Γ o 33)) (C := RX10) (T := TX10) (N := 49) hx hb htw uwX10 hown hE.1 (wo_me hw hk) 0 rfl rfl 33 (by decide) (htw _ mw1276) (fun _ h9 => h9) rfl dX10_isDusk_14 ?_
    refine lv_iload_n hx hb dX10_isDusk_17 rfl (lv_at hl 2 rfl) ?_
    obtain ⟨g3, hf⟩ := gd_some hf
    refine va_iald hx hb hE.1 (wo_me hw hk) 13 0 rfl rfl (inR_in g3) dX10_isDusk_18 ?_
    refine lv_aload_n hx hb dX10_isDusk_19 rfl (lv_at hl 0 rfl) ?_
    refine va_get (ci := 10) (v := .ref (aa Γ o 34)) (C := RX10) (T := TX10) (N := 49) hx hb htw uwX10 hown hE.1 (wo_me hw hk) 0 rfl rfl 34 (by decide) (htw _ mw1277) (fun _ h9 => h9) rfl dX10_isDusk_20 ?_
    refine lv_iload_n hx hb dX10_isDusk_23 rfl (lv_at hl 2 rfl) ?_
    obtain ⟨g4, hf⟩ := gd_some hf
    refine va_iald hx hb hE.1 (wo_me hw hk) 14 0 rfl rfl (inR_in g4) dX10_isDusk_24 ?_
    refine lv_iadd hx hb dX10_isDusk_25 ?_
    refine lv_if_le (tgt := 33) hx hb dX10_isDusk_26 (by decide) (fun c5 => ?_) (fun c5 => ?_)
    · have hf := ifp c5 hf
      refine lv_iconst (v := 0) hx hb dX10_isDusk_33 (by decide) ?_
      exact wX10_isDusk_34 C hk hf hq H locs ls hw hS (lv_sub hl [0, 2] rfl)
    · have hf := ifn c5 hf
      refine lv_iconst (v := 1) hx hb dX10_isDusk_29 (by decide) ?_
      refine lv_goto (tgt := 34) hx hb dX10_isDusk_30 (by decide) ?_
      exact wX10_isDusk_34 C hk hf hq H locs ls hw hS (lv_sub hl [0, 2] rfl)

set_option maxRecDepth 100000 in
set_option maxHeartbeats 4000000 in
theorem lwX10_isDusk_4 {p : Program} {l : Launch} {e : Env} {s : State} {m : MethodId} {args : Array Value} {below : List Frame} {meth : Method} {c : Code} {Γ : Gm} {A : Nat → Prop} {G : Gs} {o : Nat} {r : Rec} {v1 : Int32} {v2 : Int32} {q : Int32} {fin : Int32} (C : Cx p s m args meth c yX10_isDusk cX10_isDusk 3 (some .boolean) Γ A) (hk : kd Γ o = some 10) (hf : iter (fun st : Int32 × Int32 => bX10_isDusk_4 r st.1 st.2) (v1, v2) = some q) (hq : (fun x => x = fin) q) : Wk p l e { frames := 0, cells := 0, slots := 0, locals := 0 } s m args below meth c Γ A (ug G o r) (some (.int fin)) 4 3 [(0, .ref (ad Γ o)), (1, .int v1), (2, .int v2)] [] (ug G o r) := by
  intro H locs ls hw hS hl
  refine iter_walk (P := (fun st : Int32 × Int32 => Wk p l e { frames := 0, cells := 0, slots := 0, locals := 0 } s m args below meth c Γ A (ug G o r) (some (.int fin)) 4 3 [(0, .ref (ad Γ o)), (1, .int st.1), (2, .int st.2)] [] (ug G o r))) (K := (fun x => x = fin)) (fun st q hq1 h1 h2 => ?_) hf hq H locs ls hw hS hl
  exact wX10_isDusk_4 (v1 := st.1) (v2 := st.2) C hk hq1 ⟨h1, h2⟩

noncomputable def fX10_isDusk (r : Rec) : Option Int32 :=
  iter (fun st : Int32 × Int32 => bX10_isDusk_4 r st.1 st.2) (0, 0)
set_option maxRecDepth 100000 in
set_option maxHeartbeats 4000000 in
theorem wX10_isDusk_e {p : Program} {l : Launch} {e : Env} {s : State} {m : MethodId} {args : Array Value} {below : List Frame} {meth : Method} {c : Code} {Γ : Gm} {A : Nat → Prop} {G : Gs} {o : Nat} {r : Rec} {q : Int32} {fin : Int32} (C : Cx p s m args meth c yX10_isDusk cX10_isDusk 3 (some .boolean) Γ A) (hk : kd Γ o = some 10) (hf : fX10_isDusk r = some q) (hq : (fun x => x = fin) q) : Wk p l e { frames := 0, cells := 0, slots := 0, locals := 0 } s m args below meth c Γ A (ug G o r) (some (.int fin)) 0 3 [(0, .ref (ad Γ o))] [] (ug G o r) := by
  intro H locs ls hw hS hl
  unfold fX10_isDusk at hf
  obtain ⟨hx, hb, hml, hr, hown, htw, hlocks, hE⟩ := id C
  have hown : s.vm.findClass RX10 = some m.cls := hown
  refine lv_iconst (v := 0) hx hb dX10_isDusk_0 (by decide) ?_
  refine lv_istore_n (lv' := [(1, .int 0), (0, .ref (ad Γ o))]) hx hb dX10_isDusk_1 rfl hl (by decide) rfl (fun ls hl => ?_)
  refine lv_iconst (v := 0) hx hb dX10_isDusk_2 (by decide) ?_
  refine lv_istore_n (lv' := [(2, .int 0), (1, .int 0), (0, .ref (ad Γ o))]) hx hb dX10_isDusk_3 rfl hl (by decide) rfl (fun ls hl => ?_)
  exact lwX10_isDusk_4 C hk hf hq H locs ls hw hS (lv_sub hl [2, 1, 0] rfl)

theorem kX10_isDusk {l : Launch} {Γ : Gm} {A : Nat → Prop} {G : Gs} {o : Nat} {r : Rec} {fin : Int32} (hk : kd Γ o = some 10) (hf : fX10_isDusk r = some fin) : Kt l yX10_isDusk cX10_isDusk 3 (some .boolean) 0 0 Γ A (ug G o r) (ug G o r) [.ref (ad Γ o)] (some (.int fin)) :=
  kt_of (by decide) (Nat.le_of_ble_eq_true rfl) (fun p e s m args below meth c C => wX10_isDusk_e C hk hf rfl)
theorem kgX10_isDusk {l : Launch} {Γ : Gm} {A : Nat → Prop} {G : Gs} {o : Nat} {fin : Int32} (hk : kd Γ o = some 10) (hf : fX10_isDusk (G o) = some fin) : Kt l yX10_isDusk cX10_isDusk 3 (some .boolean) 0 0 Γ A G G [.ref (ad Γ o)] (some (.int fin)) := by
  have h := kX10_isDusk (l := l) (A := A) (G := G) (r := G o) hk hf
  rw [ug_self] at h
  exact h
