noncomputable def fX0_begin (g : Gs) (v1 : Nat) : Option Gs :=
  (some (ug g 1 (sr (g 1) 0 v1))).bind fun g1 => (some (ug g1 1 (sa (g1 1) 1 (fl 8 0 (ga (g1 1) 1))))).bind fun g2 => (some (ug g2 1 (sa (g2 1) 2 (fl 8 0 (ga (g2 1) 2))))).bind fun g3 => gd (cpOK 0 0 8 8 8) ((some (ug g3 1 (sa (g3 1) 3 (va_cpy (ga (g3 v1) 5) (ga (g3 1) 3) (Int32.toNatClampNeg 0) (Int32.toNatClampNeg 0) (Int32.toNatClampNeg 8))))).bind fun g5 => (some (ug g5 1 (sa (g5 1) 4 (fl 8 0 (ga (g5 1) 4))))).bind fun g6 => (some (ug g6 1 (si (g6 1) 5 0))).bind fun g7 => (some (ug g7 1 (si (g7 1) 6 0))).bind fun g8 => (some (ug g8 1 (si (g8 1) 7 0))).bind fun g9 => (some (ug g9 1 (si (g9 1) 9 0))).bind fun g10 => (some (ug g10 1 (si (g10 1) 10 (-1)))).bind fun g11 => (some (ug g11 1 (si (g11 1) 11 0))).bind fun g12 => some (g12))
set_option maxRecDepth 100000 in
set_option maxHeartbeats 4000000 in
theorem wX0_begin_e {p : Program} {l : Launch} {e : Env} {s : State} {m : MethodId} {args : Array Value} {below : List Frame} {meth : Method} {c : Code} {Γ : Gm} {A : Nat → Prop} {g : Gs} {v1 : Nat} {q : Gs} {fin : Gs} (C : Cx p s m args meth c yX0_begin cX0_begin 2 none Γ A) (hv1 : kd Γ v1 = some 2) (hf : fX0_begin g v1 = some q) (hq : (fun x => x = fin) q) : Wk p l e { frames := 1, cells := 0, slots := 0, locals := 60 } s m args below meth c Γ A fin none 0 2 [(0, .ref (ad Γ 1)), (1, .ref (ad Γ v1))] [] g := by
  intro H locs ls hw hS hl
  unfold fX0_begin at hf
  obtain ⟨hx, hb, hml, hr, hown, htw, hlocks, hE⟩ := id C
  have hown : s.vm.findClass RX0 = some m.cls := hown
  refine lv_aload_n hx hb dX0_begin_0 rfl (lv_at hl 0 rfl) ?_
  refine lv_aload_n hx hb dX0_begin_1 rfl (lv_at hl 1 rfl) ?_
  obtain ⟨g1, hg1, hf⟩ := bd hf
  have hg1 := Option.some.inj hg1
  refine wo_putG (C := RX0) (T := TX0) (N := 12) (v := .ref (ad Γ v1)) (ty := (.object "TarnishTurns$House")) hx hb htw uwX0 tyX0 tyX0_ok nmX0 hown hE hw hS (wf_1 hE) rfl rfl 0 (by decide) (htw _ mw336) (fun _ h9 => h9) rfl (tyX0_ok 0 (by decide)) rfl rfl (Nat.le_of_ble_eq_true rfl) (st0_0 rfl) hg1 dX0_begin_2 (fun H locs hw hS => ?_)
  refine lv_aload_n hx hb dX0_begin_5 rfl (lv_at hl 0 rfl) ?_
  refine va_get (ci := 0) (v := .ref (aa Γ 1 1)) (C := RX0) (T := TX0) (N := 12) hx hb htw uwX0 hown hE.1 (hw _ _ (wf_1 hE)) 0 rfl rfl 1 (by decide) (htw _ mw337) (fun _ h9 => h9) rfl dX0_begin_6 ?_
  refine lv_iconst (v := 0) hx hb dX0_begin_9 (by decide) ?_
  obtain ⟨g2, hg2, hf⟩ := bd hf
  have hg2 := Option.some.inj hg2
  refine cl_Sv (rest := []) (kfill (l := l) (A := A) (G := g1) (r := (g1 1)) (v := 0) (k := 1) (q0 := 1) (wf_1 hE) (Nat.lt_of_lt_of_le (Nat.lt_succ_self 8) (Nat.le_of_ble_eq_true rfl)) (fun _ => rfl) (fun _ _ => sa0_1 rfl)) ⟨hx, hb, hml, hown, htw⟩ hE (wo_gs hw) hS mw747 mw605 mw135 mw606 pdJ7_fill_53178 ⟨Nat.le_of_ble_eq_true rfl, Nat.le_of_ble_eq_true rfl⟩ rfl rfl hl.1 (Nat.le_of_ble_eq_true rfl) dX0_begin_10 (fun H locs hw hS => ?_)
  rw [hg2] at hw
  refine lv_aload_n hx hb dX0_begin_13 rfl (lv_at hl 0 rfl) ?_
  refine va_get (ci := 0) (v := .ref (aa Γ 1 2)) (C := RX0) (T := TX0) (N := 12) hx hb htw uwX0 hown hE.1 (hw _ _ (wf_1 hE)) 0 rfl rfl 2 (by decide) (htw _ mw338) (fun _ h9 => h9) rfl dX0_begin_14 ?_
  refine lv_iconst (v := 0) hx hb dX0_begin_17 (by decide) ?_
  obtain ⟨g3, hg3, hf⟩ := bd hf
  have hg3 := Option.some.inj hg3
  refine cl_Sv (rest := []) (kfill (l := l) (A := A) (G := g2) (r := (g2 1)) (v := 0) (k := 2) (q0 := 2) (wf_1 hE) (Nat.lt_of_lt_of_le (Nat.lt_succ_self 8) (Nat.le_of_ble_eq_true rfl)) (fun _ => rfl) (fun _ _ => sa0_2 rfl)) ⟨hx, hb, hml, hown, htw⟩ hE (wo_gs hw) hS mw747 mw605 mw135 mw606 pdJ7_fill_53178 ⟨Nat.le_of_ble_eq_true rfl, Nat.le_of_ble_eq_true rfl⟩ rfl rfl hl.1 (Nat.le_of_ble_eq_true rfl) dX0_begin_18 (fun H locs hw hS => ?_)
  rw [hg3] at hw
  refine lv_aload_n hx hb dX0_begin_21 rfl (lv_at hl 1 rfl) ?_
  refine va_get (ci := 2) (v := .ref (aa Γ v1 5)) (C := RX2) (T := TX2) (N := 11) hx hb htw uwX2 hown hE.1 (hw _ _ hv1) 0 rfl rfl 5 (by decide) (htw _ mw179) (fun _ h9 => h9) rfl dX0_begin_22 ?_
  refine lv_iconst (v := 0) hx hb dX0_begin_25 (by decide) ?_
  refine lv_aload_n hx hb dX0_begin_26 rfl (lv_at hl 0 rfl) ?_
  refine va_get (ci := 0) (v := .ref (aa Γ 1 3)) (C := RX0) (T := TX0) (N := 12) hx hb htw uwX0 hown hE.1 (hw _ _ (wf_1 hE)) 0 rfl rfl 3 (by decide) (htw _ mw339) (fun _ h9 => h9) rfl dX0_begin_27 ?_
  refine lv_iconst (v := 0) hx hb dX0_begin_30 (by decide) ?_
  refine lv_bipush (v := 8) hx hb dX0_begin_31 (by decide) ?_
  obtain ⟨g4, hf⟩ := gd_some hf
  obtain ⟨g5, hg5, hf⟩ := bd hf
  have hg5 := Option.some.inj hg5
  refine wo_copy hx hb (hml.trans hl.1.symm) hown (htw _ mw748) (htw _ mw482) (htw _ mw481) (htw _ mw130) hE (wo_gs hw) hS (wf_1 hE) (t := 0) ((hw _ _ hv1) 3 _ rfl) (q1 := 3) rfl rfl rfl g4 (fun _ _ => rfl) (sa0_3 rfl) (Nat.le_of_ble_eq_true rfl) (by decide +kernel) dX0_begin_33 (fun H locs hw hS => ?_)
  rw [hg5] at hw
  refine lv_aload_n hx hb dX0_begin_36 rfl (lv_at hl 0 rfl) ?_
  refine va_get (ci := 0) (v := .ref (aa Γ 1 4)) (C := RX0) (T := TX0) (N := 12) hx hb htw uwX0 hown hE.1 (hw _ _ (wf_1 hE)) 0 rfl rfl 4 (by decide) (htw _ mw340) (fun _ h9 => h9) rfl dX0_begin_37 ?_
  refine lv_iconst (v := 0) hx hb dX0_begin_40 (by decide) ?_
  obtain ⟨g6, hg6, hf⟩ := bd hf
  have hg6 := Option.some.inj hg6
  refine cl_Sv (rest := []) (kfill (l := l) (A := A) (G := g5) (r := (g5 1)) (v := 0) (k := 4) (q0 := 4) (wf_1 hE) (Nat.lt_of_lt_of_le (Nat.lt_succ_self 8) (Nat.le_of_ble_eq_true rfl)) (fun _ => rfl) (fun _ _ => sa0_4 rfl)) ⟨hx, hb, hml, hown, htw⟩ hE (wo_gs hw) hS mw747 mw605 mw135 mw606 pdJ7_fill_53178 ⟨Nat.le_of_ble_eq_true rfl, Nat.le_of_ble_eq_true rfl⟩ rfl rfl hl.1 (Nat.le_of_ble_eq_true rfl) dX0_begin_41 (fun H locs hw hS => ?_)
  rw [hg6] at hw
  refine lv_aload_n hx hb dX0_begin_44 rfl (lv_at hl 0 rfl) ?_
  refine lv_iconst (v := 0) hx hb dX0_begin_45 (by decide) ?_
  obtain ⟨g7, hg7, hf⟩ := bd hf
  have hg7 := Option.some.inj hg7
  refine wo_putG (C := RX0) (T := TX0) (N := 12) (v := .int 0) (ty := .int) hx hb htw uwX0 tyX0 tyX0_ok nmX0 hown hE hw hS (wf_1 hE) rfl rfl 5 (by decide) (htw _ mw341) (fun _ h9 => h9) rfl (tyX0_ok 5 (by decide)) rfl rfl (Nat.le_of_ble_eq_true rfl) (st0_5 rfl) hg7 dX0_begin_46 (fun H locs hw hS => ?_)
  refine lv_aload_n hx hb dX0_begin_49 rfl (lv_at hl 0 rfl) ?_
  refine lv_iconst (v := 0) hx hb dX0_begin_50 (by decide) ?_
  obtain ⟨g8, hg8, hf⟩ := bd hf
  have hg8 := Option.some.inj hg8
  refine wo_putG (C := RX0) (T := TX0) (N := 12) (v := .int 0) (ty := .int) hx hb htw uwX0 tyX0 tyX0_ok nmX0 hown hE hw hS (wf_1 hE) rfl rfl 6 (by decide) (htw _ mw342) (fun _ h9 => h9) rfl (tyX0_ok 6 (by decide)) rfl rfl (Nat.le_of_ble_eq_true rfl) (st0_6 rfl) hg8 dX0_begin_51 (fun H locs hw hS => ?_)
  refine lv_aload_n hx hb dX0_begin_54 rfl (lv_at hl 0 rfl) ?_
  refine lv_iconst (v := 0) hx hb dX0_begin_55 (by decide) ?_
  obtain ⟨g9, hg9, hf⟩ := bd hf
  have hg9 := Option.some.inj hg9
  refine wo_putG (C := RX0) (T := TX0) (N := 12) (v := .int 0) (ty := .int) hx hb htw uwX0 tyX0 tyX0_ok nmX0 hown hE hw hS (wf_1 hE) rfl rfl 7 (by decide) (htw _ mw343) (fun _ h9 => h9) rfl (tyX0_ok 7 (by decide)) rfl rfl (Nat.le_of_ble_eq_true rfl) (st0_7 rfl) hg9 dX0_begin_56 (fun H locs hw hS => ?_)
  refine lv_aload_n hx hb dX0_begin_59 rfl (lv_at hl 0 rfl) ?_
  refine lv_iconst (v := 0) hx hb dX0_begin_60 (by decide) ?_
  obtain ⟨g10, hg10, hf⟩ := bd hf
  have hg10 := Option.some.inj hg10
  refine wo_putG (C := RX0) (T := TX0) (N := 12) (v := .int 0) (ty := .int) hx hb htw uwX0 tyX0 tyX0_ok nmX0 hown hE hw hS (wf_1 hE) rfl rfl 9 (by decide) (htw _ mw345) (fun _ h9 => h9) rfl (tyX0_ok 9 (by decide)) rfl rfl (Nat.le_of_ble_eq_true rfl) (st0_9 rfl) hg10 dX0_begin_61 (fun H locs hw hS => ?_)
  refine lv_aload_n hx hb dX0_begin_64 rfl (lv_at hl 0 rfl) ?_
  refine lv_iconst (v := (-1)) hx hb dX0_begin_65 (by decide) ?_
  obtain ⟨g11, hg11, hf⟩ := bd hf
  have hg11 := Option.some.inj hg11
  refine wo_putG (C := RX0) (T := TX0) (N := 12) (v := .int (-1)) (ty := .int) hx hb htw uwX0 tyX0 tyX0_ok nmX0 hown hE hw hS (wf_1 hE) rfl rfl 10 (by decide) (htw _ mw347) (fun _ h9 => h9) rfl (tyX0_ok 10 (by decide)) rfl rfl (Nat.le_of_ble_eq_true rfl) (st0_10 rfl) hg11 dX0_begin_66 (fun H locs hw hS => ?_)
  refine lv_aload_n hx hb dX0_begin_69 rfl (lv_at hl 0 rfl) ?_
  refine lv_iconst (v := 0) hx hb dX0_begin_70 (by decide) ?_
  obtain ⟨g12, hg12, hf⟩ := bd hf
  have hg12 := Option.some.inj hg12
  refine wo_putG (C := RX0) (T := TX0) (N := 12) (v := .int 0) (ty := .int) hx hb htw uwX0 tyX0 tyX0_ok nmX0 hown hE hw hS (wf_1 hE) rfl rfl 11 (by decide) (htw _ mw349) (fun _ h9 => h9) rfl (tyX0_ok 11 (by decide)) rfl rfl (Nat.le_of_ble_eq_true rfl) (st0_11 rfl) hg12 dX0_begin_71 (fun H locs hw hS => ?_)
  obtain rfl := Option.some.inj hf
  subst hq
  exact rt_v C hw hS dX0_begin_74

theorem kX0_begin {l : Launch} {Γ : Gm} {A : Nat → Prop} {g : Gs} {v1 : Nat} {fin : Gs} (hv1 : kd Γ v1 = some 2) (hf : fX0_begin g v1 = some fin) : Kt l yX0_begin cX0_begin 2 none 1 60 Γ A g fin [.ref (ad Γ 1), .ref (ad Γ v1)] none :=
  kt_of (by decide) (Nat.le_of_ble_eq_true rfl) (fun p e s m args below meth c C => wX0_begin_e C hv1 hf rfl)
noncomputable def bX0_brightest_50 (g : Gs) (v1 : Int32) (v2 : Int32) (v3 : Int32) : Option ((Int32 × Int32 × Int32) ⊕ Int32) :=
  some (.inl (v1, v2, v3 + 1))
set_option maxRecDepth 100000 in
set_option maxHeartbeats 4000000 in
theorem wX0_brightest_50 {p : Program} {l : Launch} {e : Env} {s : State} {m : MethodId} {args : Array Value} {below : List Frame} {meth : Method} {c : Code} {Γ : Gm} {A : Nat → Prop} {g : Gs} {v1 : Int32} {v2 : Int32} {v3 : Int32} {q : ((Int32 × Int32 × Int32) ⊕ Int32)} {fin : Int32} (C : Cx p s m args meth c yX0_brightest cX0_brightest 4 (some .int) Γ A) (hf : bX0_brightest_50 g v1 v2 v3 = some q) (hq : (KC (fun st : Int32 × Int32 × Int32 => Wk p l e { frames := 0, cells := 0, slots := 0, locals := 0 } s m args below meth c Γ A g (some (.int fin)) 6 4 [(0, .ref (ad Γ 1)), (1, .int st.1), (2, .int st.2.1), (3, .int st.2.2)] [] g) (fun x => x = fin)) q) : Wk p l e { frames := 0, cells := 0, slots := 0, locals := 0 } s m args below meth c Γ A g (some (.int fin)) 50 4 [(0, .ref (ad Γ 1)), (1, .int v1), (2, .int v2), (3, .int v3)] [] g := by
  intro H locs ls hw hS hl
  unfold bX0_brightest_50 at hf
  obtain ⟨hx, hb, hml, hr, hown, htw, hlocks, hE⟩ := id C
  have hown : s.vm.findClass RX0 = some m.cls := hown
  refine lv_iinc (v := v3 + 1) (lv' := [(3, .int (v3 + 1)), (0, .ref (ad Γ 1)), (1, .int v1), (2, .int v2)]) hx hb dX0_brightest_50 hl (k := 3) rfl (by rfl) (by decide) rfl (fun ls hl => ?_)
  refine lv_goto (tgt := 6) hx hb dX0_brightest_53 (by decide) ?_
  obtain rfl := Option.some.inj hf
  exact hq.1 _ rfl H locs ls hw hS (lv_sub hl [1, 2, 3, 0] rfl)

noncomputable def bX0_brightest_6 (g : Gs) (v1 : Int32) (v2 : Int32) (v3 : Int32) : Option ((Int32 × Int32 × Int32) ⊕ Int32) :=
  (some (gr (g 1) 0)).bind fun h1 => gd (isHm h1) (if (gi (g h1) 0) ≤ v3 then some (.inr (v1)) else gd (inR v3 8) (gd (inR v3 8) (if ((ga (g 1) 1 (Int32.toNatClampNeg v3)) + (ga (g 1) 2 (Int32.toNatClampNeg v3))) ≤ v2 then bX0_brightest_50 g v1 v2 v3 else gd (inR v3 8) (gd (inR v3 8) ((some ((ga (g 1) 1 (Int32.toNatClampNeg v3)) + (ga (g 1) 2 (Int32.toNatClampNeg v3)))).bind fun x7 => bX0_brightest_50 g v3 x7 v3)))))
set_option maxRecDepth 100000 in
set_option maxHeartbeats 4000000 in
theorem wX0_brightest_6 {p : Program} {l : Launch} {e : Env} {s : State} {m : MethodId} {args : Array Value} {below : List Frame} {meth : Method} {c : Code} {Γ : Gm} {A : Nat → Prop} {g : Gs} {v1 : Int32} {v2 : Int32} {v3 : Int32} {q : ((Int32 × Int32 × Int32) ⊕ Int32)} {fin : Int32} (C : Cx p s m args meth c yX0_brightest cX0_brightest 4 (some .int) Γ A) (hf : bX0_brightest_6 g v1 v2 v3 = some q) (hq : (KC (fun st : Int32 × Int32 × Int32 => Wk p l e { frames := 0, cells := 0, slots := 0, locals := 0 } s m args below meth c Γ A g (some (.int fin)) 6 4 [(0, .ref (ad Γ 1)), (1, .int st.1), (2, .int st.2.1), (3, .int st.2.2)] [] g) (fun x => x = fin)) q) : Wk p l e { frames := 0, cells := 0, slots := 0, locals := 0 } s m args below meth c Γ A g (some (.int fin)) 6 4 [(0, .ref (ad Γ 1)), (1, .int v1), (2, .int v2), (3, .int v3)] [] g := by
  intro H locs ls hw hS hl
  unfold bX0_brightest_6 at hf
  obtain ⟨hx, hb, hml, hr, hown, htw, hlocks, hE⟩ := id C
  have hown : s.vm.findClass RX0 = some m.cls := hown
  refine lv_iload_n hx hb dX0_brightest_6 rfl (lv_at hl 3 rfl) ?_
  refine lv_aload_n hx hb dX0_brightest_7 rfl (lv_at hl 0 rfl) ?_
  refine va_get (ci := 0) (v := .ref (ad Γ (gr (g 1) 0))) (C := RX0) (T := TX0) (N := 12) hx hb htw uwX0 hown hE.1 (hw _ _ (wf_1 hE)) 0 rfl rfl 0 (by decide) (htw _ mw336) (fun _ h9 => h9) rfl dX0_brightest_8 ?_
  obtain ⟨h1, hh1, hf⟩ := bd hf
  have hh1 := Option.some.inj hh1
  refine tp1r hh1 ?_
  obtain ⟨g2, hf⟩ := gd_some hf
  refine va_get (ci := 2) (v := .int (gi (g h1) 0)) (C := RX2) (T := TX2) (N := 11) hx hb htw uwX2 hown hE.1 (hw _ _ (hm_kd hE g2)) 0 rfl rfl 0 (by decide) (htw _ mw162) (fun _ h9 => h9) rfl dX0_brightest_11 ?_
  refine lv_icmp_ge (tgt := 56) hx hb dX0_brightest_14 (by decide) (fun c9 => ?_) (fun c9 => ?_)
  · have hf := ifp c9 hf
    refine lv_iload_n hx hb dX0_brightest_56 rfl (lv_at hl 1 rfl) ?_
    obtain rfl := Option.some.inj hf
    have hq := hq.2 _ rfl
    subst hq
    exact rt_i C hw hS dX0_brightest_57
  · have hf := ifn c9 hf
    refine lv_aload_n hx hb dX0_brightest_17 rfl (lv_at hl 0 rfl) ?_
    refine va_get (ci := 0) (v := .ref (aa Γ 1 1)) (C := RX0) (T := TX0) (N := 12) hx hb htw uwX0 hown hE.1 (hw _ _ (wf_1 hE)) 0 rfl rfl 1 (by decide) (htw _ mw337) (fun _ h9 => h9) rfl dX0_brightest_18 ?_
    refine lv_iload_n hx hb dX0_brightest_21 rfl (lv_at hl 3 rfl) ?_
    obtain ⟨g3, hf⟩ := gd_some hf
    refine va_iald hx hb hE.1 (hw _ _ (wf_1 hE)) 1 0 rfl rfl (inR_in g3) dX0_brightest_22 ?_
    refine lv_aload_n hx hb dX0_brightest_23 rfl (lv_at hl 0 rfl) ?_
    refine va_get (ci := 0) (v := .ref (aa Γ 1 2)) (C := RX0) (T := TX0) (N := 12) hx hb htw uwX0 hown hE.1 (hw _ _ (wf_1 hE)) 0 rfl rfl 2 (by decide) (htw _ mw338) (fun _ h9 => h9) rfl dX0_brightest_24 ?_
    refine lv_iload_n hx hb dX0_brightest_27 rfl (lv_at hl 3 rfl) ?_
    obtain ⟨g4, hf⟩ := gd_some hf
    refine va_iald hx hb hE.1 (hw _ _ (wf_1 hE)) 2 0 rfl rfl (inR_in g4) dX0_brightest_28 ?_
    refine lv_iadd hx hb dX0_brightest_29 ?_
    refine lv_iload_n hx hb dX0_brightest_30 rfl (lv_at hl 2 rfl) ?_
    refine lv_icmp_le (tgt := 50) hx hb dX0_brightest_31 (by decide) (fun c8 => ?_) (fun c8 => ?_)
    · have hf := ifp c8 hf
      exact wX0_brightest_50 C hf hq H locs ls hw hS hl
    · have hf := ifn c8 hf
      refine lv_aload_n hx hb dX0_brightest_34 rfl (lv_at hl 0 rfl) ?_
      refine va_get (ci := 0) (v := .ref (aa Γ 1 1)) (C := RX0) (T := TX0) (N := 12) hx hb htw uwX0 hown hE.1 (hw _ _ (wf_1 hE)) 0 rfl rfl 1 (by decide) (htw _ mw337) (fun _ h9 => h9) rfl dX0_brightest_35 ?_
      refine lv_iload_n hx hb dX0_brightest_38 rfl (lv_at hl 3 rfl) ?_
      obtain ⟨g5, hf⟩ := gd_some hf
      refine va_iald hx hb hE.1 (hw _ _ (wf_1 hE)) 1 0 rfl rfl (inR_in g5) dX0_brightest_39 ?_
      refine lv_aload_n hx hb dX0_brightest_40 rfl (lv_at hl 0 rfl) ?_
      refine va_get (ci := 0) (v := .ref (aa Γ 1 2)) (C := RX0) (T := TX0) (N := 12) hx hb htw uwX0 hown hE.1 (hw _ _ (wf_1 hE)) 0 rfl rfl 2 (by decide) (htw _ mw338) (fun _ h9 => h9) rfl dX0_brightest_41 ?_
      refine lv_iload_n hx hb dX0_brightest_44 rfl (lv_at hl 3 rfl) ?_
      obtain ⟨g6, hf⟩ := gd_some hf
      refine va_iald hx hb hE.1 (hw _ _ (wf_1 hE)) 2 0 rfl rfl (inR_in g6) dX0_brightest_45 ?_
      refine lv_iadd hx hb dX0_brightest_46 ?_
      obtain ⟨x7, hx7, hf⟩ := bd hf
      have hx7 := Option.some.inj hx7
      refine tp1i hx7 ?_
      refine lv_istore_n (lv' := [(2, .int x7), (0, .ref (ad Γ 1)), (1, .int v1), (3, .int v3)]) hx hb dX0_brightest_47 rfl hl (by decide) rfl (fun ls hl => ?_)
      refine lv_iload_n hx hb dX0_brightest_48 rfl (lv_at hl 3 rfl) ?_
      refine lv_istore_n (lv' := [(1, .int v3), (2, .int x7), (0, .ref (ad Γ 1)), (3, .int v3)]) hx hb dX0_brightest_49 rfl hl (by decide) rfl (fun ls hl => ?_)
      exact wX0_brightest_50 C hf hq H locs ls hw hS (lv_sub hl [2, 0, 1, 3] rfl)

set_option maxRecDepth 100000 in
set_option maxHeartbeats 4000000 in
theorem lwX0_brightest_6 {p : Program} {l : Launch} {e : Env} {s : State} {m : MethodId} {args : Array Value} {below : List Frame} {meth : Method} {c : Code} {Γ : Gm} {A : Nat → Prop} {g : Gs} {v1 : Int32} {v2 : Int32} {v3 : Int32} {q : Int32} {fin : Int32} (C : Cx p s m args meth c yX0_brightest cX0_brightest 4 (some .int) Γ A) (hf : iter (fun st : Int32 × Int32 × Int32 => bX0_brightest_6 g st.1 st.2.1 st.2.2) (v1, v2, v3) = some q) (hq : (fun x => x = fin) q) : Wk p l e { frames := 0, cells := 0, slots := 0, locals := 0 } s m args below meth c Γ A g (some (.int fin)) 6 4 [(0, .ref (ad Γ 1)), (1, .int v1), (2, .int v2), (3, .int v3)] [] g := by
  intro H locs ls hw hS hl
  refine iter_walk (P := (fun st : Int32 × Int32 × Int32 => Wk p l e { frames := 0, cells := 0, slots := 0, locals := 0 } s m args below meth c Γ A g (some (.int fin)) 6 4 [(0, .ref (ad Γ 1)), (1, .int st.1), (2, .int st.2.1), (3, .int st.2.2)] [] g)) (K := (fun x => x = fin)) (fun st q hq1 h1 h2 => ?_) hf hq H locs ls hw hS hl
  exact wX0_brightest_6 (v1 := st.1) (v2 := st.2.1) (v3 := st.2.2) C hq1 ⟨h1, h2⟩

noncomputable def fX0_brightest (g : Gs) : Option Int32 :=
  iter (fun st : Int32 × Int32 × Int32 => bX0_brightest_6 g st.1 st.2.1 st.2.2) ((-1), 0, 0)
set_option maxRecDepth 100000 in
set_option maxHeartbeats 4000000 in
theorem wX0_brightest_e {p : Program} {l : Launch} {e : Env} {s : State} {m : MethodId} {args : Array Value} {below : List Frame} {meth : Method} {c : Code} {Γ : Gm} {A : Nat → Prop} {g : Gs} {q : Int32} {fin : Int32} (C : Cx p s m args meth c yX0_brightest cX0_brightest 4 (some .int) Γ A) (hf : fX0_brightest g = some q) (hq : (fun x => x = fin) q) : Wk p l e { frames := 0, cells := 0, slots := 0, locals := 0 } s m args below meth c Γ A g (some (.int fin)) 0 4 [(0, .ref (ad Γ 1))] [] g := by
  intro H locs ls hw hS hl
  unfold fX0_brightest at hf
  obtain ⟨hx, hb, hml, hr, hown, htw, hlocks, hE⟩ := id C
  have hown : s.vm.findClass RX0 = some m.cls := hown
  refine lv_iconst (v := (-1)) hx hb dX0_brightest_0 (by decide) ?_
  refine lv_istore_n (lv' := [(1, .int (-1)), (0, .ref (ad Γ 1))]) hx hb dX0_brightest_1 rfl hl (by decide) rfl (fun ls hl => ?_)
  refine lv_iconst (v := 0) hx hb dX0_brightest_2 (by decide) ?_
  refine lv_istore_n (lv' := [(2, .int 0), (1, .int (-1)), (0, .ref (ad Γ 1))]) hx hb dX0_brightest_3 rfl hl (by decide) rfl (fun ls hl => ?_)
  refine lv_iconst (v := 0) hx hb dX0_brightest_4 (by decide) ?_
  refine lv_istore_n (lv' := [(3, .int 0), (2, .int 0), (1, .int (-1)), (0, .ref (ad Γ 1))]) hx hb dX0_brightest_5 rfl hl (by decide) rfl (fun ls hl => ?_)
  exact lwX0_brightest_6 C hf hq H locs ls hw hS (lv_sub hl [3, 2, 1, 0] rfl)

theorem kX0_brightest {l : Launch} {Γ : Gm} {A : Nat → Prop} {g : Gs} {fin : Int32} (hf : fX0_brightest g = some fin) : Kt l yX0_brightest cX0_brightest 4 (some .int) 0 0 Γ A g g [.ref (ad Γ 1)] (some (.int fin)) :=
  kt_of (by decide) (Nat.le_of_ble_eq_true rfl) (fun p e s m args below meth c C => wX0_brightest_e C hf rfl)
noncomputable def bX0_isDusk_45 (g : Gs) (v1 : Int32) : Option Int32 :=
  if v1 ≤ 1 then some (0) else some (1)
set_option maxRecDepth 100000 in
set_option maxHeartbeats 4000000 in
theorem wX0_isDusk_45 {p : Program} {l : Launch} {e : Env} {s : State} {m : MethodId} {args : Array Value} {below : List Frame} {meth : Method} {c : Code} {Γ : Gm} {A : Nat → Prop} {g : Gs} {v1 : Int32} {q : Int32} {fin : Int32} (C : Cx p s m args meth c yX0_isDusk cX0_isDusk 3 (some .boolean) Γ A) (hf : bX0_isDusk_45 g v1 = some q) (hq : (fun x => x = fin) q) : Wk p l e { frames := 0, cells := 0, slots := 0, locals := 0 } s m args below meth c Γ A g (some (.int fin)) 45 3 [(1, .int v1)] [] g := by
  intro H locs ls hw hS hl
  unfold bX0_isDusk_45 at hf
  obtain ⟨hx, hb, hml, hr, hown, htw, hlocks, hE⟩ := id C
  have hown : s.vm.findClass RX0 = some m.cls := hown
  refine lv_iload_n hx hb dX0_isDusk_45 rfl (lv_at hl 0 rfl) ?_
  refine lv_iconst (v := 1) hx hb dX0_isDusk_46 (by decide) ?_
  refine lv_icmp_le (tgt := 54) hx hb dX0_isDusk_47 (by decide) (fun c1 => ?_) (fun c1 => ?_)
  · have hf := ifp c1 hf
    refine lv_iconst (v := 0) hx hb dX0_isDusk_54 (by decide) ?_
    obtain rfl := Option.some.inj hf
    subst hq
    exact rt_z C (Or.inl rfl) hw hS dX0_isDusk_55
  · have hf := ifn c1 hf
    refine lv_iconst (v := 1) hx hb dX0_isDusk_50 (by decide) ?_
    refine lv_goto (tgt := 55) hx hb dX0_isDusk_51 (by decide) ?_
    obtain rfl := Option.some.inj hf
    subst hq
    exact rt_z C (Or.inr rfl) hw hS dX0_isDusk_55

noncomputable def bX0_isDusk_37 (g : Gs) (v2 : Int32) (s0 : Int32) (s1 : Int32) : Option ((Int32 × Int32) ⊕ Int32) :=
  some (.inl (s1 + s0, v2 + 1))
set_option maxRecDepth 100000 in
set_option maxHeartbeats 4000000 in
theorem wX0_isDusk_37 {p : Program} {l : Launch} {e : Env} {s : State} {m : MethodId} {args : Array Value} {below : List Frame} {meth : Method} {c : Code} {Γ : Gm} {A : Nat → Prop} {g : Gs} {v2 : Int32} {s0 : Int32} {s1 : Int32} {q : ((Int32 × Int32) ⊕ Int32)} {fin : Int32} (C : Cx p s m args meth c yX0_isDusk cX0_isDusk 3 (some .boolean) Γ A) (hf : bX0_isDusk_37 g v2 s0 s1 = some q) (hq : (KC (fun st : Int32 × Int32 => Wk p l e { frames := 0, cells := 0, slots := 0, locals := 0 } s m args below meth c Γ A g (some (.int fin)) 4 3 [(0, .ref (ad Γ 1)), (1, .int st.1), (2, .int st.2)] [] g) (fun x => x = fin)) q) : Wk p l e { frames := 0, cells := 0, slots := 0, locals := 0 } s m args below meth c Γ A g (some (.int fin)) 37 3 [(0, .ref (ad Γ 1)), (2, .int v2)] [.int s0, .int s1] g := by
  intro H locs ls hw hS hl
  unfold bX0_isDusk_37 at hf
  obtain ⟨hx, hb, hml, hr, hown, htw, hlocks, hE⟩ := id C
  have hown : s.vm.findClass RX0 = some m.cls := hown
  refine lv_iadd hx hb dX0_isDusk_37 ?_
  refine lv_istore_n (lv' := [(1, .int (s1 + s0)), (0, .ref (ad Γ 1)), (2, .int v2)]) hx hb dX0_isDusk_38 rfl hl (by decide) rfl (fun ls hl => ?_)
  refine lv_iinc (v := v2 + 1) (lv' := [(2, .int (v2 + 1)), (1, .int (s1 + s0)), (0, .ref (ad Γ 1))]) hx hb dX0_isDusk_39 hl (k := 2) rfl (by rfl) (by decide) rfl (fun ls hl => ?_)
  refine lv_goto (tgt := 4) hx hb dX0_isDusk_42 (by decide) ?_
  obtain rfl := Option.some.inj hf
  exact hq.1 _ rfl H locs ls hw hS (lv_sub hl [2, 1, 0] rfl)

noncomputable def bX0_isDusk_4 (g : Gs) (v1 : Int32) (v2 : Int32) : Option ((Int32 × Int32) ⊕ Int32) :=
  (some (gr (g 1) 0)).bind fun h2 => gd (isHm h2) (if (gi (g h2) 0) ≤ v2 then out1 (bX0_isDusk_45 g v1) else gd (inR v2 8) (gd (inR v2 8) (if ((ga (g 1) 1 (Int32.toNatClampNeg v2)) + (ga (g 1) 2 (Int32.toNatClampNeg v2))) ≤ 0 then bX0_isDusk_37 g v2 0 v1 else bX0_isDusk_37 g v2 1 v1)))
set_option maxRecDepth 100000 in
set_option maxHeartbeats 4000000 in
theorem wX0_isDusk_4 {p : Program} {l : Launch} {e : Env} {s : State} {m : MethodId} {args : Array Value} {below : List Frame} {meth : Method} {c : Code} {Γ : Gm} {A : Nat → Prop} {g : Gs} {v1 : Int32} {v2 : Int32} {q : ((Int32 × Int32) ⊕ Int32)} {fin : Int32} (C : Cx p s m args meth c yX0_isDusk cX0_isDusk 3 (some .boolean) Γ A) (hf : bX0_isDusk_4 g v1 v2 = some q) (hq : (KC (fun st : Int32 × Int32 => Wk p l e { frames := 0, cells := 0, slots := 0, locals := 0 } s m args below meth c Γ A g (some (.int fin)) 4 3 [(0, .ref (ad Γ 1)), (1, .int st.1), (2, .int st.2)] [] g) (fun x => x = fin)) q) : Wk p l e { frames := 0, cells := 0, slots := 0, locals := 0 } s m args below meth c Γ A g (some (.int fin)) 4 3 [(0, .ref (ad Γ 1)), (1, .int v1), (2, .int v2)] [] g := by
  intro H locs ls hw hS hl
  unfold bX0_isDusk_4 at hf
  obtain ⟨hx, hb, hml, hr, hown, htw, hlocks, hE⟩ := id C
  have hown : s.vm.findClass RX0 = some m.cls := hown
  refine lv_iload_n hx hb dX0_isDusk_4 rfl (lv_at hl 2 rfl) ?_
  refine lv_aload_n hx hb dX0_isDusk_5 rfl (lv_at hl 0 rfl) ?_
  refine va_get (ci := 0) (v := .ref (ad Γ (gr (g 1) 0))) (C := RX0) (T := TX0) (N := 12) hx hb htw uwX0 hown hE.1 (hw _ _ (wf_1 hE)) 0 rfl rfl 0 (by decide) (htw _ mw336) (fun _ h9 => h9) rfl dX0_isDusk_6 ?_
  obtain ⟨h2, hh2, hf⟩ := bd hf
  have hh2 := Option.some.inj hh2
  refine tp1r hh2 ?_
  obtain ⟨g3, hf⟩ := gd_some hf
  refine va_get (ci := 2) (v := .int (gi (g h2) 0)) (C := RX2) (T := TX2) (N := 11) hx hb htw uwX2 hown hE.1 (hw _ _ (hm_kd hE g3)) 0 rfl rfl 0 (by decide) (htw _ mw162) (fun _ h9 => h9) rfl dX0_isDusk_9 ?_
  refine lv_icmp_ge (tgt := 45) hx hb dX0_isDusk_12 (by decide) (fun c8 => ?_) (fun c8 => ?_)
  · have hf := ifp c8 hf
    obtain ⟨q4, hfq4, eq4⟩ := out1_some hf
    subst eq4
    have hf := hfq4
    have hq := hq.2 _ rfl
    exact wX0_isDusk_45 C hf hq H locs ls hw hS (lv_sub hl [1] rfl)
  · have hf := ifn c8 hf
    refine lv_iload_n hx hb dX0_isDusk_15 rfl (lv_at hl 1 rfl) ?_
    refine lv_aload_n hx hb dX0_isDusk_16 rfl (lv_at hl 0 rfl) ?_
    refine va_get (ci := 0) (v := .ref (aa Γ 1 1)) (C := RX0) (T := TX0) (N := 12) hx hb htw uwX0 hown hE.1 (hw _ _ (wf_1 hE)) 0 rfl rfl 1 (by decide) (htw _ mw337) (fun _ h9 => h9) rfl dX0_isDusk_17 ?_
    refine lv_iload_n hx hb dX0_isDusk_20 rfl (lv_at hl 2 rfl) ?_
    obtain ⟨g5, hf⟩ := gd_some hf
    refine va_iald hx hb hE.1 (hw _ _ (wf_1 hE)) 1 0 rfl rfl (inR_in g5) dX0_isDusk_21 ?_
    refine lv_aload_n hx hb dX0_isDusk_22 rfl (lv_at hl 0 rfl) ?_
    refine va_get (ci := 0) (v := .ref (aa Γ 1 2)) (C := RX0) (T := TX0) (N := 12) hx hb htw uwX0 hown hE.1 (hw _ _ (wf_1 hE)) 0 rfl rfl 2 (by decide) (htw _ mw338) (fun _ h9 => h9) rfl dX0_isDusk_23 ?_
    refine lv_iload_n hx hb dX0_isDusk_26 rfl (lv_at hl 2 rfl) ?_
    obtain ⟨g6, hf⟩ := gd_some hf
    refine va_iald hx hb hE.1 (hw _ _ (wf_1 hE)) 2 0 rfl rfl (inR_in g6) dX0_isDusk_27 ?_
    refine lv_iadd hx hb dX0_isDusk_28 ?_
    refine lv_if_le (tgt := 36) hx hb dX0_isDusk_29 (by decide) (fun c7 => ?_) (fun c7 => ?_)
    · have hf := ifp c7 hf
      refine lv_iconst (v := 0) hx hb dX0_isDusk_36 (by decide) ?_
      exact wX0_isDusk_37 C hf hq H locs ls hw hS (lv_sub hl [0, 2] rfl)
    · have hf := ifn c7 hf
      refine lv_iconst (v := 1) hx hb dX0_isDusk_32 (by decide) ?_
      refine lv_goto (tgt := 37) hx hb dX0_isDusk_33 (by decide) ?_
      exact wX0_isDusk_37 C hf hq H locs ls hw hS (lv_sub hl [0, 2] rfl)

set_option maxRecDepth 100000 in
set_option maxHeartbeats 4000000 in
theorem lwX0_isDusk_4 {p : Program} {l : Launch} {e : Env} {s : State} {m : MethodId} {args : Array Value} {below : List Frame} {meth : Method} {c : Code} {Γ : Gm} {A : Nat → Prop} {g : Gs} {v1 : Int32} {v2 : Int32} {q : Int32} {fin : Int32} (C : Cx p s m args meth c yX0_isDusk cX0_isDusk 3 (some .boolean) Γ A) (hf : iter (fun st : Int32 × Int32 => bX0_isDusk_4 g st.1 st.2) (v1, v2) = some q) (hq : (fun x => x = fin) q) : Wk p l e { frames := 0, cells := 0, slots := 0, locals := 0 } s m args below meth c Γ A g (some (.int fin)) 4 3 [(0, .ref (ad Γ 1)), (1, .int v1), (2, .int v2)] [] g := by
  intro H locs ls hw hS hl
  refine iter_walk (P := (fun st : Int32 × Int32 => Wk p l e { frames := 0, cells := 0, slots := 0, locals := 0 } s m args below meth c Γ A g (some (.int fin)) 4 3 [(0, .ref (ad Γ 1)), (1, .int st.1), (2, .int st.2)] [] g)) (K := (fun x => x = fin)) (fun st q hq1 h1 h2 => ?_) hf hq H locs ls hw hS hl
  exact wX0_isDusk_4 (v1 := st.1) (v2 := st.2) C hq1 ⟨h1, h2⟩

noncomputable def fX0_isDusk (g : Gs) : Option Int32 :=
  iter (fun st : Int32 × Int32 => bX0_isDusk_4 g st.1 st.2) (0, 0)
set_option maxRecDepth 100000 in
set_option maxHeartbeats 4000000 in
theorem wX0_isDusk_e {p : Program} {l : Launch} {e : Env} {s : State} {m : MethodId} {args : Array Value} {below : List Frame} {meth : Method} {c : Code} {Γ : Gm} {A : Nat → Prop} {g : Gs} {q : Int32} {fin : Int32} (C : Cx p s m args meth c yX0_isDusk cX0_isDusk 3 (some .boolean) Γ A) (hf : fX0_isDusk g = some q) (hq : (fun x => x = fin) q) : Wk p l e { frames := 0, cells := 0, slots := 0, locals := 0 } s m args below meth c Γ A g (some (.int fin)) 0 3 [(0, .ref (ad Γ 1))] [] g := by
  intro H locs ls hw hS hl
  unfold fX0_isDusk at hf
  obtain ⟨hx, hb, hml, hr, hown, htw, hlocks, hE⟩ := id C
  have hown : s.vm.findClass RX0 = some m.cls := hown
  refine lv_iconst (v := 0) hx hb dX0_isDusk_0 (by decide) ?_
  refine lv_istore_n (lv' := [(1, .int 0), (0, .ref (ad Γ 1))]) hx hb dX0_isDusk_1 rfl hl (by decide) rfl (fun ls hl => ?_)
  refine lv_iconst (v := 0) hx hb dX0_isDusk_2 (by decide) ?_
  refine lv_istore_n (lv' := [(2, .int 0), (1, .int 0), (0, .ref (ad Γ 1))]) hx hb dX0_isDusk_3 rfl hl (by decide) rfl (fun ls hl => ?_)
  exact lwX0_isDusk_4 C hf hq H locs ls hw hS (lv_sub hl [2, 1, 0] rfl)

theorem kX0_isDusk {l : Launch} {Γ : Gm} {A : Nat → Prop} {g : Gs} {fin : Int32} (hf : fX0_isDusk g = some fin) : Kt l yX0_isDusk cX0_isDusk 3 (some .boolean) 0 0 Γ A g g [.ref (ad Γ 1)] (some (.int fin)) :=
  kt_of (by decide) (Nat.le_of_ble_eq_true rfl) (fun p e s m args below meth c C => wX0_isDusk_e C hf rfl)
noncomputable def bX0_remember_55 (g : Gs) (v3 : Int32) : Option ((Int32 × Gs) ⊕ Gs) :=
  (some (gr (g 1) 0)).bind fun h1 => gd (isHm h1) (if (gi (g h1) 0) ≤ v3 then some (.inr (g)) else gd (inR v3 8) ((some (gi (g 1) 11)).bind fun x4 => (some (ga (g 1) 1 (Int32.toNatClampNeg v3))).bind fun x5 => (some (mxi x4 x5)).bind fun x6 => (some (ug g 1 (si (g 1) 11 x6))).bind fun g7 => some (.inl (v3 + 1, g7))))
set_option maxRecDepth 100000 in
set_option maxHeartbeats 4000000 in
theorem wX0_remember_55 {p : Program} {l : Launch} {e : Env} {s : State} {m : MethodId} {args : Array Value} {below : List Frame} {meth : Method} {c : Code} {Γ : Gm} {A : Nat → Prop} {g : Gs} {v3 : Int32} {q : ((Int32 × Gs) ⊕ Gs)} {fin : Gs} (C : Cx p s m args meth c yX0_remember cX0_remember 4 none Γ A) (hf : bX0_remember_55 g v3 = some q) (hq : (KC (fun st : Int32 × Gs => Wk p l e { frames := 1, cells := 0, slots := 0, locals := 23 } s m args below meth c Γ A fin none 55 4 [(0, .ref (ad Γ 1)), (3, .int st.1)] [] st.2) (fun x => x = fin)) q) : Wk p l e { frames := 1, cells := 0, slots := 0, locals := 23 } s m args below meth c Γ A fin none 55 4 [(0, .ref (ad Γ 1)), (3, .int v3)] [] g := by
  intro H locs ls hw hS hl
  unfold bX0_remember_55 at hf
  obtain ⟨hx, hb, hml, hr, hown, htw, hlocks, hE⟩ := id C
  have hown : s.vm.findClass RX0 = some m.cls := hown
  refine lv_iload_n hx hb dX0_remember_55 rfl (lv_at hl 1 rfl) ?_
  refine lv_aload_n hx hb dX0_remember_56 rfl (lv_at hl 0 rfl) ?_
  refine va_get (ci := 0) (v := .ref (ad Γ (gr (g 1) 0))) (C := RX0) (T := TX0) (N := 12) hx hb htw uwX0 hown hE.1 (hw _ _ (wf_1 hE)) 0 rfl rfl 0 (by decide) (htw _ mw336) (fun _ h9 => h9) rfl dX0_remember_57 ?_
  obtain ⟨h1, hh1, hf⟩ := bd hf
  have hh1 := Option.some.inj hh1
  refine tp1r hh1 ?_
  obtain ⟨g2, hf⟩ := gd_some hf
  refine va_get (ci := 2) (v := .int (gi (g h1) 0)) (C := RX2) (T := TX2) (N := 11) hx hb htw uwX2 hown hE.1 (hw _ _ (hm_kd hE g2)) 0 rfl rfl 0 (by decide) (htw _ mw162) (fun _ h9 => h9) rfl dX0_remember_60 ?_
  refine lv_icmp_ge (tgt := 89) hx hb dX0_remember_63 (by decide) (fun c8 => ?_) (fun c8 => ?_)
  · have hf := ifp c8 hf
    obtain rfl := Option.some.inj hf
    have hq := hq.2 _ rfl
    subst hq
    exact rt_v C hw hS dX0_remember_89
  · have hf := ifn c8 hf
    refine lv_aload_n hx hb dX0_remember_66 rfl (lv_at hl 0 rfl) ?_
    refine lv_aload_n hx hb dX0_remember_67 rfl (lv_at hl 0 rfl) ?_
    refine va_get (ci := 0) (v := .int (gi (g 1) 11)) (C := RX0) (T := TX0) (N := 12) hx hb htw uwX0 hown hE.1 (hw _ _ (wf_1 hE)) 0 rfl rfl 11 (by decide) (htw _ mw349) (fun _ h9 => h9) rfl dX0_remember_68 ?_
    refine lv_aload_n hx hb dX0_remember_71 rfl (lv_at hl 0 rfl) ?_
    refine va_get (ci := 0) (v := .ref (aa Γ 1 1)) (C := RX0) (T := TX0) (N := 12) hx hb htw uwX0 hown hE.1 (hw _ _ (wf_1 hE)) 0 rfl rfl 1 (by decide) (htw _ mw337) (fun _ h9 => h9) rfl dX0_remember_72 ?_
    refine lv_iload_n hx hb dX0_remember_75 rfl (lv_at hl 1 rfl) ?_
    obtain ⟨g3, hf⟩ := gd_some hf
    refine va_iald hx hb hE.1 (hw _ _ (wf_1 hE)) 1 0 rfl rfl (inR_in g3) dX0_remember_76 ?_
    obtain ⟨x4, hx4, hf⟩ := bd hf
    have hx4 := Option.some.inj hx4
    refine tp2i hx4 ?_
    obtain ⟨x5, hx5, hf⟩ := bd hf
    have hx5 := Option.some.inj hx5
    refine tp1i hx5 ?_
    refine va_mmax hx hb (hml.trans hl.1.symm) hown (htw _ mw761) (htw _ mw225) (htw _ mw122) (htw _ mw226) (Nat.le_of_ble_eq_true rfl) (Nat.le_of_ble_eq_true rfl) (Nat.le_refl _) (Nat.le_refl _) dX0_remember_77 ?_
    obtain ⟨x6, hx6, hf⟩ := bd hf
    have hx6 := Option.some.inj hx6
    refine tp1i hx6 ?_
    obtain ⟨g7, hg7, hf⟩ := bd hf
    have hg7 := Option.some.inj hg7
    refine wo_putG (C := RX0) (T := TX0) (N := 12) (v := .int x6) (ty := .int) hx hb htw uwX0 tyX0 tyX0_ok nmX0 hown hE hw hS (wf_1 hE) rfl rfl 11 (by decide) (htw _ mw349) (fun _ h9 => h9) rfl (tyX0_ok 11 (by decide)) rfl rfl (Nat.le_of_ble_eq_true rfl) (st0_11 rfl) hg7 dX0_remember_80 (fun H locs hw hS => ?_)
    refine lv_iinc (v := v3 + 1) (lv' := [(3, .int (v3 + 1)), (0, .ref (ad Γ 1))]) hx hb dX0_remember_83 hl (k := 1) rfl (by rfl) (by decide) rfl (fun ls hl => ?_)
    refine lv_goto (tgt := 55) hx hb dX0_remember_86 (by decide) ?_
    obtain rfl := Option.some.inj hf
    exact hq.1 _ rfl H locs ls hw hS (lv_sub hl [1, 0] rfl)

set_option maxRecDepth 100000 in
set_option maxHeartbeats 4000000 in
theorem lwX0_remember_55 {p : Program} {l : Launch} {e : Env} {s : State} {m : MethodId} {args : Array Value} {below : List Frame} {meth : Method} {c : Code} {Γ : Gm} {A : Nat → Prop} {g : Gs} {v3 : Int32} {q : Gs} {fin : Gs} (C : Cx p s m args meth c yX0_remember cX0_remember 4 none Γ A) (hf : iter (fun st : Int32 × Gs => bX0_remember_55 st.2 st.1) (v3, g) = some q) (hq : (fun x => x = fin) q) : Wk p l e { frames := 1, cells := 0, slots := 0, locals := 23 } s m args below meth c Γ A fin none 55 4 [(0, .ref (ad Γ 1)), (3, .int v3)] [] g := by
  intro H locs ls hw hS hl
  refine iter_walk (P := (fun st : Int32 × Gs => Wk p l e { frames := 1, cells := 0, slots := 0, locals := 23 } s m args below meth c Γ A fin none 55 4 [(0, .ref (ad Γ 1)), (3, .int st.1)] [] st.2)) (K := (fun x => x = fin)) (fun st q hq1 h1 h2 => ?_) hf hq H locs ls hw hS hl
  exact wX0_remember_55 (g := st.2) (v3 := st.1) C hq1 ⟨h1, h2⟩

noncomputable def bX0_remember_53 (g : Gs) : Option Gs :=
  iter (fun st : Int32 × Gs => bX0_remember_55 st.2 st.1) (0, g)
set_option maxRecDepth 100000 in
set_option maxHeartbeats 4000000 in
theorem wX0_remember_53 {p : Program} {l : Launch} {e : Env} {s : State} {m : MethodId} {args : Array Value} {below : List Frame} {meth : Method} {c : Code} {Γ : Gm} {A : Nat → Prop} {g : Gs} {q : Gs} {fin : Gs} (C : Cx p s m args meth c yX0_remember cX0_remember 4 none Γ A) (hf : bX0_remember_53 g = some q) (hq : (fun x => x = fin) q) : Wk p l e { frames := 1, cells := 0, slots := 0, locals := 23 } s m args below meth c Γ A fin none 53 4 [(0, .ref (ad Γ 1))] [] g := by
  intro H locs ls hw hS hl
  unfold bX0_remember_53 at hf
  obtain ⟨hx, hb, hml, hr, hown, htw, hlocks, hE⟩ := id C
  have hown : s.vm.findClass RX0 = some m.cls := hown
  refine lv_iconst (v := 0) hx hb dX0_remember_53 (by decide) ?_
  refine lv_istore_n (lv' := [(3, .int 0), (0, .ref (ad Γ 1))]) hx hb dX0_remember_54 rfl hl (by decide) rfl (fun ls hl => ?_)
  exact lwX0_remember_55 C hf hq H locs ls hw hS (lv_sub hl [1, 0] rfl)

noncomputable def bX0_remember_33 (g : Gs) (v1 : Int32) : Option Gs :=
  if (gi (g 1) 10) = (-1) then (fX0_isDusk g).bind fun z9 => if z9 = 0 then bX0_remember_53 g else (some (ug g 1 (si (g 1) 10 v1))).bind fun g10 => bX0_remember_53 g10 else bX0_remember_53 g
set_option maxRecDepth 100000 in
set_option maxHeartbeats 4000000 in
theorem wX0_remember_33 {p : Program} {l : Launch} {e : Env} {s : State} {m : MethodId} {args : Array Value} {below : List Frame} {meth : Method} {c : Code} {Γ : Gm} {A : Nat → Prop} {g : Gs} {v1 : Int32} {q : Gs} {fin : Gs} (C : Cx p s m args meth c yX0_remember cX0_remember 4 none Γ A) (hf : bX0_remember_33 g v1 = some q) (hq : (fun x => x = fin) q) : Wk p l e { frames := 1, cells := 0, slots := 0, locals := 23 } s m args below meth c Γ A fin none 33 4 [(0, .ref (ad Γ 1)), (1, .int v1)] [] g := by
  intro H locs ls hw hS hl
  unfold bX0_remember_33 at hf
  obtain ⟨hx, hb, hml, hr, hown, htw, hlocks, hE⟩ := id C
  have hown : s.vm.findClass RX0 = some m.cls := hown
  refine lv_aload_n hx hb dX0_remember_33 rfl (lv_at hl 0 rfl) ?_
  refine va_get (ci := 0) (v := .int (gi (g 1) 10)) (C := RX0) (T := TX0) (N := 12) hx hb htw uwX0 hown hE.1 (hw _ _ (wf_1 hE)) 0 rfl rfl 10 (by decide) (htw _ mw347) (fun _ h9 => h9) rfl dX0_remember_34 ?_
  refine lv_iconst (v := (-1)) hx hb dX0_remember_37 (by decide) ?_
  refine lv_icmp_ne (tgt := 53) hx hb dX0_remember_38 (by decide) (fun c12 => ?_) (fun c12 => ?_)
  · have hf := ifn c12 hf
    exact wX0_remember_53 C hf hq H locs ls hw hS (lv_sub hl [0] rfl)
  · have hf := ifp c12 hf
    refine lv_aload_n hx hb dX0_remember_41 rfl (lv_at hl 0 rfl) ?_
    obtain ⟨z9, hz9, hf⟩ := bd hf
    refine cl_Vs (rest := []) (kX0_isDusk (l := l) (Γ := Γ) (A := A) hz9) ⟨hx, hb, hml, hown, htw⟩ hE hw hS (hw _ _ (wf_1 hE)) (q0 := 0) rfl rfl mw757 mw759 mw20 mw124 mw760 pdX0_isDusk ⟨Nat.le_of_ble_eq_true rfl, Nat.le_of_ble_eq_true rfl⟩ rfl rfl hl.1 (Nat.le_of_ble_eq_true rfl) dX0_remember_42 (fun H locs hw hS => ?_)
    refine lv_if_eq (tgt := 53) hx hb dX0_remember_45 (by decide) (fun c11 => ?_) (fun c11 => ?_)
    · have hf := ifp c11 hf
      exact wX0_remember_53 C hf hq H locs ls hw hS (lv_sub hl [0] rfl)
    · have hf := ifn c11 hf
      refine lv_aload_n hx hb dX0_remember_48 rfl (lv_at hl 0 rfl) ?_
      refine lv_iload_n hx hb dX0_remember_49 rfl (lv_at hl 1 rfl) ?_
      obtain ⟨g10, hg10, hf⟩ := bd hf
      have hg10 := Option.some.inj hg10
      refine wo_putG (C := RX0) (T := TX0) (N := 12) (v := .int v1) (ty := .int) hx hb htw uwX0 tyX0 tyX0_ok nmX0 hown hE hw hS (wf_1 hE) rfl rfl 10 (by decide) (htw _ mw347) (fun _ h9 => h9) rfl (tyX0_ok 10 (by decide)) rfl rfl (Nat.le_of_ble_eq_true rfl) (st0_10 rfl) hg10 dX0_remember_50 (fun H locs hw hS => ?_)
      exact wX0_remember_53 C hf hq H locs ls hw hS (lv_sub hl [0] rfl)

noncomputable def fX0_remember (g : Gs) (v1 : Int32) : Option Gs :=
  (fX0_brightest g).bind fun z13 => if z13 = (-1) then (some (ug g 1 (si (g 1) 9 ((gi (g 1) 9) + 1)))).bind fun g17 => bX0_remember_33 g17 v1 else gd (inR z13 8) (gd (inR z13 8) ((some (ug g 1 (sa (g 1) 4 (upd (ga (g 1) 4) (Int32.toNatClampNeg z13) ((ga (g 1) 4 (Int32.toNatClampNeg z13)) + 1))))).bind fun g16 => bX0_remember_33 g16 v1))
set_option maxRecDepth 100000 in
set_option maxHeartbeats 4000000 in
theorem wX0_remember_e {p : Program} {l : Launch} {e : Env} {s : State} {m : MethodId} {args : Array Value} {below : List Frame} {meth : Method} {c : Code} {Γ : Gm} {A : Nat → Prop} {g : Gs} {v1 : Int32} {q : Gs} {fin : Gs} (C : Cx p s m args meth c yX0_remember cX0_remember 4 none Γ A) (hf : fX0_remember g v1 = some q) (hq : (fun x => x = fin) q) : Wk p l e { frames := 1, cells := 0, slots := 0, locals := 23 } s m args below meth c Γ A fin none 0 4 [(0, .ref (ad Γ 1)), (1, .int v1)] [] g := by
  intro H locs ls hw hS hl
  unfold fX0_remember at hf
  obtain ⟨hx, hb, hml, hr, hown, htw, hlocks, hE⟩ := id C
  have hown : s.vm.findClass RX0 = some m.cls := hown
  refine lv_aload_n hx hb dX0_remember_0 rfl (lv_at hl 0 rfl) ?_
  obtain ⟨z13, hz13, hf⟩ := bd hf
  refine cl_Vs (rest := []) (kX0_brightest (l := l) (Γ := Γ) (A := A) hz13) ⟨hx, hb, hml, hown, htw⟩ hE hw hS (hw _ _ (wf_1 hE)) (q0 := 0) rfl rfl mw753 mw755 mw19 mw124 mw756 pdX0_brightest ⟨Nat.le_of_ble_eq_true rfl, Nat.le_of_ble_eq_true rfl⟩ rfl rfl hl.1 (Nat.le_of_ble_eq_true rfl) dX0_remember_1 (fun H locs hw hS => ?_)
  refine lv_istore_n (lv' := [(2, .int z13), (0, .ref (ad Γ 1)), (1, .int v1)]) hx hb dX0_remember_4 rfl hl (by decide) rfl (fun ls hl => ?_)
  refine lv_iload_n hx hb dX0_remember_5 rfl (lv_at hl 0 rfl) ?_
  refine lv_iconst (v := (-1)) hx hb dX0_remember_6 (by decide) ?_
  refine lv_icmp_ne (tgt := 23) hx hb dX0_remember_7 (by decide) (fun c18 => ?_) (fun c18 => ?_)
  · have hf := ifn c18 hf
    refine lv_aload_n hx hb dX0_remember_23 rfl (lv_at hl 1 rfl) ?_
    refine va_get (ci := 0) (v := .ref (aa Γ 1 4)) (C := RX0) (T := TX0) (N := 12) hx hb htw uwX0 hown hE.1 (hw _ _ (wf_1 hE)) 0 rfl rfl 4 (by decide) (htw _ mw340) (fun _ h9 => h9) rfl dX0_remember_24 ?_
    refine lv_iload_n hx hb dX0_remember_27 rfl (lv_at hl 0 rfl) ?_
    refine lv_dup2_11 hx hb dX0_remember_28 rfl rfl ?_
    obtain ⟨g14, hf⟩ := gd_some hf
    refine va_iald hx hb hE.1 (hw _ _ (wf_1 hE)) 4 0 rfl rfl (inR_in g14) dX0_remember_29 ?_
    refine lv_iconst (v := 1) hx hb dX0_remember_30 (by decide) ?_
    refine lv_iadd hx hb dX0_remember_31 ?_
    obtain ⟨g15, hf⟩ := gd_some hf
    obtain ⟨g16, hg16, hf⟩ := bd hf
    have hg16 := Option.some.inj hg16
    refine wo_iastG hx hb hE hw hS (wf_1 hE) (q0 := 4) rfl (inR_in g15) (sa0_4 rfl) hg16 dX0_remember_32 (fun H locs hw hS => ?_)
    exact wX0_remember_33 C hf hq H locs ls hw hS (lv_sub hl [1, 2] rfl)
  · have hf := ifp c18 hf
    refine lv_aload_n hx hb dX0_remember_10 rfl (lv_at hl 1 rfl) ?_
    refine lv_dup hx hb dX0_remember_11 rfl ?_
    refine va_get (ci := 0) (v := .int (gi (g 1) 9)) (C := RX0) (T := TX0) (N := 12) hx hb htw uwX0 hown hE.1 (hw _ _ (wf_1 hE)) 0 rfl rfl 9 (by decide) (htw _ mw345) (fun _ h9 => h9) rfl dX0_remember_12 ?_
    refine lv_iconst (v := 1) hx hb dX0_remember_15 (by decide) ?_
    refine lv_iadd hx hb dX0_remember_16 ?_
    obtain ⟨g17, hg17, hf⟩ := bd hf
    have hg17 := Option.some.inj hg17
    refine wo_putG (C := RX0) (T := TX0) (N := 12) (v := .int ((gi (g 1) 9) + 1)) (ty := .int) hx hb htw uwX0 tyX0 tyX0_ok nmX0 hown hE hw hS (wf_1 hE) rfl rfl 9 (by decide) (htw _ mw345) (fun _ h9 => h9) rfl (tyX0_ok 9 (by decide)) rfl rfl (Nat.le_of_ble_eq_true rfl) (st0_9 rfl) hg17 dX0_remember_17 (fun H locs hw hS => ?_)
    refine lv_goto (tgt := 33) hx hb dX0_remember_20 (by decide) ?_
    exact wX0_remember_33 C hf hq H locs ls hw hS (lv_sub hl [1, 2] rfl)

theorem kX0_remember {l : Launch} {Γ : Gm} {A : Nat → Prop} {g : Gs} {v1 : Int32} {fin : Gs} (hf : fX0_remember g v1 = some fin) : Kt l yX0_remember cX0_remember 4 none 1 23 Γ A g fin [.ref (ad Γ 1), .int v1] none :=
  kt_of (by decide) (Nat.le_of_ble_eq_true rfl) (fun p e s m args below meth c C => wX0_remember_e C hf rfl)
noncomputable def fX5_hasRow (r : Rec) (v1 : Int32) : Option Int32 :=
  if v1 < 0 then some (0) else if (gi r 2) ≤ v1 then some (0) else some (1)
set_option maxRecDepth 100000 in
set_option maxHeartbeats 4000000 in
theorem wX5_hasRow_e {p : Program} {l : Launch} {e : Env} {s : State} {m : MethodId} {args : Array Value} {below : List Frame} {meth : Method} {c : Code} {Γ : Gm} {A : Nat → Prop} {G : Gs} {o : Nat} {r : Rec} {v1 : Int32} {q : Int32} {fin : Int32} (C : Cx p s m args meth c yX5_hasRow cX5_hasRow 2 (some .boolean) Γ A) (hk : kd Γ o = some 5) (hf : fX5_hasRow r v1 = some q) (hq : (fun x => x = fin) q) : Wk p l e { frames := 0, cells := 0, slots := 0, locals := 0 } s m args below meth c Γ A (ug G o r) (some (.int fin)) 0 2 [(0, .ref (ad Γ o)), (1, .int v1)] [] (ug G o r) := by
  intro H locs ls hw hS hl
  unfold fX5_hasRow at hf
  obtain ⟨hx, hb, hml, hr, hown, htw, hlocks, hE⟩ := id C
  have hown : s.vm.findClass RX5 = some m.cls := hown
  refine lv_iload_n hx hb dX5_hasRow_0 rfl (lv_at hl 1 rfl) ?_
  refine lv_if_lt (tgt := 16) hx hb dX5_hasRow_1 (by decide) (fun c2 => ?_) (fun c2 => ?_)
  · have hf := ifp c2 hf
    refine lv_iconst (v := 0) hx hb dX5_hasRow_16 (by decide) ?_
    obtain rfl := Option.some.inj hf
    subst hq
    exact rt_z C (Or.inl rfl) hw hS dX5_hasRow_17
  · have hf := ifn c2 hf
    refine lv_iload_n hx hb dX5_hasRow_4 rfl (lv_at hl 1 rfl) ?_
    refine lv_aload_n hx hb dX5_hasRow_5 rfl (lv_at hl 0 rfl) ?_
    refine va_get (ci := 5) (v := .int (gi r 2)) (C := RX5) (T := TX5) (N := 3) hx hb htw uwX5 hown hE.1 (wo_me hw hk) 0 rfl rfl 2 (by decide) (htw _ mw229) (fun _ h9 => h9) rfl dX5_hasRow_6 ?_
    refine lv_icmp_ge (tgt := 16) hx hb dX5_hasRow_9 (by decide) (fun c1 => ?_) (fun c1 => ?_)
    · have hf := ifp c1 hf
      refine lv_iconst (v := 0) hx hb dX5_hasRow_16 (by decide) ?_
      obtain rfl := Option.some.inj hf
      subst hq
      exact rt_z C (Or.inl rfl) hw hS dX5_hasRow_17
    · have hf := ifn c1 hf
      refine lv_iconst (v := 1) hx hb dX5_hasRow_12 (by decide) ?_
      refine lv_goto (tgt := 17) hx hb dX5_hasRow_13 (by decide) ?_
      obtain rfl := Option.some.inj hf
      subst hq
      exact rt_z C (Or.inr rfl) hw hS dX5_hasRow_17

theorem kX5_hasRow {l : Launch} {Γ : Gm} {A : Nat → Prop} {G : Gs} {o : Nat} {r : Rec} {v1 : Int32} {fin : Int32} (hk : kd Γ o = some 5) (hf : fX5_hasRow r v1 = some fin) : Kt l yX5_hasRow cX5_hasRow 2 (some .boolean) 0 0 Γ A (ug G o r) (ug G o r) [.ref (ad Γ o), .int v1] (some (.int fin)) :=
  kt_of (by decide) (Nat.le_of_ble_eq_true rfl) (fun p e s m args below meth c C => wX5_hasRow_e C hk hf rfl)
theorem kgX5_hasRow {l : Launch} {Γ : Gm} {A : Nat → Prop} {G : Gs} {o : Nat} {v1 : Int32} {fin : Int32} (hk : kd Γ o = some 5) (hf : fX5_hasRow (G o) v1 = some fin) : Kt l yX5_hasRow cX5_hasRow 2 (some .boolean) 0 0 Γ A G G [.ref (ad Γ o), .int v1] (some (.int fin)) := by
  have h := kX5_hasRow (l := l) (A := A) (G := G) (r := G o) hk hf
  rw [ug_self] at h
  exact h
noncomputable def fX5_cell (r : Rec) (v1 : Int32) (v2 : Int32) : Option Int32 :=
  (fX5_hasRow r v1).bind fun z1 => if z1 = 0 then some ((-1)) else if v2 < 0 then some ((-1)) else if 4 ≤ v2 then some ((-1)) else gd (inR ((v1 * 4) + v2) (4 * Int32.toNatClampNeg (gi r 0))) (some (ga r 1 (Int32.toNatClampNeg ((v1 * 4) + v2))))
set_option maxRecDepth 100000 in
set_option maxHeartbeats 4000000 in
theorem wX5_cell_e {p : Program} {l : Launch} {e : Env} {s : State} {m : MethodId} {args : Array Value} {below : List Frame} {meth : Method} {c : Code} {Γ : Gm} {A : Nat → Prop} {G : Gs} {o : Nat} {r : Rec} {v1 : Int32} {v2 : Int32} {q : Int32} {fin : Int32} (C : Cx p s m args meth c yX5_cell cX5_cell 3 (some .int) Γ A) (hk : kd Γ o = some 5) (hf : fX5_cell r v1 v2 = some q) (hq : (fun x => x = fin) q) : Wk p l e { frames := 1, cells := 0, slots := 0, locals := 21 } s m args below meth c Γ A (ug G o r) (some (.int fin)) 0 3 [(0, .ref (ad Γ o)), (1, .int v1), (2, .int v2)] [] (ug G o r) := by
  intro H locs ls hw hS hl
  unfold fX5_cell at hf
  obtain ⟨hx, hb, hml, hr, hown, htw, hlocks, hE⟩ := id C
  have hown : s.vm.findClass RX5 = some m.cls := hown
  refine lv_aload_n hx hb dX5_cell_0 rfl (lv_at hl 0 rfl) ?_
  refine lv_iload_n hx hb dX5_cell_1 rfl (lv_at hl 1 rfl) ?_
  obtain ⟨z1, hz1, hf⟩ := bd hf
  refine cl_Vs (rest := []) (kX5_hasRow (l := l) (Γ := Γ) (A := A) (G := G) (o := o) hk hz1) ⟨hx, hb, hml, hown, htw⟩ hE hw hS (wo_me hw hk) (q0 := 0) rfl rfl mw734 mw727 mw728 mw121 mw729 pdX5_hasRow ⟨Nat.le_of_ble_eq_true rfl, Nat.le_of_ble_eq_true rfl⟩ rfl rfl hl.1 (Nat.le_of_ble_eq_true rfl) dX5_cell_2 (fun H locs hw hS => ?_)
  refine lv_if_eq (tgt := 30) hx hb dX5_cell_5 (by decide) (fun c5 => ?_) (fun c5 => ?_)
  · have hf := ifp c5 hf
    refine lv_iconst (v := (-1)) hx hb dX5_cell_30 (by decide) ?_
    obtain rfl := Option.some.inj hf
    subst hq
    exact rt_i C hw hS dX5_cell_31
  · have hf := ifn c5 hf
    refine lv_iload_n hx hb dX5_cell_8 rfl (lv_at hl 2 rfl) ?_
    refine lv_if_lt (tgt := 30) hx hb dX5_cell_9 (by decide) (fun c4 => ?_) (fun c4 => ?_)
    · have hf := ifp c4 hf
      refine lv_iconst (v := (-1)) hx hb dX5_cell_30 (by decide) ?_
      obtain rfl := Option.some.inj hf
      subst hq
      exact rt_i C hw hS dX5_cell_31
    · have hf := ifn c4 hf
      refine lv_iload_n hx hb dX5_cell_12 rfl (lv_at hl 2 rfl) ?_
      refine lv_iconst (v := 4) hx hb dX5_cell_13 (by decide) ?_
      refine lv_icmp_ge (tgt := 30) hx hb dX5_cell_14 (by decide) (fun c3 => ?_) (fun c3 => ?_)
      · have hf := ifp c3 hf
        refine lv_iconst (v := (-1)) hx hb dX5_cell_30 (by decide) ?_
        obtain rfl := Option.some.inj hf
        subst hq
        exact rt_i C hw hS dX5_cell_31
      · have hf := ifn c3 hf
        refine lv_aload_n hx hb dX5_cell_17 rfl (lv_at hl 0 rfl) ?_
        refine va_get (ci := 5) (v := .ref (aa Γ o 1)) (C := RX5) (T := TX5) (N := 3) hx hb htw uwX5 hown hE.1 (wo_me hw hk) 0 rfl rfl 1 (by decide) (htw _ mw228) (fun _ h9 => h9) rfl dX5_cell_18 ?_
        refine lv_iload_n hx hb dX5_cell_21 rfl (lv_at hl 1 rfl) ?_
        refine lv_iconst (v := 4) hx hb dX5_cell_22 (by decide) ?_
        refine lv_imul hx hb dX5_cell_23 ?_
        refine lv_iload_n hx hb dX5_cell_24 rfl (lv_at hl 2 rfl) ?_
        refine lv_iadd hx hb dX5_cell_25 ?_
        obtain ⟨g2, hf⟩ := gd_some hf
        refine va_iald hx hb hE.1 (wo_me hw hk) 1 0 rfl rfl (inR_in g2) dX5_cell_26 ?_
        refine lv_goto (tgt := 31) hx hb dX5_cell_27 (by decide) ?_
        obtain rfl := Option.some.inj hf
        subst hq
        exact rt_i C hw hS dX5_cell_31

theorem kX5_cell {l : Launch} {Γ : Gm} {A : Nat → Prop} {G : Gs} {o : Nat} {r : Rec} {v1 : Int32} {v2 : Int32} {fin : Int32} (hk : kd Γ o = some 5) (hf : fX5_cell r v1 v2 = some fin) : Kt l yX5_cell cX5_cell 3 (some .int) 1 21 Γ A (ug G o r) (ug G o r) [.ref (ad Γ o), .int v1, .int v2] (some (.int fin)) :=
  kt_of (by decide) (Nat.le_of_ble_eq_true rfl) (fun p e s m args below meth c C => wX5_cell_e C hk hf rfl)
theorem kgX5_cell {l : Launch} {Γ : Gm} {A : Nat → Prop} {G : Gs} {o : Nat} {v1 : Int32} {v2 : Int32} {fin : Int32} (hk : kd Γ o = some 5) (hf : fX5_cell (G o) v1 v2 = some fin) : Kt l yX5_cell cX5_cell 3 (some .int) 1 21 Γ A G G [.ref (ad Γ o), .int v1, .int v2] (some (.int fin)) := by
  have h := kX5_cell (l := l) (A := A) (G := G) (r := G o) hk hf
  rw [ug_self] at h
  exact h
noncomputable def fX2_hasSecret (r : Rec) (v1 : Int32) : Option Int32 :=
  if v1 < 0 then some (0) else if (gi r 1) ≤ v1 then some (0) else some (1)
set_option maxRecDepth 100000 in
set_option maxHeartbeats 4000000 in
theorem wX2_hasSecret_e {p : Program} {l : Launch} {e : Env} {s : State} {m : MethodId} {args : Array Value} {below : List Frame} {meth : Method} {c : Code} {Γ : Gm} {A : Nat → Prop} {G : Gs} {o : Nat} {r : Rec} {v1 : Int32} {q : Int32} {fin : Int32} (C : Cx p s m args meth c yX2_hasSecret cX2_hasSecret 2 (some .boolean) Γ A) (hk : kd Γ o = some 2) (hf : fX2_hasSecret r v1 = some q) (hq : (fun x => x = fin) q) : Wk p l e { frames := 0, cells := 0, slots := 0, locals := 0 } s m args below meth c Γ A (ug G o r) (some (.int fin)) 0 2 [(0, .ref (ad Γ o)), (1, .int v1)] [] (ug G o r) := by
  intro H locs ls hw hS hl
  unfold fX2_hasSecret at hf
  obtain ⟨hx, hb, hml, hr, hown, htw, hlocks, hE⟩ := id C
  have hown : s.vm.findClass RX2 = some m.cls := hown
  refine lv_iload_n hx hb dX2_hasSecret_0 rfl (lv_at hl 1 rfl) ?_
  refine lv_if_lt (tgt := 16) hx hb dX2_hasSecret_1 (by decide) (fun c2 => ?_) (fun c2 => ?_)
  · have hf := ifp c2 hf
    refine lv_iconst (v := 0) hx hb dX2_hasSecret_16 (by decide) ?_
    obtain rfl := Option.some.inj hf
    subst hq
    exact rt_z C (Or.inl rfl) hw hS dX2_hasSecret_17
  · have hf := ifn c2 hf
    refine lv_iload_n hx hb dX2_hasSecret_4 rfl (lv_at hl 1 rfl) ?_
    refine lv_aload_n hx hb dX2_hasSecret_5 rfl (lv_at hl 0 rfl) ?_
    refine va_get (ci := 2) (v := .int (gi r 1)) (C := RX2) (T := TX2) (N := 11) hx hb htw uwX2 hown hE.1 (wo_me hw hk) 0 rfl rfl 1 (by decide) (htw _ mw165) (fun _ h9 => h9) rfl dX2_hasSecret_6 ?_
    refine lv_icmp_ge (tgt := 16) hx hb dX2_hasSecret_9 (by decide) (fun c1 => ?_) (fun c1 => ?_)
    · have hf := ifp c1 hf
      refine lv_iconst (v := 0) hx hb dX2_hasSecret_16 (by decide) ?_
      obtain rfl := Option.some.inj hf
      subst hq
      exact rt_z C (Or.inl rfl) hw hS dX2_hasSecret_17
    · have hf := ifn c1 hf
      refine lv_iconst (v := 1) hx hb dX2_hasSecret_12 (by decide) ?_
      refine lv_goto (tgt := 17) hx hb dX2_hasSecret_13 (by decide) ?_
      obtain rfl := Option.some.inj hf
      subst hq
      exact rt_z C (Or.inr rfl) hw hS dX2_hasSecret_17

theorem kX2_hasSecret {l : Launch} {Γ : Gm} {A : Nat → Prop} {G : Gs} {o : Nat} {r : Rec} {v1 : Int32} {fin : Int32} (hk : kd Γ o = some 2) (hf : fX2_hasSecret r v1 = some fin) : Kt l yX2_hasSecret cX2_hasSecret 2 (some .boolean) 0 0 Γ A (ug G o r) (ug G o r) [.ref (ad Γ o), .int v1] (some (.int fin)) :=
  kt_of (by decide) (Nat.le_of_ble_eq_true rfl) (fun p e s m args below meth c C => wX2_hasSecret_e C hk hf rfl)
theorem kgX2_hasSecret {l : Launch} {Γ : Gm} {A : Nat → Prop} {G : Gs} {o : Nat} {v1 : Int32} {fin : Int32} (hk : kd Γ o = some 2) (hf : fX2_hasSecret (G o) v1 = some fin) : Kt l yX2_hasSecret cX2_hasSecret 2 (some .boolean) 0 0 Γ A G G [.ref (ad Γ o), .int v1] (some (.int fin)) := by
  have h := kX2_hasSecret (l := l) (A := A) (G := G) (r := G o) hk hf
  rw [ug_self] at h
  exact h
noncomputable def fX2_hasPiece (r : Rec) (v1 : Int32) : Option Int32 :=
  if v1 < 0 then some (0) else if (gi r 0) ≤ v1 then some (0) else some (1)
set_option maxRecDepth 100000 in
set_option maxHeartbeats 4000000 in
theorem wX2_hasPiece_e {p : Program} {l : Launch} {e : Env} {s : State} {m : MethodId} {args : Array Value} {below : List Frame} {meth : Method} {c : Code} {Γ : Gm} {A : Nat → Prop} {G : Gs} {o : Nat} {r : Rec} {v1 : Int32} {q : Int32} {fin : Int32} (C : Cx p s m args meth c yX2_hasPiece cX2_hasPiece 2 (some .boolean) Γ A) (hk : kd Γ o = some 2) (hf : fX2_hasPiece r v1 = some q) (hq : (fun x => x = fin) q) : Wk p l e { frames := 0, cells := 0, slots := 0, locals := 0 } s m args below meth c Γ A (ug G o r) (some (.int fin)) 0 2 [(0, .ref (ad Γ o)), (1, .int v1)] [] (ug G o r) := by
  intro H locs ls hw hS hl
  unfold fX2_hasPiece at hf
  obtain ⟨hx, hb, hml, hr, hown, htw, hlocks, hE⟩ := id C
  have hown : s.vm.findClass RX2 = some m.cls := hown
  refine lv_iload_n hx hb dX2_hasPiece_0 rfl (lv_at hl 1 rfl) ?_
  refine lv_if_lt (tgt := 16) hx hb dX2_hasPiece_1 (by decide) (fun c2 => ?_) (fun c2 => ?_)
  · have hf := ifp c2 hf
    refine lv_iconst (v := 0) hx hb dX2_hasPiece_16 (by decide) ?_
    obtain rfl := Option.some.inj hf
    subst hq
    exact rt_z C (Or.inl rfl) hw hS dX2_hasPiece_17
  · have hf := ifn c2 hf
    refine lv_iload_n hx hb dX2_hasPiece_4 rfl (lv_at hl 1 rfl) ?_
    refine lv_aload_n hx hb dX2_hasPiece_5 rfl (lv_at hl 0 rfl) ?_
    refine va_get (ci := 2) (v := .int (gi r 0)) (C := RX2) (T := TX2) (N := 11) hx hb htw uwX2 hown hE.1 (wo_me hw hk) 0 rfl rfl 0 (by decide) (htw _ mw160) (fun _ h9 => h9) rfl dX2_hasPiece_6 ?_
    refine lv_icmp_ge (tgt := 16) hx hb dX2_hasPiece_9 (by decide) (fun c1 => ?_) (fun c1 => ?_)
    · have hf := ifp c1 hf
      refine lv_iconst (v := 0) hx hb dX2_hasPiece_16 (by decide) ?_
      obtain rfl := Option.some.inj hf
      subst hq
      exact rt_z C (Or.inl rfl) hw hS dX2_hasPiece_17
    · have hf := ifn c1 hf
      refine lv_iconst (v := 1) hx hb dX2_hasPiece_12 (by decide) ?_
      refine lv_goto (tgt := 17) hx hb dX2_hasPiece_13 (by decide) ?_
      obtain rfl := Option.some.inj hf
      subst hq
      exact rt_z C (Or.inr rfl) hw hS dX2_hasPiece_17

theorem kX2_hasPiece {l : Launch} {Γ : Gm} {A : Nat → Prop} {G : Gs} {o : Nat} {r : Rec} {v1 : Int32} {fin : Int32} (hk : kd Γ o = some 2) (hf : fX2_hasPiece r v1 = some fin) : Kt l yX2_hasPiece cX2_hasPiece 2 (some .boolean) 0 0 Γ A (ug G o r) (ug G o r) [.ref (ad Γ o), .int v1] (some (.int fin)) :=
  kt_of (by decide) (Nat.le_of_ble_eq_true rfl) (fun p e s m args below meth c C => wX2_hasPiece_e C hk hf rfl)
theorem kgX2_hasPiece {l : Launch} {Γ : Gm} {A : Nat → Prop} {G : Gs} {o : Nat} {v1 : Int32} {fin : Int32} (hk : kd Γ o = some 2) (hf : fX2_hasPiece (G o) v1 = some fin) : Kt l yX2_hasPiece cX2_hasPiece 2 (some .boolean) 0 0 Γ A G G [.ref (ad Γ o), .int v1] (some (.int fin)) := by
  have h := kX2_hasPiece (l := l) (A := A) (G := G) (r := G o) hk hf
  rw [ug_self] at h
  exact h
noncomputable def fX9_hasBit (v0 : Int32) (v1 : Int32) : Option Int32 :=
  if ((v0 >>> (v1 &&& 31)) &&& 1) = 0 then some (0) else some (1)
set_option maxRecDepth 100000 in
set_option maxHeartbeats 4000000 in
theorem wX9_hasBit_e {p : Program} {l : Launch} {e : Env} {s : State} {m : MethodId} {args : Array Value} {below : List Frame} {meth : Method} {c : Code} {Γ : Gm} {A : Nat → Prop} {G : Gs} {v0 : Int32} {v1 : Int32} {q : Int32} {fin : Int32} (C : Cx p s m args meth c yX9_hasBit cX9_hasBit 2 (some .boolean) Γ A) (hf : fX9_hasBit v0 v1 = some q) (hq : (fun x => x = fin) q) : Wk p l e { frames := 0, cells := 0, slots := 0, locals := 0 } s m args below meth c Γ A G (some (.int fin)) 0 2 [(0, .int v0), (1, .int v1)] [] G := by
  intro H locs ls hw hS hl
  unfold fX9_hasBit at hf
  obtain ⟨hx, hb, hml, hr, hown, htw, hlocks, hE⟩ := id C
  have hown : s.vm.findClass RX9 = some m.cls := hown
  refine lv_iload_n hx hb dX9_hasBit_0 rfl (lv_at hl 0 rfl) ?_
  refine lv_iload_n hx hb dX9_hasBit_1 rfl (lv_at hl 1 rfl) ?_
  refine lv_ishr hx hb dX9_hasBit_2 ?_
  refine lv_iconst (v := 1) hx hb dX9_hasBit_3 (by decide) ?_
  refine lv_iand hx hb dX9_hasBit_4 ?_
  refine lv_if_eq (tgt := 12) hx hb dX9_hasBit_5 (by decide) (fun c1 => ?_) (fun c1 => ?_)
  · have hf := ifp c1 hf
    refine lv_iconst (v := 0) hx hb dX9_hasBit_12 (by decide) ?_
    obtain rfl := Option.some.inj hf
    subst hq
    exact rt_z C (Or.inl rfl) hw hS dX9_hasBit_13
  · have hf := ifn c1 hf
    refine lv_iconst (v := 1) hx hb dX9_hasBit_8 (by decide) ?_
    refine lv_goto (tgt := 13) hx hb dX9_hasBit_9 (by decide) ?_
    obtain rfl := Option.some.inj hf
    subst hq
    exact rt_z C (Or.inr rfl) hw hS dX9_hasBit_13

theorem kX9_hasBit {l : Launch} {Γ : Gm} {A : Nat → Prop} {G : Gs} {v0 : Int32} {v1 : Int32} {fin : Int32} (hf : fX9_hasBit v0 v1 = some fin) : Kt l yX9_hasBit cX9_hasBit 2 (some .boolean) 0 0 Γ A G G [.int v0, .int v1] (some (.int fin)) :=
  kt_of (by decide) (Nat.le_of_ble_eq_true rfl) (fun p e s m args below meth c C => wX9_hasBit_e C hf rfl)
noncomputable def fX0_isThere (g : Gs) (v1 : Int32) : Option Int32 :=
  (some (gr (g 1) 0)).bind fun h1 => gd (isHm h1) ((fX2_hasPiece (g h1) v1).bind fun z3 => if z3 = 0 then some (0) else (fX9_hasBit (gi (g 1) 5) v1).bind fun z4 => if z4 = 0 then some (1) else some (0))
set_option maxRecDepth 100000 in
set_option maxHeartbeats 4000000 in
theorem wX0_isThere_e {p : Program} {l : Launch} {e : Env} {s : State} {m : MethodId} {args : Array Value} {below : List Frame} {meth : Method} {c : Code} {Γ : Gm} {A : Nat → Prop} {g : Gs} {v1 : Int32} {q : Int32} {fin : Int32} (C : Cx p s m args meth c yX0_isThere cX0_isThere 2 (some .boolean) Γ A) (hf : fX0_isThere g v1 = some q) (hq : (fun x => x = fin) q) : Wk p l e { frames := 1, cells := 0, slots := 0, locals := 21 } s m args below meth c Γ A g (some (.int fin)) 0 2 [(0, .ref (ad Γ 1)), (1, .int v1)] [] g := by
  intro H locs ls hw hS hl
  unfold fX0_isThere at hf
  obtain ⟨hx, hb, hml, hr, hown, htw, hlocks, hE⟩ := id C
  have hown : s.vm.findClass RX0 = some m.cls := hown
  refine lv_aload_n hx hb dX0_isThere_0 rfl (lv_at hl 0 rfl) ?_
  refine va_get (ci := 0) (v := .ref (ad Γ (gr (g 1) 0))) (C := RX0) (T := TX0) (N := 12) hx hb htw uwX0 hown hE.1 (hw _ _ (wf_1 hE)) 0 rfl rfl 0 (by decide) (htw _ mw336) (fun _ h9 => h9) rfl dX0_isThere_1 ?_
  obtain ⟨h1, hh1, hf⟩ := bd hf
  have hh1 := Option.some.inj hh1
  refine tp1r hh1 ?_
  obtain ⟨g2, hf⟩ := gd_some hf
  refine lv_iload_n hx hb dX0_isThere_4 rfl (lv_at hl 1 rfl) ?_
  obtain ⟨z3, hz3, hf⟩ := bd hf
  refine cl_Vs (rest := []) (kgX2_hasPiece (l := l) (Γ := Γ) (A := A) (G := g) (o := h1) (hm_kd hE g2) hz3) ⟨hx, hb, hml, hown, htw⟩ hE hw hS (hw _ _ (hm_kd hE g2)) (q0 := 0) rfl rfl mw776 mw683 mw684 mw120 mw685 pdX2_hasPiece ⟨Nat.le_of_ble_eq_true rfl, Nat.le_of_ble_eq_true rfl⟩ rfl rfl hl.1 (Nat.le_of_ble_eq_true rfl) dX0_isThere_5 (fun H locs hw hS => ?_)
  refine lv_if_eq (tgt := 26) hx hb dX0_isThere_8 (by decide) (fun c6 => ?_) (fun c6 => ?_)
  · have hf := ifp c6 hf
    refine lv_iconst (v := 0) hx hb dX0_isThere_26 (by decide) ?_
    obtain rfl := Option.some.inj hf
    subst hq
    exact rt_z C (Or.inl rfl) hw hS dX0_isThere_27
  · have hf := ifn c6 hf
    refine lv_aload_n hx hb dX0_isThere_11 rfl (lv_at hl 0 rfl) ?_
    refine va_get (ci := 0) (v := .int (gi (g 1) 5)) (C := RX0) (T := TX0) (N := 12) hx hb htw uwX0 hown hE.1 (hw _ _ (wf_1 hE)) 0 rfl rfl 5 (by decide) (htw _ mw341) (fun _ h9 => h9) rfl dX0_isThere_12 ?_
    refine lv_iload_n hx hb dX0_isThere_15 rfl (lv_at hl 1 rfl) ?_
    obtain ⟨z4, hz4, hf⟩ := bd hf
    refine cl_SN (rest := []) (kX9_hasBit (l := l) (Γ := Γ) (A := A) (G := g) hz4) ⟨hx, hb, hml, hown, htw⟩ hE hw hS (nw10 hE.2.2.1) mw717 mw118 mw718 pdX9_hasBit ⟨Nat.le_of_ble_eq_true rfl, Nat.le_of_ble_eq_true rfl⟩ rfl rfl hl.1 (Nat.le_of_ble_eq_true rfl) dX0_isThere_16 (fun H locs hw hS => ?_)
    refine lv_if_ne (tgt := 26) hx hb dX0_isThere_19 (by decide) (fun c5 => ?_) (fun c5 => ?_)
    · have hf := ifn c5 hf
      refine lv_iconst (v := 0) hx hb dX0_isThere_26 (by decide) ?_
      obtain rfl := Option.some.inj hf
      subst hq
      exact rt_z C (Or.inl rfl) hw hS dX0_isThere_27
    · have hf := ifp c5 hf
      refine lv_iconst (v := 1) hx hb dX0_isThere_22 (by decide) ?_
      refine lv_goto (tgt := 27) hx hb dX0_isThere_23 (by decide) ?_
      obtain rfl := Option.some.inj hf
      subst hq
      exact rt_z C (Or.inr rfl) hw hS dX0_isThere_27

theorem kX0_isThere {l : Launch} {Γ : Gm} {A : Nat → Prop} {g : Gs} {v1 : Int32} {fin : Int32} (hf : fX0_isThere g v1 = some fin) : Kt l yX0_isThere cX0_isThere 2 (some .boolean) 1 21 Γ A g g [.ref (ad Γ 1), .int v1] (some (.int fin)) :=
  kt_of (by decide) (Nat.le_of_ble_eq_true rfl) (fun p e s m args below meth c C => wX0_isThere_e C hf rfl)
noncomputable def bX9_worthOf_11 (v2 : Int32) (s0 : Int32) : Option Int32 :=
  if v2 = 0 then some (s0) else some (s0 / 2)
set_option maxRecDepth 100000 in
set_option maxHeartbeats 4000000 in
theorem wX9_worthOf_11 {p : Program} {l : Launch} {e : Env} {s : State} {m : MethodId} {args : Array Value} {below : List Frame} {meth : Method} {c : Code} {Γ : Gm} {A : Nat → Prop} {G : Gs} {v2 : Int32} {s0 : Int32} {q : Int32} {fin : Int32} (C : Cx p s m args meth c yX9_worthOf cX9_worthOf 4 (some .int) Γ A) (hf : bX9_worthOf_11 v2 s0 = some q) (hq : (fun x => x = fin) q) : Wk p l e { frames := 0, cells := 0, slots := 0, locals := 0 } s m args below meth c Γ A G (some (.int fin)) 11 4 [(2, .int v2)] [.int s0] G := by
  intro H locs ls hw hS hl
  unfold bX9_worthOf_11 at hf
  obtain ⟨hx, hb, hml, hr, hown, htw, hlocks, hE⟩ := id C
  have hown : s.vm.findClass RX9 = some m.cls := hown
  refine lv_istore_n (lv' := [(3, .int s0), (2, .int v2)]) hx hb dX9_worthOf_11 rfl hl (by decide) rfl (fun ls hl => ?_)
  refine lv_iload_n hx hb dX9_worthOf_12 rfl (lv_at hl 1 rfl) ?_
  refine lv_if_eq (tgt := 22) hx hb dX9_worthOf_13 (by decide) (fun c1 => ?_) (fun c1 => ?_)
  · have hf := ifp c1 hf
    refine lv_iload_n hx hb dX9_worthOf_22 rfl (lv_at hl 0 rfl) ?_
    obtain rfl := Option.some.inj hf
    subst hq
    exact rt_i C hw hS dX9_worthOf_23
  · have hf := ifn c1 hf
    refine lv_iload_n hx hb dX9_worthOf_16 rfl (lv_at hl 0 rfl) ?_
    refine lv_iconst (v := 2) hx hb dX9_worthOf_17 (by decide) ?_
    refine lv_idiv hx hb dX9_worthOf_18 (by decide) ?_
    refine lv_goto (tgt := 23) hx hb dX9_worthOf_19 (by decide) ?_
    obtain rfl := Option.some.inj hf
    subst hq
    exact rt_i C hw hS dX9_worthOf_23

noncomputable def fX9_worthOf (v0 : Int32) (v1 : Int32) (v2 : Int32) : Option Int32 :=
  if v1 = 0 then bX9_worthOf_11 v2 v0 else bX9_worthOf_11 v2 (2 * v0)
set_option maxRecDepth 100000 in
set_option maxHeartbeats 4000000 in
theorem wX9_worthOf_e {p : Program} {l : Launch} {e : Env} {s : State} {m : MethodId} {args : Array Value} {below : List Frame} {meth : Method} {c : Code} {Γ : Gm} {A : Nat → Prop} {G : Gs} {v0 : Int32} {v1 : Int32} {v2 : Int32} {q : Int32} {fin : Int32} (C : Cx p s m args meth c yX9_worthOf cX9_worthOf 4 (some .int) Γ A) (hf : fX9_worthOf v0 v1 v2 = some q) (hq : (fun x => x = fin) q) : Wk p l e { frames := 0, cells := 0, slots := 0, locals := 0 } s m args below meth c Γ A G (some (.int fin)) 0 4 [(0, .int v0), (1, .int v1), (2, .int v2)] [] G := by
  intro H locs ls hw hS hl
  unfold fX9_worthOf at hf
  obtain ⟨hx, hb, hml, hr, hown, htw, hlocks, hE⟩ := id C
  have hown : s.vm.findClass RX9 = some m.cls := hown
  refine lv_iload_n hx hb dX9_worthOf_0 rfl (lv_at hl 1 rfl) ?_
  refine lv_if_eq (tgt := 10) hx hb dX9_worthOf_1 (by decide) (fun c2 => ?_) (fun c2 => ?_)
  · have hf := ifp c2 hf
    refine lv_iload_n hx hb dX9_worthOf_10 rfl (lv_at hl 0 rfl) ?_
    exact wX9_worthOf_11 C hf hq H locs ls hw hS (lv_sub hl [2] rfl)
  · have hf := ifn c2 hf
    refine lv_iconst (v := 2) hx hb dX9_worthOf_4 (by decide) ?_
    refine lv_iload_n hx hb dX9_worthOf_5 rfl (lv_at hl 0 rfl) ?_
    refine lv_imul hx hb dX9_worthOf_6 ?_
    refine lv_goto (tgt := 11) hx hb dX9_worthOf_7 (by decide) ?_
    exact wX9_worthOf_11 C hf hq H locs ls hw hS (lv_sub hl [2] rfl)

theorem kX9_worthOf {l : Launch} {Γ : Gm} {A : Nat → Prop} {G : Gs} {v0 : Int32} {v1 : Int32} {v2 : Int32} {fin : Int32} (hf : fX9_worthOf v0 v1 v2 = some fin) : Kt l yX9_worthOf cX9_worthOf 4 (some .int) 0 0 Γ A G G [.int v0, .int v1, .int v2] (some (.int fin)) :=
  kt_of (by decide) (Nat.le_of_ble_eq_true rfl) (fun p e s m args below meth c C => wX9_worthOf_e C hf rfl)
noncomputable def bX0_worthNow_35 (g : Gs) (v1 : Int32) (v2 : Int32) (s0 : Int32) (s1 : Int32) : Option Int32 :=
  gd (inR v2 8) ((fX9_hasBit (ga (g 1) 3 (Int32.toNatClampNeg v2)) v1).bind fun z2 => (fX9_worthOf s1 s0 z2).bind fun z3 => some (z3))
set_option maxRecDepth 100000 in
set_option maxHeartbeats 4000000 in
theorem wX0_worthNow_35 {p : Program} {l : Launch} {e : Env} {s : State} {m : MethodId} {args : Array Value} {below : List Frame} {meth : Method} {c : Code} {Γ : Gm} {A : Nat → Prop} {g : Gs} {v1 : Int32} {v2 : Int32} {s0 : Int32} {s1 : Int32} {q : Int32} {fin : Int32} (C : Cx p s m args meth c yX0_worthNow cX0_worthNow 3 (some .int) Γ A) (hf : bX0_worthNow_35 g v1 v2 s0 s1 = some q) (hq : (fun x => x = fin) q) : Wk p l e { frames := 1, cells := 0, slots := 0, locals := 23 } s m args below meth c Γ A g (some (.int fin)) 35 3 [(0, .ref (ad Γ 1)), (1, .int v1), (2, .int v2)] [.int s0, .int s1] g := by
  intro H locs ls hw hS hl
  unfold bX0_worthNow_35 at hf
  obtain ⟨hx, hb, hml, hr, hown, htw, hlocks, hE⟩ := id C
  have hown : s.vm.findClass RX0 = some m.cls := hown
  refine lv_aload_n hx hb dX0_worthNow_35 rfl (lv_at hl 0 rfl) ?_
  refine va_get (ci := 0) (v := .ref (aa Γ 1 3)) (C := RX0) (T := TX0) (N := 12) hx hb htw uwX0 hown hE.1 (hw _ _ (wf_1 hE)) 0 rfl rfl 3 (by decide) (htw _ mw339) (fun _ h9 => h9) rfl dX0_worthNow_36 ?_
  refine lv_iload_n hx hb dX0_worthNow_39 rfl (lv_at hl 2 rfl) ?_
  obtain ⟨g1, hf⟩ := gd_some hf
  refine va_iald hx hb hE.1 (hw _ _ (wf_1 hE)) 3 0 rfl rfl (inR_in g1) dX0_worthNow_40 ?_
  refine lv_iload_n hx hb dX0_worthNow_41 rfl (lv_at hl 1 rfl) ?_
  obtain ⟨z2, hz2, hf⟩ := bd hf
  refine cl_SN (rest := [.int s0, .int s1]) (kX9_hasBit (l := l) (Γ := Γ) (A := A) (G := g) hz2) ⟨hx, hb, hml, hown, htw⟩ hE hw hS (nw10 hE.2.2.1) mw717 mw118 mw718 pdX9_hasBit ⟨Nat.le_of_ble_eq_true rfl, Nat.le_of_ble_eq_true rfl⟩ rfl rfl hl.1 (Nat.le_of_ble_eq_true rfl) dX0_worthNow_42 (fun H locs hw hS => ?_)
  obtain ⟨z3, hz3, hf⟩ := bd hf
  refine cl_SN (rest := []) (kX9_worthOf (l := l) (Γ := Γ) (A := A) (G := g) hz3) ⟨hx, hb, hml, hown, htw⟩ hE hw hS (nw11 hE.2.2.1) mw720 mw118 mw721 pdX9_worthOf ⟨Nat.le_of_ble_eq_true rfl, Nat.le_of_ble_eq_true rfl⟩ rfl rfl hl.1 (Nat.le_of_ble_eq_true rfl) dX0_worthNow_45 (fun H locs hw hS => ?_)
  obtain rfl := Option.some.inj hf
  subst hq
  exact rt_i C hw hS dX0_worthNow_48

noncomputable def fX0_worthNow (g : Gs) (v1 : Int32) (v2 : Int32) : Option Int32 :=
  (some (gr (g 1) 0)).bind fun h4 => gd (isHm h4) (gd (inR v1 10) ((some (gr (g 1) 0)).bind fun h7 => gd (isHm h7) (gd (inR v1 10) ((some (gr (g 1) 0)).bind fun h10 => gd (isHm h10) (gd (inR v2 8) (if (ga (g h7) 6 (Int32.toNatClampNeg v1)) = (ga (g h10) 3 (Int32.toNatClampNeg v2)) then bX0_worthNow_35 g v1 v2 1 (ga (g h4) 7 (Int32.toNatClampNeg v1)) else bX0_worthNow_35 g v1 v2 0 (ga (g h4) 7 (Int32.toNatClampNeg v1))))))))
set_option maxRecDepth 100000 in
set_option maxHeartbeats 4000000 in
theorem wX0_worthNow_e {p : Program} {l : Launch} {e : Env} {s : State} {m : MethodId} {args : Array Value} {below : List Frame} {meth : Method} {c : Code} {Γ : Gm} {A : Nat → Prop} {g : Gs} {v1 : Int32} {v2 : Int32} {q : Int32} {fin : Int32} (C : Cx p s m args meth c yX0_worthNow cX0_worthNow 3 (some .int) Γ A) (hf : fX0_worthNow g v1 v2 = some q) (hq : (fun x => x = fin) q) : Wk p l e { frames := 1, cells := 0, slots := 0, locals := 23 } s m args below meth c Γ A g (some (.int fin)) 0 3 [(0, .ref (ad Γ 1)), (1, .int v1), (2, .int v2)] [] g := by
  intro H locs ls hw hS hl
  unfold fX0_worthNow at hf
  obtain ⟨hx, hb, hml, hr, hown, htw, hlocks, hE⟩ := id C
  have hown : s.vm.findClass RX0 = some m.cls := hown
  refine lv_aload_n hx hb dX0_worthNow_0 rfl (lv_at hl 0 rfl) ?_
  refine va_get (ci := 0) (v := .ref (ad Γ (gr (g 1) 0))) (C := RX0) (T := TX0) (N := 12) hx hb htw uwX0 hown hE.1 (hw _ _ (wf_1 hE)) 0 rfl rfl 0 (by decide) (htw _ mw336) (fun _ h9 => h9) rfl dX0_worthNow_1 ?_
  obtain ⟨h4, hh4, hf⟩ := bd hf
  have hh4 := Option.some.inj hh4
  refine tp1r hh4 ?_
  obtain ⟨g5, hf⟩ := gd_some hf
  refine va_get (ci := 2) (v := .ref (aa Γ h4 7)) (C := RX2) (T := TX2) (N := 11) hx hb htw uwX2 hown hE.1 (hw _ _ (hm_kd hE g5)) 0 rfl rfl 7 (by decide) (htw _ mw187) (fun _ h9 => h9) rfl dX0_worthNow_4 ?_
  refine lv_iload_n hx hb dX0_worthNow_7 rfl (lv_at hl 1 rfl) ?_
  obtain ⟨g6, hf⟩ := gd_some hf
  refine va_iald hx hb hE.1 (hw _ _ (hm_kd hE g5)) 5 0 rfl rfl (inR_in g6) dX0_worthNow_8 ?_
  refine lv_aload_n hx hb dX0_worthNow_9 rfl (lv_at hl 0 rfl) ?_
  refine va_get (ci := 0) (v := .ref (ad Γ (gr (g 1) 0))) (C := RX0) (T := TX0) (N := 12) hx hb htw uwX0 hown hE.1 (hw _ _ (wf_1 hE)) 0 rfl rfl 0 (by decide) (htw _ mw336) (fun _ h9 => h9) rfl dX0_worthNow_10 ?_
  obtain ⟨h7, hh7, hf⟩ := bd hf
  have hh7 := Option.some.inj hh7
  refine tp1r hh7 ?_
  obtain ⟨g8, hf⟩ := gd_some hf
  refine va_get (ci := 2) (v := .ref (aa Γ h7 6)) (C := RX2) (T := TX2) (N := 11) hx hb htw uwX2 hown hE.1 (hw _ _ (hm_kd hE g8)) 0 rfl rfl 6 (by decide) (htw _ mw183) (fun _ h9 => h9) rfl dX0_worthNow_13 ?_
  refine lv_iload_n hx hb dX0_worthNow_16 rfl (lv_at hl 1 rfl) ?_
  obtain ⟨g9, hf⟩ := gd_some hf
  refine va_iald hx hb hE.1 (hw _ _ (hm_kd hE g8)) 4 0 rfl rfl (inR_in g9) dX0_worthNow_17 ?_
  refine lv_aload_n hx hb dX0_worthNow_18 rfl (lv_at hl 0 rfl) ?_
  refine va_get (ci := 0) (v := .ref (ad Γ (gr (g 1) 0))) (C := RX0) (T := TX0) (N := 12) hx hb htw uwX0 hown hE.1 (hw _ _ (wf_1 hE)) 0 rfl rfl 0 (by decide) (htw _ mw336) (fun _ h9 => h9) rfl dX0_worthNow_19 ?_
  obtain ⟨h10, hh10, hf⟩ := bd hf
  have hh10 := Option.some.inj hh10
  refine tp1r hh10 ?_
  obtain ⟨g11, hf⟩ := gd_some hf
  refine va_get (ci := 2) (v := .ref (aa Γ h10 3)) (C := RX2) (T := TX2) (N := 11) hx hb htw uwX2 hown hE.1 (hw _ _ (hm_kd hE g11)) 0 rfl rfl 3 (by decide) (htw _ mw174) (fun _ h9 => h9) rfl dX0_worthNow_22 ?_
  refine lv_iload_n hx hb dX0_worthNow_25 rfl (lv_at hl 2 rfl) ?_
  obtain ⟨g12, hf⟩ := gd_some hf
  refine va_iald hx hb hE.1 (hw _ _ (hm_kd hE g11)) 1 0 rfl rfl (inR_in g12) dX0_worthNow_26 ?_
  refine lv_icmp_ne (tgt := 34) hx hb dX0_worthNow_27 (by decide) (fun c13 => ?_) (fun c13 => ?_)
  · have hf := ifn c13 hf
    refine lv_iconst (v := 0) hx hb dX0_worthNow_34 (by decide) ?_
    exact wX0_worthNow_35 C hf hq H locs ls hw hS hl
  · have hf := ifp c13 hf
    refine lv_iconst (v := 1) hx hb dX0_worthNow_30 (by decide) ?_
    refine lv_goto (tgt := 35) hx hb dX0_worthNow_31 (by decide) ?_
    exact wX0_worthNow_35 C hf hq H locs ls hw hS hl

theorem kX0_worthNow {l : Launch} {Γ : Gm} {A : Nat → Prop} {g : Gs} {v1 : Int32} {v2 : Int32} {fin : Int32} (hf : fX0_worthNow g v1 v2 = some fin) : Kt l yX0_worthNow cX0_worthNow 3 (some .int) 1 23 Γ A g g [.ref (ad Γ 1), .int v1, .int v2] (some (.int fin)) :=
  kt_of (by decide) (Nat.le_of_ble_eq_true rfl) (fun p e s m args below meth c C => wX0_worthNow_e C hf rfl)
noncomputable def fX0_give (g : Gs) (v1 : Int32) (v2 : Int32) (v3 : Int32) : Option Gs :=
  gd (inR v2 8) ((some (ug g 1 (sa (g 1) 1 (upd (ga (g 1) 1) (Int32.toNatClampNeg v2) v3)))).bind fun g2 => (some (ug g2 1 (si (g2 1) 7 ((gi (g2 1) 7) + v3)))).bind fun g3 => gd (inR v2 8) (gd (inR v2 8) ((some (ug g3 1 (sa (g3 1) 3 (upd (ga (g3 1) 3) (Int32.toNatClampNeg v2) ((ga (g3 1) 3 (Int32.toNatClampNeg v2)) ||| ((1 : Int32) <<< (v1 &&& 31))))))).bind fun g6 => some (g6))))
set_option maxRecDepth 100000 in
set_option maxHeartbeats 4000000 in
theorem wX0_give_e {p : Program} {l : Launch} {e : Env} {s : State} {m : MethodId} {args : Array Value} {below : List Frame} {meth : Method} {c : Code} {Γ : Gm} {A : Nat → Prop} {g : Gs} {v1 : Int32} {v2 : Int32} {v3 : Int32} {q : Gs} {fin : Gs} (C : Cx p s m args meth c yX0_give cX0_give 4 none Γ A) (hf : fX0_give g v1 v2 v3 = some q) (hq : (fun x => x = fin) q) : Wk p l e { frames := 0, cells := 0, slots := 0, locals := 0 } s m args below meth c Γ A fin none 0 4 [(0, .ref (ad Γ 1)), (1, .int v1), (2, .int v2), (3, .int v3)] [] g := by
  intro H locs ls hw hS hl
  unfold fX0_give at hf
  obtain ⟨hx, hb, hml, hr, hown, htw, hlocks, hE⟩ := id C
  have hown : s.vm.findClass RX0 = some m.cls := hown
  refine lv_aload_n hx hb dX0_give_0 rfl (lv_at hl 0 rfl) ?_
  refine va_get (ci := 0) (v := .ref (aa Γ 1 1)) (C := RX0) (T := TX0) (N := 12) hx hb htw uwX0 hown hE.1 (hw _ _ (wf_1 hE)) 0 rfl rfl 1 (by decide) (htw _ mw337) (fun _ h9 => h9) rfl dX0_give_1 ?_
  refine lv_iload_n hx hb dX0_give_4 rfl (lv_at hl 2 rfl) ?_
  refine lv_iload_n hx hb dX0_give_5 rfl (lv_at hl 3 rfl) ?_
  obtain ⟨g1, hf⟩ := gd_some hf
  obtain ⟨g2, hg2, hf⟩ := bd hf
  have hg2 := Option.some.inj hg2
  refine wo_iastG hx hb hE hw hS (wf_1 hE) (q0 := 1) rfl (inR_in g1) (sa0_1 rfl) hg2 dX0_give_6 (fun H locs hw hS => ?_)
  refine lv_aload_n hx hb dX0_give_7 rfl (lv_at hl 0 rfl) ?_
  refine lv_dup hx hb dX0_give_8 rfl ?_
  refine va_get (ci := 0) (v := .int (gi (g2 1) 7)) (C := RX0) (T := TX0) (N := 12) hx hb htw uwX0 hown hE.1 (hw _ _ (wf_1 hE)) 0 rfl rfl 7 (by decide) (htw _ mw343) (fun _ h9 => h9) rfl dX0_give_9 ?_
  refine lv_iload_n hx hb dX0_give_12 rfl (lv_at hl 3 rfl) ?_
  refine lv_iadd hx hb dX0_give_13 ?_
  obtain ⟨g3, hg3, hf⟩ := bd hf
  have hg3 := Option.some.inj hg3
  refine wo_putG (C := RX0) (T := TX0) (N := 12) (v := .int ((gi (g2 1) 7) + v3)) (ty := .int) hx hb htw uwX0 tyX0 tyX0_ok nmX0 hown hE hw hS (wf_1 hE) rfl rfl 7 (by decide) (htw _ mw343) (fun _ h9 => h9) rfl (tyX0_ok 7 (by decide)) rfl rfl (Nat.le_of_ble_eq_true rfl) (st0_7 rfl) hg3 dX0_give_14 (fun H locs hw hS => ?_)
  refine lv_aload_n hx hb dX0_give_17 rfl (lv_at hl 0 rfl) ?_
  refine va_get (ci := 0) (v := .ref (aa Γ 1 3)) (C := RX0) (T := TX0) (N := 12) hx hb htw uwX0 hown hE.1 (hw _ _ (wf_1 hE)) 0 rfl rfl 3 (by decide) (htw _ mw339) (fun _ h9 => h9) rfl dX0_give_18 ?_
  refine lv_iload_n hx hb dX0_give_21 rfl (lv_at hl 2 rfl) ?_
  refine lv_dup2_11 hx hb dX0_give_22 rfl rfl ?_
  obtain ⟨g4, hf⟩ := gd_some hf
  refine va_iald hx hb hE.1 (hw _ _ (wf_1 hE)) 3 0 rfl rfl (inR_in g4) dX0_give_23 ?_
  refine lv_iconst (v := 1) hx hb dX0_give_24 (by decide) ?_
  refine lv_iload_n hx hb dX0_give_25 rfl (lv_at hl 1 rfl) ?_
  refine lv_ishl hx hb dX0_give_26 ?_
  refine lv_ior hx hb dX0_give_27 ?_
  obtain ⟨g5, hf⟩ := gd_some hf
  obtain ⟨g6, hg6, hf⟩ := bd hf
  have hg6 := Option.some.inj hg6
  refine wo_iastG hx hb hE hw hS (wf_1 hE) (q0 := 3) rfl (inR_in g5) (sa0_3 rfl) hg6 dX0_give_28 (fun H locs hw hS => ?_)
  obtain rfl := Option.some.inj hf
  subst hq
  exact rt_v C hw hS dX0_give_29

theorem kX0_give {l : Launch} {Γ : Gm} {A : Nat → Prop} {g : Gs} {v1 : Int32} {v2 : Int32} {v3 : Int32} {fin : Gs} (hf : fX0_give g v1 v2 v3 = some fin) : Kt l yX0_give cX0_give 4 none 0 0 Γ A g fin [.ref (ad Γ 1), .int v1, .int v2, .int v3] none :=
  kt_of (by decide) (Nat.le_of_ble_eq_true rfl) (fun p e s m args below meth c C => wX0_give_e C hf rfl)
noncomputable def fX0_tellOne (g : Gs) (v1 : Int32) (v2 : Int32) : Option (Gs × Int32) :=
  (some (gr (g 1) 0)).bind fun h1 => gd (isHm h1) ((fX2_hasSecret (g h1) v1).bind fun z3 => if z3 = 0 then some ((g, 0)) else (fX0_isThere g v2).bind fun z4 => if z4 = 0 then some ((g, 0)) else (some (ug g 1 (sa (g 1) 1 (fl 8 0 (ga (g 1) 1))))).bind fun g5 => (fX0_worthNow g5 v1 v2).bind fun z6 => (fX0_give g5 v1 v2 z6).bind fun z7 => some ((z7, 1)))
set_option maxRecDepth 100000 in
set_option maxHeartbeats 4000000 in
theorem wX0_tellOne_e {p : Program} {l : Launch} {e : Env} {s : State} {m : MethodId} {args : Array Value} {below : List Frame} {meth : Method} {c : Code} {Γ : Gm} {A : Nat → Prop} {g : Gs} {v1 : Int32} {v2 : Int32} {q : (Gs × Int32)} {fin : Gs × Int32} (C : Cx p s m args meth c yX0_tellOne cX0_tellOne 3 (some .boolean) Γ A) (hf : fX0_tellOne g v1 v2 = some q) (hq : (fun x => x = fin) q) : Wk p l e { frames := 2, cells := 0, slots := 0, locals := 45 } s m args below meth c Γ A fin.1 (some (.int fin.2)) 0 3 [(0, .ref (ad Γ 1)), (1, .int v1), (2, .int v2)] [] g := by
  intro H locs ls hw hS hl
  unfold fX0_tellOne at hf
  obtain ⟨hx, hb, hml, hr, hown, htw, hlocks, hE⟩ := id C
  have hown : s.vm.findClass RX0 = some m.cls := hown
  refine lv_aload_n hx hb dX0_tellOne_0 rfl (lv_at hl 0 rfl) ?_
  refine va_get (ci := 0) (v := .ref (ad Γ (gr (g 1) 0))) (C := RX0) (T := TX0) (N := 12) hx hb htw uwX0 hown hE.1 (hw _ _ (wf_1 hE)) 0 rfl rfl 0 (by decide) (htw _ mw336) (fun _ h9 => h9) rfl dX0_tellOne_1 ?_
  obtain ⟨h1, hh1, hf⟩ := bd hf
  have hh1 := Option.some.inj hh1
  refine tp1r hh1 ?_
  obtain ⟨g2, hf⟩ := gd_some hf
  refine lv_iload_n hx hb dX0_tellOne_4 rfl (lv_at hl 1 rfl) ?_
  obtain ⟨z3, hz3, hf⟩ := bd hf
  refine cl_Vs (rest := []) (kgX2_hasSecret (l := l) (Γ := Γ) (A := A) (G := g) (o := h1) (hm_kd hE g2) hz3) ⟨hx, hb, hml, hown, htw⟩ hE hw hS (hw _ _ (hm_kd hE g2)) (q0 := 0) rfl rfl mw771 mw691 mw692 mw120 mw693 pdX2_hasSecret ⟨Nat.le_of_ble_eq_true rfl, Nat.le_of_ble_eq_true rfl⟩ rfl rfl hl.1 (Nat.le_of_ble_eq_true rfl) dX0_tellOne_5 (fun H locs hw hS => ?_)
  refine lv_if_eq (tgt := 19) hx hb dX0_tellOne_8 (by decide) (fun c9 => ?_) (fun c9 => ?_)
  · have hf := ifp c9 hf
    refine lv_iconst (v := 0) hx hb dX0_tellOne_19 (by decide) ?_
    obtain rfl := Option.some.inj hf
    subst hq
    exact rt_z C (Or.inl rfl) hw hS dX0_tellOne_20
  · have hf := ifn c9 hf
    refine lv_aload_n hx hb dX0_tellOne_11 rfl (lv_at hl 0 rfl) ?_
    refine lv_iload_n hx hb dX0_tellOne_12 rfl (lv_at hl 2 rfl) ?_
    obtain ⟨z4, hz4, hf⟩ := bd hf
    refine cl_Vs (rest := []) (kX0_isThere (l := l) (Γ := Γ) (A := A) hz4) ⟨hx, hb, hml, hown, htw⟩ hE hw hS (hw _ _ (wf_1 hE)) (q0 := 0) rfl rfl mw772 mw774 mw23 mw124 mw775 pdX0_isThere ⟨Nat.le_of_ble_eq_true rfl, Nat.le_of_ble_eq_true rfl⟩ rfl rfl hl.1 (Nat.le_of_ble_eq_true rfl) dX0_tellOne_13 (fun H locs hw hS => ?_)
    refine lv_if_ne (tgt := 21) hx hb dX0_tellOne_16 (by decide) (fun c8 => ?_) (fun c8 => ?_)
    · have hf := ifn c8 hf
      refine lv_aload_n hx hb dX0_tellOne_21 rfl (lv_at hl 0 rfl) ?_
      refine va_get (ci := 0) (v := .ref (aa Γ 1 1)) (C := RX0) (T := TX0) (N := 12) hx hb htw uwX0 hown hE.1 (hw _ _ (wf_1 hE)) 0 rfl rfl 1 (by decide) (htw _ mw337) (fun _ h9 => h9) rfl dX0_tellOne_22 ?_
      refine lv_iconst (v := 0) hx hb dX0_tellOne_25 (by decide) ?_
      obtain ⟨g5, hg5, hf⟩ := bd hf
      have hg5 := Option.some.inj hg5
      refine cl_Sv (rest := []) (kfill (l := l) (A := A) (G := g) (r := (g 1)) (v := 0) (k := 1) (q0 := 1) (wf_1 hE) (Nat.lt_of_lt_of_le (Nat.lt_succ_self 8) (Nat.le_of_ble_eq_true rfl)) (fun _ => rfl) (fun _ _ => sa0_1 rfl)) ⟨hx, hb, hml, hown, htw⟩ hE (wo_gs hw) hS mw747 mw605 mw135 mw606 pdJ7_fill_53178 ⟨Nat.le_of_ble_eq_true rfl, Nat.le_of_ble_eq_true rfl⟩ rfl rfl hl.1 (Nat.le_of_ble_eq_true rfl) dX0_tellOne_26 (fun H locs hw hS => ?_)
      rw [hg5] at hw
      refine lv_aload_n hx hb dX0_tellOne_29 rfl (lv_at hl 0 rfl) ?_
      refine lv_iload_n hx hb dX0_tellOne_30 rfl (lv_at hl 1 rfl) ?_
      refine lv_iload_n hx hb dX0_tellOne_31 rfl (lv_at hl 2 rfl) ?_
      refine lv_aload_n hx hb dX0_tellOne_32 rfl (lv_at hl 0 rfl) ?_
      refine lv_iload_n hx hb dX0_tellOne_33 rfl (lv_at hl 1 rfl) ?_
      refine lv_iload_n hx hb dX0_tellOne_34 rfl (lv_at hl 2 rfl) ?_
      obtain ⟨z6, hz6, hf⟩ := bd hf
      refine cl_Vs (rest := [.int v2, .int v1, .ref (ad Γ 1)]) (kX0_worthNow (l := l) (Γ := Γ) (A := A) hz6) ⟨hx, hb, hml, hown, htw⟩ hE hw hS (hw _ _ (wf_1 hE)) (q0 := 0) rfl rfl mw778 mw780 mw24 mw124 mw781 pdX0_worthNow ⟨Nat.le_of_ble_eq_true rfl, Nat.le_of_ble_eq_true rfl⟩ rfl rfl hl.1 (Nat.le_of_ble_eq_true rfl) dX0_tellOne_35 (fun H locs hw hS => ?_)
      obtain ⟨z7, hz7, hf⟩ := bd hf
      refine cl_Vv (rest := []) (kX0_give (l := l) (Γ := Γ) (A := A) hz7) ⟨hx, hb, hml, hown, htw⟩ hE hw hS (hw _ _ (wf_1 hE)) (q0 := 0) rfl rfl mw783 mw785 mw25 mw124 mw786 pdX0_give ⟨Nat.le_of_ble_eq_true rfl, Nat.le_of_ble_eq_true rfl⟩ rfl rfl hl.1 (Nat.le_of_ble_eq_true rfl) dX0_tellOne_38 (fun H locs hw hS => ?_)
      refine lv_iconst (v := 1) hx hb dX0_tellOne_41 (by decide) ?_
      obtain rfl := Option.some.inj hf
      subst hq
      exact rt_z C (Or.inr rfl) hw hS dX0_tellOne_42
    · have hf := ifp c8 hf
      refine lv_iconst (v := 0) hx hb dX0_tellOne_19 (by decide) ?_
      obtain rfl := Option.some.inj hf
      subst hq
      exact rt_z C (Or.inl rfl) hw hS dX0_tellOne_20

theorem kX0_tellOne {l : Launch} {Γ : Gm} {A : Nat → Prop} {g : Gs} {v1 : Int32} {v2 : Int32} {fin : Gs × Int32} (hf : fX0_tellOne g v1 v2 = some fin) : Kt l yX0_tellOne cX0_tellOne 3 (some .boolean) 2 45 Γ A g fin.1 [.ref (ad Γ 1), .int v1, .int v2] (some (.int fin.2)) :=
  kt_of (by decide) (Nat.le_of_ble_eq_true rfl) (fun p e s m args below meth c C => wX0_tellOne_e C hf rfl)
noncomputable def fX0_tellTwo (g : Gs) (v1 : Int32) (v2 : Int32) (v3 : Int32) : Option (Gs × Int32) :=
  (some (gr (g 1) 0)).bind fun h1 => gd (isHm h1) ((fX2_hasSecret (g h1) v1).bind fun z3 => if z3 = 0 then some ((g, 0)) else (fX0_isThere g v2).bind fun z4 => if z4 = 0 then some ((g, 0)) else (fX0_isThere g v3).bind fun z5 => if z5 = 0 then some ((g, 0)) else if v2 = v3 then some ((g, 0)) else (some (ug g 1 (sa (g 1) 1 (fl 8 0 (ga (g 1) 1))))).bind fun g6 => (fX0_worthNow g6 v1 v2).bind fun z7 => (fX0_give g6 v1 v2 (z7 / 2)).bind fun z8 => (fX0_worthNow z8 v1 v3).bind fun z9 => (fX0_give z8 v1 v3 (z9 / 2)).bind fun z10 => some ((z10, 1)))
set_option maxRecDepth 100000 in
set_option maxHeartbeats 4000000 in
theorem wX0_tellTwo_e {p : Program} {l : Launch} {e : Env} {s : State} {m : MethodId} {args : Array Value} {below : List Frame} {meth : Method} {c : Code} {Γ : Gm} {A : Nat → Prop} {g : Gs} {v1 : Int32} {v2 : Int32} {v3 : Int32} {q : (Gs × Int32)} {fin : Gs × Int32} (C : Cx p s m args meth c yX0_tellTwo cX0_tellTwo 4 (some .boolean) Γ A) (hf : fX0_tellTwo g v1 v2 v3 = some q) (hq : (fun x => x = fin) q) : Wk p l e { frames := 2, cells := 0, slots := 0, locals := 45 } s m args below meth c Γ A fin.1 (some (.int fin.2)) 0 4 [(0, .ref (ad Γ 1)), (1, .int v1), (2, .int v2), (3, .int v3)] [] g := by
  intro H locs ls hw hS hl
  unfold fX0_tellTwo at hf
  obtain ⟨hx, hb, hml, hr, hown, htw, hlocks, hE⟩ := id C
  have hown : s.vm.findClass RX0 = some m.cls := hown
  refine lv_aload_n hx hb dX0_tellTwo_0 rfl (lv_at hl 0 rfl) ?_
  refine va_get (ci := 0) (v := .ref (ad Γ (gr (g 1) 0))) (C := RX0) (T := TX0) (N := 12) hx hb htw uwX0 hown hE.1 (hw _ _ (wf_1 hE)) 0 rfl rfl 0 (by decide) (htw _ mw336) (fun _ h9 => h9) rfl dX0_tellTwo_1 ?_
  obtain ⟨h1, hh1, hf⟩ := bd hf
  have hh1 := Option.some.inj hh1
  refine tp1r hh1 ?_
  obtain ⟨g2, hf⟩ := gd_some hf
  refine lv_iload_n hx hb dX0_tellTwo_4 rfl (lv_at hl 1 rfl) ?_
  obtain ⟨z3, hz3, hf⟩ := bd hf
  refine cl_Vs (rest := []) (kgX2_hasSecret (l := l) (Γ := Γ) (A := A) (G := g) (o := h1) (hm_kd hE g2) hz3) ⟨hx, hb, hml, hown, htw⟩ hE hw hS (hw _ _ (hm_kd hE g2)) (q0 := 0) rfl rfl mw771 mw691 mw692 mw120 mw693 pdX2_hasSecret ⟨Nat.le_of_ble_eq_true rfl, Nat.le_of_ble_eq_true rfl⟩ rfl rfl hl.1 (Nat.le_of_ble_eq_true rfl) dX0_tellTwo_5 (fun H locs hw hS => ?_)
  refine lv_if_eq (tgt := 32) hx hb dX0_tellTwo_8 (by decide) (fun c14 => ?_) (fun c14 => ?_)
  · have hf := ifp c14 hf
    refine lv_iconst (v := 0) hx hb dX0_tellTwo_32 (by decide) ?_
    obtain rfl := Option.some.inj hf
    subst hq
    exact rt_z C (Or.inl rfl) hw hS dX0_tellTwo_33
  · have hf := ifn c14 hf
    refine lv_aload_n hx hb dX0_tellTwo_11 rfl (lv_at hl 0 rfl) ?_
    refine lv_iload_n hx hb dX0_tellTwo_12 rfl (lv_at hl 2 rfl) ?_
    obtain ⟨z4, hz4, hf⟩ := bd hf
    refine cl_Vs (rest := []) (kX0_isThere (l := l) (Γ := Γ) (A := A) hz4) ⟨hx, hb, hml, hown, htw⟩ hE hw hS (hw _ _ (wf_1 hE)) (q0 := 0) rfl rfl mw772 mw774 mw23 mw124 mw775 pdX0_isThere ⟨Nat.le_of_ble_eq_true rfl, Nat.le_of_ble_eq_true rfl⟩ rfl rfl hl.1 (Nat.le_of_ble_eq_true rfl) dX0_tellTwo_13 (fun H locs hw hS => ?_)
    refine lv_if_eq (tgt := 32) hx hb dX0_tellTwo_16 (by decide) (fun c13 => ?_) (fun c13 => ?_)
    · have hf := ifp c13 hf
      refine lv_iconst (v := 0) hx hb dX0_tellTwo_32 (by decide) ?_
      obtain rfl := Option.some.inj hf
      subst hq
      exact rt_z C (Or.inl rfl) hw hS dX0_tellTwo_33
    · have hf := ifn c13 hf
      refine lv_aload_n hx hb dX0_tellTwo_19 rfl (lv_at hl 0 rfl) ?_
      refine lv_iload_n hx hb dX0_tellTwo_20 rfl (lv_at hl 3 rfl) ?_
      obtain ⟨z5, hz5, hf⟩ := bd hf
      refine cl_Vs (rest := []) (kX0_isThere (l := l) (Γ := Γ) (A := A) hz5) ⟨hx, hb, hml, hown, htw⟩ hE hw hS (hw _ _ (wf_1 hE)) (q0 := 0) rfl rfl mw772 mw774 mw23 mw124 mw775 pdX0_isThere ⟨Nat.le_of_ble_eq_true rfl, Nat.le_of_ble_eq_true rfl⟩ rfl rfl hl.1 (Nat.le_of_ble_eq_true rfl) dX0_tellTwo_21 (fun H locs hw hS => ?_)
      refine lv_if_eq (tgt := 32) hx hb dX0_tellTwo_24 (by decide) (fun c12 => ?_) (fun c12 => ?_)
      · have hf := ifp c12 hf
        refine lv_iconst (v := 0) hx hb dX0_tellTwo_32 (by decide) ?_
        obtain rfl := Option.some.inj hf
        subst hq
        exact rt_z C (Or.inl rfl) hw hS dX0_tellTwo_33
      · have hf := ifn c12 hf
        refine lv_iload_n hx hb dX0_tellTwo_27 rfl (lv_at hl 2 rfl) ?_
        refine lv_iload_n hx hb dX0_tellTwo_28 rfl (lv_at hl 3 rfl) ?_
        refine lv_icmp_ne (tgt := 34) hx hb dX0_tellTwo_29 (by decide) (fun c11 => ?_) (fun c11 => ?_)
        · have hf := ifn c11 hf
          refine lv_aload_n hx hb dX0_tellTwo_34 rfl (lv_at hl 0 rfl) ?_
          refine va_get (ci := 0) (v := .ref (aa Γ 1 1)) (C := RX0) (T := TX0) (N := 12) hx hb htw uwX0 hown hE.1 (hw _ _ (wf_1 hE)) 0 rfl rfl 1 (by decide) (htw _ mw337) (fun _ h9 => h9) rfl dX0_tellTwo_35 ?_
          refine lv_iconst (v := 0) hx hb dX0_tellTwo_38 (by decide) ?_
          obtain ⟨g6, hg6, hf⟩ := bd hf
          have hg6 := Option.some.inj hg6
          refine cl_Sv (rest := []) (kfill (l := l) (A := A) (G := g) (r := (g 1)) (v := 0) (k := 1) (q0 := 1) (wf_1 hE) (Nat.lt_of_lt_of_le (Nat.lt_succ_self 8) (Nat.le_of_ble_eq_true rfl)) (fun _ => rfl) (fun _ _ => sa0_1 rfl)) ⟨hx, hb, hml, hown, htw⟩ hE (wo_gs hw) hS mw747 mw605 mw135 mw606 pdJ7_fill_53178 ⟨Nat.le_of_ble_eq_true rfl, Nat.le_of_ble_eq_true rfl⟩ rfl rfl hl.1 (Nat.le_of_ble_eq_true rfl) dX0_tellTwo_39 (fun H locs hw hS => ?_)
          rw [hg6] at hw
          refine lv_aload_n hx hb dX0_tellTwo_42 rfl (lv_at hl 0 rfl) ?_
          refine lv_iload_n hx hb dX0_tellTwo_43 rfl (lv_at hl 1 rfl) ?_
          refine lv_iload_n hx hb dX0_tellTwo_44 rfl (lv_at hl 2 rfl) ?_
          refine lv_aload_n hx hb dX0_tellTwo_45 rfl (lv_at hl 0 rfl) ?_
          refine lv_iload_n hx hb dX0_tellTwo_46 rfl (lv_at hl 1 rfl) ?_
          refine lv_iload_n hx hb dX0_tellTwo_47 rfl (lv_at hl 2 rfl) ?_
          obtain ⟨z7, hz7, hf⟩ := bd hf
          refine cl_Vs (rest := [.int v2, .int v1, .ref (ad Γ 1)]) (kX0_worthNow (l := l) (Γ := Γ) (A := A) hz7) ⟨hx, hb, hml, hown, htw⟩ hE hw hS (hw _ _ (wf_1 hE)) (q0 := 0) rfl rfl mw778 mw780 mw24 mw124 mw781 pdX0_worthNow ⟨Nat.le_of_ble_eq_true rfl, Nat.le_of_ble_eq_true rfl⟩ rfl rfl hl.1 (Nat.le_of_ble_eq_true rfl) dX0_tellTwo_48 (fun H locs hw hS => ?_)
          refine lv_iconst (v := 2) hx hb dX0_tellTwo_51 (by decide) ?_
          refine lv_idiv hx hb dX0_tellTwo_52 (by decide) ?_
          obtain ⟨z8, hz8, hf⟩ := bd hf
          refine cl_Vv (rest := []) (kX0_give (l := l) (Γ := Γ) (A := A) hz8) ⟨hx, hb, hml, hown, htw⟩ hE hw hS (hw _ _ (wf_1 hE)) (q0 := 0) rfl rfl mw783 mw785 mw25 mw124 mw786 pdX0_give ⟨Nat.le_of_ble_eq_true rfl, Nat.le_of_ble_eq_true rfl⟩ rfl rfl hl.1 (Nat.le_of_ble_eq_true rfl) dX0_tellTwo_53 (fun H locs hw hS => ?_)
          refine lv_aload_n hx hb dX0_tellTwo_56 rfl (lv_at hl 0 rfl) ?_
          refine lv_iload_n hx hb dX0_tellTwo_57 rfl (lv_at hl 1 rfl) ?_
          refine lv_iload_n hx hb dX0_tellTwo_58 rfl (lv_at hl 3 rfl) ?_
          refine lv_aload_n hx hb dX0_tellTwo_59 rfl (lv_at hl 0 rfl) ?_
          refine lv_iload_n hx hb dX0_tellTwo_60 rfl (lv_at hl 1 rfl) ?_
          refine lv_iload_n hx hb dX0_tellTwo_61 rfl (lv_at hl 3 rfl) ?_
          obtain ⟨z9, hz9, hf⟩ := bd hf
          refine cl_Vs (rest := [.int v3, .int v1, .ref (ad Γ 1)]) (kX0_worthNow (l := l) (Γ := Γ) (A := A) hz9) ⟨hx, hb, hml, hown, htw⟩ hE hw hS (hw _ _ (wf_1 hE)) (q0 := 0) rfl rfl mw778 mw780 mw24 mw124 mw781 pdX0_worthNow ⟨Nat.le_of_ble_eq_true rfl, Nat.le_of_ble_eq_true rfl⟩ rfl rfl hl.1 (Nat.le_of_ble_eq_true rfl) dX0_tellTwo_62 (fun H locs hw hS => ?_)
          refine lv_iconst (v := 2) hx hb dX0_tellTwo_65 (by decide) ?_
          refine lv_idiv hx hb dX0_tellTwo_66 (by decide) ?_
          obtain ⟨z10, hz10, hf⟩ := bd hf
          refine cl_Vv (rest := []) (kX0_give (l := l) (Γ := Γ) (A := A) hz10) ⟨hx, hb, hml, hown, htw⟩ hE hw hS (hw _ _ (wf_1 hE)) (q0 := 0) rfl rfl mw783 mw785 mw25 mw124 mw786 pdX0_give ⟨Nat.le_of_ble_eq_true rfl, Nat.le_of_ble_eq_true rfl⟩ rfl rfl hl.1 (Nat.le_of_ble_eq_true rfl) dX0_tellTwo_67 (fun H locs hw hS => ?_)
          refine lv_iconst (v := 1) hx hb dX0_tellTwo_70 (by decide) ?_
          obtain rfl := Option.some.inj hf
          subst hq
          exact rt_z C (Or.inr rfl) hw hS dX0_tellTwo_71
        · have hf := ifp c11 hf
          refine lv_iconst (v := 0) hx hb dX0_tellTwo_32 (by decide) ?_
          obtain rfl := Option.some.inj hf
          subst hq
          exact rt_z C (Or.inl rfl) hw hS dX0_tellTwo_33

theorem kX0_tellTwo {l : Launch} {Γ : Gm} {A : Nat → Prop} {g : Gs} {v1 : Int32} {v2 : Int32} {v3 : Int32} {fin : Gs × Int32} (hf : fX0_tellTwo g v1 v2 v3 = some fin) : Kt l yX0_tellTwo cX0_tellTwo 4 (some .boolean) 2 45 Γ A g fin.1 [.ref (ad Γ 1), .int v1, .int v2, .int v3] (some (.int fin.2)) :=
  kt_of (by decide) (Nat.le_of_ble_eq_true rfl) (fun p e s m args below meth c C => wX0_tellTwo_e C hf rfl)
noncomputable def fX0_polishOne (g : Gs) (v1 : Int32) : Option (Gs × Int32) :=
  (fX0_isThere g v1).bind fun z1 => if z1 = 0 then some ((g, 0)) else (some (ug g 1 (sa (g 1) 2 (fl 8 0 (ga (g 1) 2))))).bind fun g2 => gd (inR v1 8) ((some (ug g2 1 (sa (g2 1) 2 (upd (ga (g2 1) 2) (Int32.toNatClampNeg v1) 5)))).bind fun g4 => some ((g4, 1)))
set_option maxRecDepth 100000 in
set_option maxHeartbeats 4000000 in
theorem wX0_polishOne_e {p : Program} {l : Launch} {e : Env} {s : State} {m : MethodId} {args : Array Value} {below : List Frame} {meth : Method} {c : Code} {Γ : Gm} {A : Nat → Prop} {g : Gs} {v1 : Int32} {q : (Gs × Int32)} {fin : Gs × Int32} (C : Cx p s m args meth c yX0_polishOne cX0_polishOne 2 (some .boolean) Γ A) (hf : fX0_polishOne g v1 = some q) (hq : (fun x => x = fin) q) : Wk p l e { frames := 2, cells := 0, slots := 0, locals := 42 } s m args below meth c Γ A fin.1 (some (.int fin.2)) 0 2 [(0, .ref (ad Γ 1)), (1, .int v1)] [] g := by
  intro H locs ls hw hS hl
  unfold fX0_polishOne at hf
  obtain ⟨hx, hb, hml, hr, hown, htw, hlocks, hE⟩ := id C
  have hown : s.vm.findClass RX0 = some m.cls := hown
  refine lv_aload_n hx hb dX0_polishOne_0 rfl (lv_at hl 0 rfl) ?_
  refine lv_iload_n hx hb dX0_polishOne_1 rfl (lv_at hl 1 rfl) ?_
  obtain ⟨z1, hz1, hf⟩ := bd hf
  refine cl_Vs (rest := []) (kX0_isThere (l := l) (Γ := Γ) (A := A) hz1) ⟨hx, hb, hml, hown, htw⟩ hE hw hS (hw _ _ (wf_1 hE)) (q0 := 0) rfl rfl mw772 mw774 mw23 mw124 mw775 pdX0_isThere ⟨Nat.le_of_ble_eq_true rfl, Nat.le_of_ble_eq_true rfl⟩ rfl rfl hl.1 (Nat.le_of_ble_eq_true rfl) dX0_polishOne_2 (fun H locs hw hS => ?_)
  refine lv_if_ne (tgt := 10) hx hb dX0_polishOne_5 (by decide) (fun c5 => ?_) (fun c5 => ?_)
  · have hf := ifn c5 hf
    refine lv_aload_n hx hb dX0_polishOne_10 rfl (lv_at hl 0 rfl) ?_
    refine va_get (ci := 0) (v := .ref (aa Γ 1 2)) (C := RX0) (T := TX0) (N := 12) hx hb htw uwX0 hown hE.1 (hw _ _ (wf_1 hE)) 0 rfl rfl 2 (by decide) (htw _ mw338) (fun _ h9 => h9) rfl dX0_polishOne_11 ?_
    refine lv_iconst (v := 0) hx hb dX0_polishOne_14 (by decide) ?_
    obtain ⟨g2, hg2, hf⟩ := bd hf
    have hg2 := Option.some.inj hg2
    refine cl_Sv (rest := []) (kfill (l := l) (A := A) (G := g) (r := (g 1)) (v := 0) (k := 2) (q0 := 2) (wf_1 hE) (Nat.lt_of_lt_of_le (Nat.lt_succ_self 8) (Nat.le_of_ble_eq_true rfl)) (fun _ => rfl) (fun _ _ => sa0_2 rfl)) ⟨hx, hb, hml, hown, htw⟩ hE (wo_gs hw) hS mw747 mw605 mw135 mw606 pdJ7_fill_53178 ⟨Nat.le_of_ble_eq_true rfl, Nat.le_of_ble_eq_true rfl⟩ rfl rfl hl.1 (Nat.le_of_ble_eq_true rfl) dX0_polishOne_15 (fun H locs hw hS => ?_)
    rw [hg2] at hw
    refine lv_aload_n hx hb dX0_polishOne_18 rfl (lv_at hl 0 rfl) ?_
    refine va_get (ci := 0) (v := .ref (aa Γ 1 2)) (C := RX0) (T := TX0) (N := 12) hx hb htw uwX0 hown hE.1 (hw _ _ (wf_1 hE)) 0 rfl rfl 2 (by decide) (htw _ mw338) (fun _ h9 => h9) rfl dX0_polishOne_19 ?_
    refine lv_iload_n hx hb dX0_polishOne_22 rfl (lv_at hl 1 rfl) ?_
    refine lv_iconst (v := 5) hx hb dX0_polishOne_23 (by decide) ?_
    obtain ⟨g3, hf⟩ := gd_some hf
    obtain ⟨g4, hg4, hf⟩ := bd hf
    have hg4 := Option.some.inj hg4
    refine wo_iastG hx hb hE hw hS (wf_1 hE) (q0 := 2) rfl (inR_in g3) (sa0_2 rfl) hg4 dX0_polishOne_24 (fun H locs hw hS => ?_)
    refine lv_iconst (v := 1) hx hb dX0_polishOne_25 (by decide) ?_
    obtain rfl := Option.some.inj hf
    subst hq
    exact rt_z C (Or.inr rfl) hw hS dX0_polishOne_26
  · have hf := ifp c5 hf
    refine lv_iconst (v := 0) hx hb dX0_polishOne_8 (by decide) ?_
    obtain rfl := Option.some.inj hf
    subst hq
    exact rt_z C (Or.inl rfl) hw hS dX0_polishOne_9

theorem kX0_polishOne {l : Launch} {Γ : Gm} {A : Nat → Prop} {g : Gs} {v1 : Int32} {fin : Gs × Int32} (hf : fX0_polishOne g v1 = some fin) : Kt l yX0_polishOne cX0_polishOne 2 (some .boolean) 2 42 Γ A g fin.1 [.ref (ad Γ 1), .int v1] (some (.int fin.2)) :=
  kt_of (by decide) (Nat.le_of_ble_eq_true rfl) (fun p e s m args below meth c C => wX0_polishOne_e C hf rfl)
noncomputable def fX0_stealOne (g : Gs) (v1 : Int32) : Option (Gs × Int32) :=
  (fX0_isThere g v1).bind fun z1 => if z1 = 0 then some ((g, 0)) else (some (ug g 1 (si (g 1) 5 ((gi (g 1) 5) ||| ((1 : Int32) <<< (v1 &&& 31)))))).bind fun g2 => gd (inR v1 8) ((some (ug g2 1 (sa (g2 1) 1 (upd (ga (g2 1) 1) (Int32.toNatClampNeg v1) 0)))).bind fun g4 => gd (inR v1 8) ((some (ug g4 1 (sa (g4 1) 2 (upd (ga (g4 1) 2) (Int32.toNatClampNeg v1) 0)))).bind fun g6 => some ((g6, 1))))
set_option maxRecDepth 100000 in
set_option maxHeartbeats 4000000 in
theorem wX0_stealOne_e {p : Program} {l : Launch} {e : Env} {s : State} {m : MethodId} {args : Array Value} {below : List Frame} {meth : Method} {c : Code} {Γ : Gm} {A : Nat → Prop} {g : Gs} {v1 : Int32} {q : (Gs × Int32)} {fin : Gs × Int32} (C : Cx p s m args meth c yX0_stealOne cX0_stealOne 2 (some .boolean) Γ A) (hf : fX0_stealOne g v1 = some q) (hq : (fun x => x = fin) q) : Wk p l e { frames := 2, cells := 0, slots := 0, locals := 42 } s m args below meth c Γ A fin.1 (some (.int fin.2)) 0 2 [(0, .ref (ad Γ 1)), (1, .int v1)] [] g := by
  intro H locs ls hw hS hl
  unfold fX0_stealOne at hf
  obtain ⟨hx, hb, hml, hr, hown, htw, hlocks, hE⟩ := id C
  have hown : s.vm.findClass RX0 = some m.cls := hown
  refine lv_aload_n hx hb dX0_stealOne_0 rfl (lv_at hl 0 rfl) ?_
  refine lv_iload_n hx hb dX0_stealOne_1 rfl (lv_at hl 1 rfl) ?_
  obtain ⟨z1, hz1, hf⟩ := bd hf
  refine cl_Vs (rest := []) (kX0_isThere (l := l) (Γ := Γ) (A := A) hz1) ⟨hx, hb, hml, hown, htw⟩ hE hw hS (hw _ _ (wf_1 hE)) (q0 := 0) rfl rfl mw772 mw774 mw23 mw124 mw775 pdX0_isThere ⟨Nat.le_of_ble_eq_true rfl, Nat.le_of_ble_eq_true rfl⟩ rfl rfl hl.1 (Nat.le_of_ble_eq_true rfl) dX0_stealOne_2 (fun H locs hw hS => ?_)
  refine lv_if_ne (tgt := 10) hx hb dX0_stealOne_5 (by decide) (fun c7 => ?_) (fun c7 => ?_)
  · have hf := ifn c7 hf
    refine lv_aload_n hx hb dX0_stealOne_10 rfl (lv_at hl 0 rfl) ?_
    refine lv_dup hx hb dX0_stealOne_11 rfl ?_
    refine va_get (ci := 0) (v := .int (gi (g 1) 5)) (C := RX0) (T := TX0) (N := 12) hx hb htw uwX0 hown hE.1 (hw _ _ (wf_1 hE)) 0 rfl rfl 5 (by decide) (htw _ mw341) (fun _ h9 => h9) rfl dX0_stealOne_12 ?_
    refine lv_iconst (v := 1) hx hb dX0_stealOne_15 (by decide) ?_
    refine lv_iload_n hx hb dX0_stealOne_16 rfl (lv_at hl 1 rfl) ?_
    refine lv_ishl hx hb dX0_stealOne_17 ?_
    refine lv_ior hx hb dX0_stealOne_18 ?_
    obtain ⟨g2, hg2, hf⟩ := bd hf
    have hg2 := Option.some.inj hg2
    refine wo_putG (C := RX0) (T := TX0) (N := 12) (v := .int ((gi (g 1) 5) ||| ((1 : Int32) <<< (v1 &&& 31)))) (ty := .int) hx hb htw uwX0 tyX0 tyX0_ok nmX0 hown hE hw hS (wf_1 hE) rfl rfl 5 (by decide) (htw _ mw341) (fun _ h9 => h9) rfl (tyX0_ok 5 (by decide)) rfl rfl (Nat.le_of_ble_eq_true rfl) (st0_5 rfl) hg2 dX0_stealOne_19 (fun H locs hw hS => ?_)
    refine lv_aload_n hx hb dX0_stealOne_22 rfl (lv_at hl 0 rfl) ?_
    refine va_get (ci := 0) (v := .ref (aa Γ 1 1)) (C := RX0) (T := TX0) (N := 12) hx hb htw uwX0 hown hE.1 (hw _ _ (wf_1 hE)) 0 rfl rfl 1 (by decide) (htw _ mw337) (fun _ h9 => h9) rfl dX0_stealOne_23 ?_
    refine lv_iload_n hx hb dX0_stealOne_26 rfl (lv_at hl 1 rfl) ?_
    refine lv_iconst (v := 0) hx hb dX0_stealOne_27 (by decide) ?_
    obtain ⟨g3, hf⟩ := gd_some hf
    obtain ⟨g4, hg4, hf⟩ := bd hf
    have hg4 := Option.some.inj hg4
    refine wo_iastG hx hb hE hw hS (wf_1 hE) (q0 := 1) rfl (inR_in g3) (sa0_1 rfl) hg4 dX0_stealOne_28 (fun H locs hw hS => ?_)
    refine lv_aload_n hx hb dX0_stealOne_29 rfl (lv_at hl 0 rfl) ?_
    refine va_get (ci := 0) (v := .ref (aa Γ 1 2)) (C := RX0) (T := TX0) (N := 12) hx hb htw uwX0 hown hE.1 (hw _ _ (wf_1 hE)) 0 rfl rfl 2 (by decide) (htw _ mw338) (fun _ h9 => h9) rfl dX0_stealOne_30 ?_
    refine lv_iload_n hx hb dX0_stealOne_33 rfl (lv_at hl 1 rfl) ?_
    refine lv_iconst (v := 0) hx hb dX0_stealOne_34 (by decide) ?_
    obtain ⟨g5, hf⟩ := gd_some hf
    obtain ⟨g6, hg6, hf⟩ := bd hf
    have hg6 := Option.some.inj hg6
    refine wo_iastG hx hb hE hw hS (wf_1 hE) (q0 := 2) rfl (inR_in g5) (sa0_2 rfl) hg6 dX0_stealOne_35 (fun H locs hw hS => ?_)
    refine lv_iconst (v := 1) hx hb dX0_stealOne_36 (by decide) ?_
    obtain rfl := Option.some.inj hf
    subst hq
    exact rt_z C (Or.inr rfl) hw hS dX0_stealOne_37
  · have hf := ifp c7 hf
    refine lv_iconst (v := 0) hx hb dX0_stealOne_8 (by decide) ?_
    obtain rfl := Option.some.inj hf
    subst hq
    exact rt_z C (Or.inl rfl) hw hS dX0_stealOne_9

theorem kX0_stealOne {l : Launch} {Γ : Gm} {A : Nat → Prop} {g : Gs} {v1 : Int32} {fin : Gs × Int32} (hf : fX0_stealOne g v1 = some fin) : Kt l yX0_stealOne cX0_stealOne 2 (some .boolean) 2 42 Γ A g fin.1 [.ref (ad Γ 1), .int v1] (some (.int fin.2)) :=
  kt_of (by decide) (Nat.le_of_ble_eq_true rfl) (fun p e s m args below meth c C => wX0_stealOne_e C hf rfl)
noncomputable def fX0_bringBack (g : Gs) (v1 : Int32) : Option (Gs × Int32) :=
  (some (gr (g 1) 0)).bind fun h1 => gd (isHm h1) ((fX2_hasPiece (g h1) v1).bind fun z3 => if z3 = 0 then some ((g, 0)) else (fX9_hasBit (gi (g 1) 5) v1).bind fun z4 => if z4 = 0 then some ((g, 0)) else (some (ug g 1 (si (g 1) 5 ((gi (g 1) 5) &&& (((1 : Int32) <<< (v1 &&& 31)) ^^^ (-1)))))).bind fun g5 => some ((g5, 1)))
set_option maxRecDepth 100000 in
set_option maxHeartbeats 4000000 in
theorem wX0_bringBack_e {p : Program} {l : Launch} {e : Env} {s : State} {m : MethodId} {args : Array Value} {below : List Frame} {meth : Method} {c : Code} {Γ : Gm} {A : Nat → Prop} {g : Gs} {v1 : Int32} {q : (Gs × Int32)} {fin : Gs × Int32} (C : Cx p s m args meth c yX0_bringBack cX0_bringBack 2 (some .boolean) Γ A) (hf : fX0_bringBack g v1 = some q) (hq : (fun x => x = fin) q) : Wk p l e { frames := 1, cells := 0, slots := 0, locals := 21 } s m args below meth c Γ A fin.1 (some (.int fin.2)) 0 2 [(0, .ref (ad Γ 1)), (1, .int v1)] [] g := by
  intro H locs ls hw hS hl
  unfold fX0_bringBack at hf
  obtain ⟨hx, hb, hml, hr, hown, htw, hlocks, hE⟩ := id C
  have hown : s.vm.findClass RX0 = some m.cls := hown
  refine lv_aload_n hx hb dX0_bringBack_0 rfl (lv_at hl 0 rfl) ?_
  refine va_get (ci := 0) (v := .ref (ad Γ (gr (g 1) 0))) (C := RX0) (T := TX0) (N := 12) hx hb htw uwX0 hown hE.1 (hw _ _ (wf_1 hE)) 0 rfl rfl 0 (by decide) (htw _ mw336) (fun _ h9 => h9) rfl dX0_bringBack_1 ?_
  obtain ⟨h1, hh1, hf⟩ := bd hf
  have hh1 := Option.some.inj hh1
  refine tp1r hh1 ?_
  obtain ⟨g2, hf⟩ := gd_some hf
  refine lv_iload_n hx hb dX0_bringBack_4 rfl (lv_at hl 1 rfl) ?_
  obtain ⟨z3, hz3, hf⟩ := bd hf
  refine cl_Vs (rest := []) (kgX2_hasPiece (l := l) (Γ := Γ) (A := A) (G := g) (o := h1) (hm_kd hE g2) hz3) ⟨hx, hb, hml, hown, htw⟩ hE hw hS (hw _ _ (hm_kd hE g2)) (q0 := 0) rfl rfl mw776 mw683 mw684 mw120 mw685 pdX2_hasPiece ⟨Nat.le_of_ble_eq_true rfl, Nat.le_of_ble_eq_true rfl⟩ rfl rfl hl.1 (Nat.le_of_ble_eq_true rfl) dX0_bringBack_5 (fun H locs hw hS => ?_)
  refine lv_if_eq (tgt := 22) hx hb dX0_bringBack_8 (by decide) (fun c7 => ?_) (fun c7 => ?_)
  · have hf := ifp c7 hf
    refine lv_iconst (v := 0) hx hb dX0_bringBack_22 (by decide) ?_
    obtain rfl := Option.some.inj hf
    subst hq
    exact rt_z C (Or.inl rfl) hw hS dX0_bringBack_23
  · have hf := ifn c7 hf
    refine lv_aload_n hx hb dX0_bringBack_11 rfl (lv_at hl 0 rfl) ?_
    refine va_get (ci := 0) (v := .int (gi (g 1) 5)) (C := RX0) (T := TX0) (N := 12) hx hb htw uwX0 hown hE.1 (hw _ _ (wf_1 hE)) 0 rfl rfl 5 (by decide) (htw _ mw341) (fun _ h9 => h9) rfl dX0_bringBack_12 ?_
    refine lv_iload_n hx hb dX0_bringBack_15 rfl (lv_at hl 1 rfl) ?_
    obtain ⟨z4, hz4, hf⟩ := bd hf
    refine cl_SN (rest := []) (kX9_hasBit (l := l) (Γ := Γ) (A := A) (G := g) hz4) ⟨hx, hb, hml, hown, htw⟩ hE hw hS (nw10 hE.2.2.1) mw717 mw118 mw718 pdX9_hasBit ⟨Nat.le_of_ble_eq_true rfl, Nat.le_of_ble_eq_true rfl⟩ rfl rfl hl.1 (Nat.le_of_ble_eq_true rfl) dX0_bringBack_16 (fun H locs hw hS => ?_)
    refine lv_if_ne (tgt := 24) hx hb dX0_bringBack_19 (by decide) (fun c6 => ?_) (fun c6 => ?_)
    · have hf := ifn c6 hf
      refine lv_aload_n hx hb dX0_bringBack_24 rfl (lv_at hl 0 rfl) ?_
      refine lv_dup hx hb dX0_bringBack_25 rfl ?_
      refine va_get (ci := 0) (v := .int (gi (g 1) 5)) (C := RX0) (T := TX0) (N := 12) hx hb htw uwX0 hown hE.1 (hw _ _ (wf_1 hE)) 0 rfl rfl 5 (by decide) (htw _ mw341) (fun _ h9 => h9) rfl dX0_bringBack_26 ?_
      refine lv_iconst (v := 1) hx hb dX0_bringBack_29 (by decide) ?_
      refine lv_iload_n hx hb dX0_bringBack_30 rfl (lv_at hl 1 rfl) ?_
      refine lv_ishl hx hb dX0_bringBack_31 ?_
      refine lv_iconst (v := (-1)) hx hb dX0_bringBack_32 (by decide) ?_
      refine lv_ixor hx hb dX0_bringBack_33 ?_
      refine lv_iand hx hb dX0_bringBack_34 ?_
      obtain ⟨g5, hg5, hf⟩ := bd hf
      have hg5 := Option.some.inj hg5
      refine wo_putG (C := RX0) (T := TX0) (N := 12) (v := .int ((gi (g 1) 5) &&& (((1 : Int32) <<< (v1 &&& 31)) ^^^ (-1)))) (ty := .int) hx hb htw uwX0 tyX0 tyX0_ok nmX0 hown hE hw hS (wf_1 hE) rfl rfl 5 (by decide) (htw _ mw341) (fun _ h9 => h9) rfl (tyX0_ok 5 (by decide)) rfl rfl (Nat.le_of_ble_eq_true rfl) (st0_5 rfl) hg5 dX0_bringBack_35 (fun H locs hw hS => ?_)
      refine lv_iconst (v := 1) hx hb dX0_bringBack_38 (by decide) ?_
      obtain rfl := Option.some.inj hf
      subst hq
      exact rt_z C (Or.inr rfl) hw hS dX0_bringBack_39
    · have hf := ifp c6 hf
      refine lv_iconst (v := 0) hx hb dX0_bringBack_22 (by decide) ?_
      obtain rfl := Option.some.inj hf
      subst hq
      exact rt_z C (Or.inl rfl) hw hS dX0_bringBack_23

theorem kX0_bringBack {l : Launch} {Γ : Gm} {A : Nat → Prop} {g : Gs} {v1 : Int32} {fin : Gs × Int32} (hf : fX0_bringBack g v1 = some fin) : Kt l yX0_bringBack cX0_bringBack 2 (some .boolean) 1 21 Γ A g fin.1 [.ref (ad Γ 1), .int v1] (some (.int fin.2)) :=
  kt_of (by decide) (Nat.le_of_ble_eq_true rfl) (fun p e s m args below meth c C => wX0_bringBack_e C hf rfl)
noncomputable def bX0_passHour_56 (g : Gs) : Option (Gs × Int32) :=
  (some (ug g 1 (sa (g 1) 2 (fl 8 0 (ga (g 1) 2))))).bind fun g1 => (some (ug g1 1 (si (g1 1) 6 ((gi (g1 1) 6) + 1)))).bind fun g2 => some ((g2, 1))
set_option maxRecDepth 100000 in
set_option maxHeartbeats 4000000 in
theorem wX0_passHour_56 {p : Program} {l : Launch} {e : Env} {s : State} {m : MethodId} {args : Array Value} {below : List Frame} {meth : Method} {c : Code} {Γ : Gm} {A : Nat → Prop} {g : Gs} {q : (Gs × Int32)} {fin : Gs × Int32} (C : Cx p s m args meth c yX0_passHour cX0_passHour 2 (some .boolean) Γ A) (hf : bX0_passHour_56 g = some q) (hq : (fun x => x = fin) q) : Wk p l e { frames := 1, cells := 0, slots := 0, locals := 23 } s m args below meth c Γ A fin.1 (some (.int fin.2)) 56 2 [(0, .ref (ad Γ 1))] [] g := by
  intro H locs ls hw hS hl
  unfold bX0_passHour_56 at hf
  obtain ⟨hx, hb, hml, hr, hown, htw, hlocks, hE⟩ := id C
  have hown : s.vm.findClass RX0 = some m.cls := hown
  refine lv_aload_n hx hb dX0_passHour_56 rfl (lv_at hl 0 rfl) ?_
  refine va_get (ci := 0) (v := .ref (aa Γ 1 2)) (C := RX0) (T := TX0) (N := 12) hx hb htw uwX0 hown hE.1 (hw _ _ (wf_1 hE)) 0 rfl rfl 2 (by decide) (htw _ mw338) (fun _ h9 => h9) rfl dX0_passHour_57 ?_
  refine lv_iconst (v := 0) hx hb dX0_passHour_60 (by decide) ?_
  obtain ⟨g1, hg1, hf⟩ := bd hf
  have hg1 := Option.some.inj hg1
  refine cl_Sv (rest := []) (kfill (l := l) (A := A) (G := g) (r := (g 1)) (v := 0) (k := 2) (q0 := 2) (wf_1 hE) (Nat.lt_of_lt_of_le (Nat.lt_succ_self 8) (Nat.le_of_ble_eq_true rfl)) (fun _ => rfl) (fun _ _ => sa0_2 rfl)) ⟨hx, hb, hml, hown, htw⟩ hE (wo_gs hw) hS mw747 mw605 mw135 mw606 pdJ7_fill_53178 ⟨Nat.le_of_ble_eq_true rfl, Nat.le_of_ble_eq_true rfl⟩ rfl rfl hl.1 (Nat.le_of_ble_eq_true rfl) dX0_passHour_61 (fun H locs hw hS => ?_)
  rw [hg1] at hw
  refine lv_aload_n hx hb dX0_passHour_64 rfl (lv_at hl 0 rfl) ?_
  refine lv_dup hx hb dX0_passHour_65 rfl ?_
  refine va_get (ci := 0) (v := .int (gi (g1 1) 6)) (C := RX0) (T := TX0) (N := 12) hx hb htw uwX0 hown hE.1 (hw _ _ (wf_1 hE)) 0 rfl rfl 6 (by decide) (htw _ mw342) (fun _ h9 => h9) rfl dX0_passHour_66 ?_
  refine lv_iconst (v := 1) hx hb dX0_passHour_69 (by decide) ?_
  refine lv_iadd hx hb dX0_passHour_70 ?_
  obtain ⟨g2, hg2, hf⟩ := bd hf
  have hg2 := Option.some.inj hg2
  refine wo_putG (C := RX0) (T := TX0) (N := 12) (v := .int ((gi (g1 1) 6) + 1)) (ty := .int) hx hb htw uwX0 tyX0 tyX0_ok nmX0 hown hE hw hS (wf_1 hE) rfl rfl 6 (by decide) (htw _ mw342) (fun _ h9 => h9) rfl (tyX0_ok 6 (by decide)) rfl rfl (Nat.le_of_ble_eq_true rfl) (st0_6 rfl) hg2 dX0_passHour_71 (fun H locs hw hS => ?_)
  refine lv_iconst (v := 1) hx hb dX0_passHour_74 (by decide) ?_
  obtain rfl := Option.some.inj hf
  subst hq
  exact rt_z C (Or.inr rfl) hw hS dX0_passHour_75

noncomputable def bX0_passHour_13 (g : Gs) (v1 : Int32) : Option ((Int32 × Gs) ⊕ (Gs × Int32)) :=
  (some (gr (g 1) 0)).bind fun h3 => gd (isHm h3) (if (gi (g h3) 0) ≤ v1 then out1 (bX0_passHour_56 g) else gd (inR v1 8) ((some (gr (g 1) 0)).bind fun h7 => gd (isHm h7) (gd (inR v1 8) ((some ((ga (g 1) 1 (Int32.toNatClampNeg v1)) - (ga (g h7) 4 (Int32.toNatClampNeg v1)))).bind fun x10 => (some (mxi 0 x10)).bind fun x11 => gd (inR v1 8) ((some (ug g 1 (sa (g 1) 1 (upd (ga (g 1) 1) (Int32.toNatClampNeg v1) x11)))).bind fun g13 => some (.inl (v1 + 1, g13)))))))
set_option maxRecDepth 100000 in
set_option maxHeartbeats 4000000 in
theorem wX0_passHour_13 {p : Program} {l : Launch} {e : Env} {s : State} {m : MethodId} {args : Array Value} {below : List Frame} {meth : Method} {c : Code} {Γ : Gm} {A : Nat → Prop} {g : Gs} {v1 : Int32} {q : ((Int32 × Gs) ⊕ (Gs × Int32))} {fin : Gs × Int32} (C : Cx p s m args meth c yX0_passHour cX0_passHour 2 (some .boolean) Γ A) (hf : bX0_passHour_13 g v1 = some q) (hq : (KC (fun st : Int32 × Gs => Wk p l e { frames := 1, cells := 0, slots := 0, locals := 23 } s m args below meth c Γ A fin.1 (some (.int fin.2)) 13 2 [(0, .ref (ad Γ 1)), (1, .int st.1)] [] st.2) (fun x => x = fin)) q) : Wk p l e { frames := 1, cells := 0, slots := 0, locals := 23 } s m args below meth c Γ A fin.1 (some (.int fin.2)) 13 2 [(0, .ref (ad Γ 1)), (1, .int v1)] [] g := by
  intro H locs ls hw hS hl
  unfold bX0_passHour_13 at hf
  obtain ⟨hx, hb, hml, hr, hown, htw, hlocks, hE⟩ := id C
  have hown : s.vm.findClass RX0 = some m.cls := hown
  refine lv_iload_n hx hb dX0_passHour_13 rfl (lv_at hl 1 rfl) ?_
  refine lv_aload_n hx hb dX0_passHour_14 rfl (lv_at hl 0 rfl) ?_
  refine va_get (ci := 0) (v := .ref (ad Γ (gr (g 1) 0))) (C := RX0) (T := TX0) (N := 12) hx hb htw uwX0 hown hE.1 (hw _ _ (wf_1 hE)) 0 rfl rfl 0 (by decide) (htw _ mw336) (fun _ h9 => h9) rfl dX0_passHour_15 ?_
  obtain ⟨h3, hh3, hf⟩ := bd hf
  have hh3 := Option.some.inj hh3
  refine tp1r hh3 ?_
  obtain ⟨g4, hf⟩ := gd_some hf
  refine va_get (ci := 2) (v := .int (gi (g h3) 0)) (C := RX2) (T := TX2) (N := 11) hx hb htw uwX2 hown hE.1 (hw _ _ (hm_kd hE g4)) 0 rfl rfl 0 (by decide) (htw _ mw162) (fun _ h9 => h9) rfl dX0_passHour_18 ?_
  refine lv_icmp_ge (tgt := 56) hx hb dX0_passHour_21 (by decide) (fun c14 => ?_) (fun c14 => ?_)
  · have hf := ifp c14 hf
    obtain ⟨q5, hfq5, eq5⟩ := out1_some hf
    subst eq5
    have hf := hfq5
    have hq := hq.2 _ rfl
    exact wX0_passHour_56 C hf hq H locs ls hw hS (lv_sub hl [0] rfl)
  · have hf := ifn c14 hf
    refine lv_aload_n hx hb dX0_passHour_24 rfl (lv_at hl 0 rfl) ?_
    refine va_get (ci := 0) (v := .ref (aa Γ 1 1)) (C := RX0) (T := TX0) (N := 12) hx hb htw uwX0 hown hE.1 (hw _ _ (wf_1 hE)) 0 rfl rfl 1 (by decide) (htw _ mw337) (fun _ h9 => h9) rfl dX0_passHour_25 ?_
    refine lv_iload_n hx hb dX0_passHour_28 rfl (lv_at hl 1 rfl) ?_
    refine lv_iconst (v := 0) hx hb dX0_passHour_29 (by decide) ?_
    refine lv_aload_n hx hb dX0_passHour_30 rfl (lv_at hl 0 rfl) ?_
    refine va_get (ci := 0) (v := .ref (aa Γ 1 1)) (C := RX0) (T := TX0) (N := 12) hx hb htw uwX0 hown hE.1 (hw _ _ (wf_1 hE)) 0 rfl rfl 1 (by decide) (htw _ mw337) (fun _ h9 => h9) rfl dX0_passHour_31 ?_
    refine lv_iload_n hx hb dX0_passHour_34 rfl (lv_at hl 1 rfl) ?_
    obtain ⟨g6, hf⟩ := gd_some hf
    refine va_iald hx hb hE.1 (hw _ _ (wf_1 hE)) 1 0 rfl rfl (inR_in g6) dX0_passHour_35 ?_
    refine lv_aload_n hx hb dX0_passHour_36 rfl (lv_at hl 0 rfl) ?_
    refine va_get (ci := 0) (v := .ref (ad Γ (gr (g 1) 0))) (C := RX0) (T := TX0) (N := 12) hx hb htw uwX0 hown hE.1 (hw _ _ (wf_1 hE)) 0 rfl rfl 0 (by decide) (htw _ mw336) (fun _ h9 => h9) rfl dX0_passHour_37 ?_
    obtain ⟨h7, hh7, hf⟩ := bd hf
    have hh7 := Option.some.inj hh7
    refine tp1r hh7 ?_
    obtain ⟨g8, hf⟩ := gd_some hf
    refine va_get (ci := 2) (v := .ref (aa Γ h7 4)) (C := RX2) (T := TX2) (N := 11) hx hb htw uwX2 hown hE.1 (hw _ _ (hm_kd hE g8)) 0 rfl rfl 4 (by decide) (htw _ mw177) (fun _ h9 => h9) rfl dX0_passHour_40 ?_
    refine lv_iload_n hx hb dX0_passHour_43 rfl (lv_at hl 1 rfl) ?_
    obtain ⟨g9, hf⟩ := gd_some hf
    refine va_iald hx hb hE.1 (hw _ _ (hm_kd hE g8)) 2 0 rfl rfl (inR_in g9) dX0_passHour_44 ?_
    refine lv_isub hx hb dX0_passHour_45 ?_
    obtain ⟨x10, hx10, hf⟩ := bd hf
    have hx10 := Option.some.inj hx10
    refine tp1i hx10 ?_
    refine va_mmax hx hb (hml.trans hl.1.symm) hown (htw _ mw761) (htw _ mw225) (htw _ mw122) (htw _ mw226) (Nat.le_of_ble_eq_true rfl) (Nat.le_of_ble_eq_true rfl) (Nat.le_refl _) (Nat.le_refl _) dX0_passHour_46 ?_
    obtain ⟨x11, hx11, hf⟩ := bd hf
    have hx11 := Option.some.inj hx11
    refine tp1i hx11 ?_
    obtain ⟨g12, hf⟩ := gd_some hf
    obtain ⟨g13, hg13, hf⟩ := bd hf
    have hg13 := Option.some.inj hg13
    refine wo_iastG hx hb hE hw hS (wf_1 hE) (q0 := 1) rfl (inR_in g12) (sa0_1 rfl) hg13 dX0_passHour_49 (fun H locs hw hS => ?_)
    refine lv_iinc (v := v1 + 1) (lv' := [(1, .int (v1 + 1)), (0, .ref (ad Γ 1))]) hx hb dX0_passHour_50 hl (k := 1) rfl (by rfl) (by decide) rfl (fun ls hl => ?_)
    refine lv_goto (tgt := 13) hx hb dX0_passHour_53 (by decide) ?_
    obtain rfl := Option.some.inj hf
    exact hq.1 _ rfl H locs ls hw hS (lv_sub hl [1, 0] rfl)

set_option maxRecDepth 100000 in
set_option maxHeartbeats 4000000 in
theorem lwX0_passHour_13 {p : Program} {l : Launch} {e : Env} {s : State} {m : MethodId} {args : Array Value} {below : List Frame} {meth : Method} {c : Code} {Γ : Gm} {A : Nat → Prop} {g : Gs} {v1 : Int32} {q : (Gs × Int32)} {fin : Gs × Int32} (C : Cx p s m args meth c yX0_passHour cX0_passHour 2 (some .boolean) Γ A) (hf : iter (fun st : Int32 × Gs => bX0_passHour_13 st.2 st.1) (v1, g) = some q) (hq : (fun x => x = fin) q) : Wk p l e { frames := 1, cells := 0, slots := 0, locals := 23 } s m args below meth c Γ A fin.1 (some (.int fin.2)) 13 2 [(0, .ref (ad Γ 1)), (1, .int v1)] [] g := by
  intro H locs ls hw hS hl
  refine iter_walk (P := (fun st : Int32 × Gs => Wk p l e { frames := 1, cells := 0, slots := 0, locals := 23 } s m args below meth c Γ A fin.1 (some (.int fin.2)) 13 2 [(0, .ref (ad Γ 1)), (1, .int st.1)] [] st.2)) (K := (fun x => x = fin)) (fun st q hq1 h1 h2 => ?_) hf hq H locs ls hw hS hl
  exact wX0_passHour_13 (g := st.2) (v1 := st.1) C hq1 ⟨h1, h2⟩

noncomputable def fX0_passHour (g : Gs) : Option (Gs × Int32) :=
  if (gi (g 1) 6) < 99 then iter (fun st : Int32 × Gs => bX0_passHour_13 st.2 st.1) (0, g) else some ((g, 0))
set_option maxRecDepth 100000 in
set_option maxHeartbeats 4000000 in
theorem wX0_passHour_e {p : Program} {l : Launch} {e : Env} {s : State} {m : MethodId} {args : Array Value} {below : List Frame} {meth : Method} {c : Code} {Γ : Gm} {A : Nat → Prop} {g : Gs} {q : (Gs × Int32)} {fin : Gs × Int32} (C : Cx p s m args meth c yX0_passHour cX0_passHour 2 (some .boolean) Γ A) (hf : fX0_passHour g = some q) (hq : (fun x => x = fin) q) : Wk p l e { frames := 1, cells := 0, slots := 0, locals := 23 } s m args below meth c Γ A fin.1 (some (.int fin.2)) 0 2 [(0, .ref (ad Γ 1))] [] g := by
  intro H locs ls hw hS hl
  unfold fX0_passHour at hf
  obtain ⟨hx, hb, hml, hr, hown, htw, hlocks, hE⟩ := id C
  have hown : s.vm.findClass RX0 = some m.cls := hown
  refine lv_aload_n hx hb dX0_passHour_0 rfl (lv_at hl 0 rfl) ?_
  refine va_get (ci := 0) (v := .int (gi (g 1) 6)) (C := RX0) (T := TX0) (N := 12) hx hb htw uwX0 hown hE.1 (hw _ _ (wf_1 hE)) 0 rfl rfl 6 (by decide) (htw _ mw342) (fun _ h9 => h9) rfl dX0_passHour_1 ?_
  refine lv_bipush (v := 99) hx hb dX0_passHour_4 (by decide) ?_
  refine lv_icmp_lt (tgt := 11) hx hb dX0_passHour_6 (by decide) (fun c15 => ?_) (fun c15 => ?_)
  · have hf := ifp c15 hf
    refine lv_iconst (v := 0) hx hb dX0_passHour_11 (by decide) ?_
    refine lv_istore_n (lv' := [(1, .int 0), (0, .ref (ad Γ 1))]) hx hb dX0_passHour_12 rfl hl (by decide) rfl (fun ls hl => ?_)
    exact lwX0_passHour_13 C hf hq H locs ls hw hS (lv_sub hl [1, 0] rfl)
  · have hf := ifn c15 hf
    refine lv_iconst (v := 0) hx hb dX0_passHour_9 (by decide) ?_
    obtain rfl := Option.some.inj hf
    subst hq
    exact rt_z C (Or.inl rfl) hw hS dX0_passHour_10

theorem kX0_passHour {l : Launch} {Γ : Gm} {A : Nat → Prop} {g : Gs} {fin : Gs × Int32} (hf : fX0_passHour g = some fin) : Kt l yX0_passHour cX0_passHour 2 (some .boolean) 1 23 Γ A g fin.1 [.ref (ad Γ 1)] (some (.int fin.2)) :=
  kt_of (by decide) (Nat.le_of_ble_eq_true rfl) (fun p e s m args below meth c C => wX0_passHour_e C hf rfl)
noncomputable def fX0_perform (g : Gs) (v1 : Int32) (v2 : Int32) (v3 : Int32) (v4 : Int32) : Option (Gs × Int32) :=
  if v1 = 4 then (fX0_tellOne g v2 v3).bind fun z1 => gd (isB z1.2) (some ((z1.1, z1.2))) else if v1 = 5 then (fX0_tellTwo g v2 v3 v4).bind fun z3 => gd (isB z3.2) (some ((z3.1, z3.2))) else if v1 = 6 then (fX0_polishOne g v2).bind fun z5 => gd (isB z5.2) (some ((z5.1, z5.2))) else if v1 = 7 then (fX0_stealOne g v2).bind fun z7 => gd (isB z7.2) (some ((z7.1, z7.2))) else if v1 = 8 then (fX0_bringBack g v2).bind fun z9 => gd (isB z9.2) (some ((z9.1, z9.2))) else if v1 = 9 then (fX0_passHour g).bind fun z11 => gd (isB z11.2) (some ((z11.1, z11.2))) else some ((g, 0))
set_option maxRecDepth 100000 in
set_option maxHeartbeats 4000000 in
theorem wX0_perform_e {p : Program} {l : Launch} {e : Env} {s : State} {m : MethodId} {args : Array Value} {below : List Frame} {meth : Method} {c : Code} {Γ : Gm} {A : Nat → Prop} {g : Gs} {v1 : Int32} {v2 : Int32} {v3 : Int32} {v4 : Int32} {q : (Gs × Int32)} {fin : Gs × Int32} (C : Cx p s m args meth c yX0_perform cX0_perform 5 (some .boolean) Γ A) (hf : fX0_perform g v1 v2 v3 v4 = some q) (hq : (fun x => x = fin) q) : Wk p l e { frames := 3, cells := 0, slots := 0, locals := 68 } s m args below meth c Γ A fin.1 (some (.int fin.2)) 0 5 [(0, .ref (ad Γ 1)), (1, .int v1), (2, .int v2), (3, .int v3), (4, .int v4)] [] g := by
  intro H locs ls hw hS hl
  unfold fX0_perform at hf
  obtain ⟨hx, hb, hml, hr, hown, htw, hlocks, hE⟩ := id C
  have hown : s.vm.findClass RX0 = some m.cls := hown
  refine lv_iload_n hx hb dX0_perform_0 rfl (lv_at hl 1 rfl) ?_
  by_cases c13 : v1 = 4
  · have hf := ifp c13 hf
    rw [c13]
    refine lv_tableIn (off := 39) (tgt := 40) hx hb dX0_perform_1 (by decide) (by decide) (by rfl) (by decide) ?_
    refine lv_aload_n hx hb dX0_perform_40 rfl (lv_at hl 0 rfl) ?_
    refine lv_iload_n hx hb dX0_perform_41 rfl (lv_at hl 2 rfl) ?_
    refine lv_iload_n hx hb dX0_perform_42 rfl (lv_at hl 3 rfl) ?_
    obtain ⟨z1, hz1, hf⟩ := bd hf
    refine cl_Vs (rest := []) (kX0_tellOne (l := l) (Γ := Γ) (A := A) hz1) ⟨hx, hb, hml, hown, htw⟩ hE hw hS (hw _ _ (wf_1 hE)) (q0 := 0) rfl rfl mw767 mw769 mw22 mw124 mw770 pdX0_tellOne ⟨Nat.le_of_ble_eq_true rfl, Nat.le_of_ble_eq_true rfl⟩ rfl rfl hl.1 (Nat.le_of_ble_eq_true rfl) dX0_perform_43 (fun H locs hw hS => ?_)
    obtain ⟨g2, hf⟩ := gd_some hf
    obtain rfl := Option.some.inj hf
    subst hq
    exact rt_z C (isB_or g2) hw hS dX0_perform_46
  have hf := ifn c13 hf
  by_cases c14 : v1 = 5
  · have hf := ifp c14 hf
    rw [c14]
    refine lv_tableIn (off := 46) (tgt := 47) hx hb dX0_perform_1 (by decide) (by decide) (by rfl) (by decide) ?_
    refine lv_aload_n hx hb dX0_perform_47 rfl (lv_at hl 0 rfl) ?_
    refine lv_iload_n hx hb dX0_perform_48 rfl (lv_at hl 2 rfl) ?_
    refine lv_iload_n hx hb dX0_perform_49 rfl (lv_at hl 3 rfl) ?_
    refine lv_iload hx hb dX0_perform_50 (lv_at hl 4 rfl) ?_
    obtain ⟨z3, hz3, hf⟩ := bd hf
    refine cl_Vs (rest := []) (kX0_tellTwo (l := l) (Γ := Γ) (A := A) hz3) ⟨hx, hb, hml, hown, htw⟩ hE hw hS (hw _ _ (wf_1 hE)) (q0 := 0) rfl rfl mw787 mw789 mw26 mw124 mw790 pdX0_tellTwo ⟨Nat.le_of_ble_eq_true rfl, Nat.le_of_ble_eq_true rfl⟩ rfl rfl hl.1 (Nat.le_of_ble_eq_true rfl) dX0_perform_52 (fun H locs hw hS => ?_)
    obtain ⟨g4, hf⟩ := gd_some hf
    obtain rfl := Option.some.inj hf
    subst hq
    exact rt_z C (isB_or g4) hw hS dX0_perform_55
  have hf := ifn c14 hf
  by_cases c15 : v1 = 6
  · have hf := ifp c15 hf
    rw [c15]
    refine lv_tableIn (off := 55) (tgt := 56) hx hb dX0_perform_1 (by decide) (by decide) (by rfl) (by decide) ?_
    refine lv_aload_n hx hb dX0_perform_56 rfl (lv_at hl 0 rfl) ?_
    refine lv_iload_n hx hb dX0_perform_57 rfl (lv_at hl 2 rfl) ?_
    obtain ⟨z5, hz5, hf⟩ := bd hf
    refine cl_Vs (rest := []) (kX0_polishOne (l := l) (Γ := Γ) (A := A) hz5) ⟨hx, hb, hml, hown, htw⟩ hE hw hS (hw _ _ (wf_1 hE)) (q0 := 0) rfl rfl mw791 mw793 mw27 mw124 mw794 pdX0_polishOne ⟨Nat.le_of_ble_eq_true rfl, Nat.le_of_ble_eq_true rfl⟩ rfl rfl hl.1 (Nat.le_of_ble_eq_true rfl) dX0_perform_58 (fun H locs hw hS => ?_)
    obtain ⟨g6, hf⟩ := gd_some hf
    obtain rfl := Option.some.inj hf
    subst hq
    exact rt_z C (isB_or g6) hw hS dX0_perform_61
  have hf := ifn c15 hf
  by_cases c16 : v1 = 7
  · have hf := ifp c16 hf
    rw [c16]
    refine lv_tableIn (off := 61) (tgt := 62) hx hb dX0_perform_1 (by decide) (by decide) (by rfl) (by decide) ?_
    refine lv_aload_n hx hb dX0_perform_62 rfl (lv_at hl 0 rfl) ?_
    refine lv_iload_n hx hb dX0_perform_63 rfl (lv_at hl 2 rfl) ?_
    obtain ⟨z7, hz7, hf⟩ := bd hf
    refine cl_Vs (rest := []) (kX0_stealOne (l := l) (Γ := Γ) (A := A) hz7) ⟨hx, hb, hml, hown, htw⟩ hE hw hS (hw _ _ (wf_1 hE)) (q0 := 0) rfl rfl mw795 mw797 mw28 mw124 mw798 pdX0_stealOne ⟨Nat.le_of_ble_eq_true rfl, Nat.le_of_ble_eq_true rfl⟩ rfl rfl hl.1 (Nat.le_of_ble_eq_true rfl) dX0_perform_64 (fun H locs hw hS => ?_)
    obtain ⟨g8, hf⟩ := gd_some hf
    obtain rfl := Option.some.inj hf
    subst hq
    exact rt_z C (isB_or g8) hw hS dX0_perform_67
  have hf := ifn c16 hf
  by_cases c17 : v1 = 8
  · have hf := ifp c17 hf
    rw [c17]
    refine lv_tableIn (off := 67) (tgt := 68) hx hb dX0_perform_1 (by decide) (by decide) (by rfl) (by decide) ?_
    refine lv_aload_n hx hb dX0_perform_68 rfl (lv_at hl 0 rfl) ?_
    refine lv_iload_n hx hb dX0_perform_69 rfl (lv_at hl 2 rfl) ?_
    obtain ⟨z9, hz9, hf⟩ := bd hf
    refine cl_Vs (rest := []) (kX0_bringBack (l := l) (Γ := Γ) (A := A) hz9) ⟨hx, hb, hml, hown, htw⟩ hE hw hS (hw _ _ (wf_1 hE)) (q0 := 0) rfl rfl mw799 mw801 mw29 mw124 mw802 pdX0_bringBack ⟨Nat.le_of_ble_eq_true rfl, Nat.le_of_ble_eq_true rfl⟩ rfl rfl hl.1 (Nat.le_of_ble_eq_true rfl) dX0_perform_70 (fun H locs hw hS => ?_)
    obtain ⟨g10, hf⟩ := gd_some hf
    obtain rfl := Option.some.inj hf
    subst hq
    exact rt_z C (isB_or g10) hw hS dX0_perform_73
  have hf := ifn c17 hf
  by_cases c18 : v1 = 9
  · have hf := ifp c18 hf
    rw [c18]
    refine lv_tableIn (off := 73) (tgt := 74) hx hb dX0_perform_1 (by decide) (by decide) (by rfl) (by decide) ?_
    refine lv_aload_n hx hb dX0_perform_74 rfl (lv_at hl 0 rfl) ?_
    obtain ⟨z11, hz11, hf⟩ := bd hf
    refine cl_Vs (rest := []) (kX0_passHour (l := l) (Γ := Γ) (A := A) hz11) ⟨hx, hb, hml, hown, htw⟩ hE hw hS (hw _ _ (wf_1 hE)) (q0 := 0) rfl rfl mw803 mw805 mw30 mw124 mw806 pdX0_passHour ⟨Nat.le_of_ble_eq_true rfl, Nat.le_of_ble_eq_true rfl⟩ rfl rfl hl.1 (Nat.le_of_ble_eq_true rfl) dX0_perform_75 (fun H locs hw hS => ?_)
    obtain ⟨g12, hf⟩ := gd_some hf
    obtain rfl := Option.some.inj hf
    subst hq
    exact rt_z C (isB_or g12) hw hS dX0_perform_78
  have hf := ifn c18 hf
  refine lv_tableOut (tgt := 79) hx hb dX0_perform_1 (by have := And.intro (ts_ne (k := 4) (by decide) c13) (And.intro (ts_ne (k := 5) (by decide) c14) (And.intro (ts_ne (k := 6) (by decide) c15) (And.intro (ts_ne (k := 7) (by decide) c16) (And.intro (ts_ne (k := 8) (by decide) c17) (And.intro (ts_ne (k := 9) (by decide) c18) (True.intro)))))); omega) (by decide) ?_
  refine lv_iconst (v := 0) hx hb dX0_perform_79 (by decide) ?_
  obtain rfl := Option.some.inj hf
  subst hq
  exact rt_z C (Or.inl rfl) hw hS dX0_perform_80

theorem kX0_perform {l : Launch} {Γ : Gm} {A : Nat → Prop} {g : Gs} {v1 : Int32} {v2 : Int32} {v3 : Int32} {v4 : Int32} {fin : Gs × Int32} (hf : fX0_perform g v1 v2 v3 v4 = some fin) : Kt l yX0_perform cX0_perform 5 (some .boolean) 3 68 Γ A g fin.1 [.ref (ad Γ 1), .int v1, .int v2, .int v3, .int v4] (some (.int fin.2)) :=
  kt_of (by decide) (Nat.le_of_ble_eq_true rfl) (fun p e s m args below meth c C => wX0_perform_e C hf rfl)
