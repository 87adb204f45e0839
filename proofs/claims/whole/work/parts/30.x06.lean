noncomputable def bX4_read_60 (g : Gs) (v3 : Int32) : Option Gs :=
  if (gi (g 401) 12) = 0 then if v3 = 0 then (fX4_checkAllThere (g 401)).bind fun z1 => (some (ug g 401 z1)).bind fun g2 => some (g2) else some (g) else some (g)
set_option maxRecDepth 100000 in
set_option maxHeartbeats 4000000 in
theorem wX4_read_60 {p : Program} {l : Launch} {e : Env} {s : State} {m : MethodId} {args : Array Value} {below : List Frame} {meth : Method} {c : Code} {Γ : Gm} {A : Nat → Prop} {g : Gs} {v3 : Int32} {q : Gs} {fin : Gs} (C : Cx p s m args meth c yX4_read cX4_read 4 none Γ A) (hf : bX4_read_60 g v3 = some q) (hq : (fun x => x = fin) q) : Wk p l e { frames := 8, cells := 0, slots := 0, locals := 173 } s m args below meth c Γ A fin none 60 4 [(0, .ref (ad Γ 401)), (3, .int v3)] [] g := by
  intro H locs ls hw hS hl
  unfold bX4_read_60 at hf
  obtain ⟨hx, hb, hml, hr, hown, htw, hlocks, hE⟩ := id C
  have hown : s.vm.findClass RX4 = some m.cls := hown
  refine lv_aload_n hx hb dX4_read_60 rfl (lv_at hl 0 rfl) ?_
  refine va_get (ci := 4) (v := .int (gi (g 401) 12)) (C := RX4) (T := TX4) (N := 14) hx hb htw uwX4 hown hE.1 (hw _ _ (wf_401 hE)) 0 rfl rfl 12 (by decide) (htw _ mw295) (fun _ h9 => h9) rfl dX4_read_61 ?_
  refine lv_if_ne (tgt := 75) hx hb dX4_read_64 (by decide) (fun c4 => ?_) (fun c4 => ?_)
  · have hf := ifn c4 hf
    obtain rfl := Option.some.inj hf
    subst hq
    exact rt_v C hw hS dX4_read_75
  · have hf := ifp c4 hf
    refine lv_iload_n hx hb dX4_read_67 rfl (lv_at hl 1 rfl) ?_
    refine lv_if_ne (tgt := 75) hx hb dX4_read_68 (by decide) (fun c3 => ?_) (fun c3 => ?_)
    · have hf := ifn c3 hf
      obtain rfl := Option.some.inj hf
      subst hq
      exact rt_v C hw hS dX4_read_75
    · have hf := ifp c3 hf
      refine lv_aload_n hx hb dX4_read_71 rfl (lv_at hl 0 rfl) ?_
      obtain ⟨z1, hz1, hf⟩ := bd hf
      refine cl_Vv (rest := []) (kgX4_checkAllThere (l := l) (Γ := Γ) (A := A) (G := g) (o := 401) (wf_401 hE) hz1) ⟨hx, hb, hml, hown, htw⟩ hE hw hS (hw _ _ (wf_401 hE)) (q0 := 0) rfl rfl mw621 mw623 mw12 mw123 mw624 pdX4_checkAllThere ⟨Nat.le_of_ble_eq_true rfl, Nat.le_of_ble_eq_true rfl⟩ rfl rfl hl.1 (Nat.le_of_ble_eq_true rfl) dX4_read_72 (fun H locs hw hS => ?_)
      obtain ⟨g2, hg2, hf⟩ := bd hf
      have hg2 := Option.some.inj hg2
      rw [hg2] at hw
      obtain rfl := Option.some.inj hf
      subst hq
      exact rt_v C hw hS dX4_read_75

noncomputable def fX4_read (g : Gs) (v2 : Int32) (v3 : Int32) : Option Gs :=
  (some (mni 600 600)).bind fun x5 => (some (mni v2 x5)).bind fun x6 => (some (mxi 0 x6)).bind fun x7 => (some (ug g 401 (si (g 401) 1 x7))).bind fun g8 => gd (cpOK 0 0 (gi (g8 401) 1) 600 600) (gd (fitB (ga (g8 800) 0) (Int32.toNatClampNeg 0) (Int32.toNatClampNeg (gi (g8 401) 1))) ((some (ug g8 401 (sa (g8 401) 0 (va_cpy (ga (g8 800) 0) (ga (g8 401) 0) (Int32.toNatClampNeg 0) (Int32.toNatClampNeg 0) (Int32.toNatClampNeg (gi (g8 401) 1)))))).bind fun g11 => (some (ug g11 401 (si (g11 401) 12 0))).bind fun g12 => (some (ug g12 401 (si (g12 401) 13 (-1)))).bind fun g13 => (fX4_readLines (g13 401) v3).bind fun z14 => (some (ug g13 401 z14)).bind fun g15 => if (gi (g15 401) 12) = 0 then (fX4_checkLines (g15 401)).bind fun z16 => (some (ug g15 401 z16)).bind fun g17 => bX4_read_60 g17 v3 else bX4_read_60 g15 v3))
set_option maxRecDepth 100000 in
set_option maxHeartbeats 4000000 in
theorem wX4_read_e {p : Program} {l : Launch} {e : Env} {s : State} {m : MethodId} {args : Array Value} {below : List Frame} {meth : Method} {c : Code} {Γ : Gm} {A : Nat → Prop} {g : Gs} {v2 : Int32} {v3 : Int32} {q : Gs} {fin : Gs} (C : Cx p s m args meth c yX4_read cX4_read 4 none Γ A) (hf : fX4_read g v2 v3 = some q) (hq : (fun x => x = fin) q) : Wk p l e { frames := 8, cells := 0, slots := 0, locals := 173 } s m args below meth c Γ A fin none 0 4 [(0, .ref (ad Γ 401)), (1, .ref (aa Γ 800 0)), (2, .int v2), (3, .int v3)] [] g := by
  intro H locs ls hw hS hl
  unfold fX4_read at hf
  obtain ⟨hx, hb, hml, hr, hown, htw, hlocks, hE⟩ := id C
  have hown : s.vm.findClass RX4 = some m.cls := hown
  refine lv_aload_n hx hb dX4_read_0 rfl (lv_at hl 0 rfl) ?_
  refine lv_iconst (v := 0) hx hb dX4_read_1 (by decide) ?_
  refine lv_iload_n hx hb dX4_read_2 rfl (lv_at hl 2 rfl) ?_
  refine lv_aload_n hx hb dX4_read_3 rfl (lv_at hl 1 rfl) ?_
  refine va_alen (v := 600) hx hb hE.1 (hw _ _ (wf_800 hE)) 1 1 rfl rfl rfl dX4_read_4 ?_
  refine lv_sipush (v := 600) hx hb dX4_read_5 (by decide) ?_
  refine va_mmin hx hb (hml.trans hl.1.symm) hown (htw _ mw478) (htw _ mw222) (htw _ mw122) (htw _ mw223) (Nat.le_of_ble_eq_true rfl) (Nat.le_of_ble_eq_true rfl) (Nat.le_refl _) (Nat.le_refl _) dX4_read_8 ?_
  obtain ⟨x5, hx5, hf⟩ := bd hf
  have hx5 := Option.some.inj hx5
  refine tp1i hx5 ?_
  refine va_mmin hx hb (hml.trans hl.1.symm) hown (htw _ mw478) (htw _ mw222) (htw _ mw122) (htw _ mw223) (Nat.le_of_ble_eq_true rfl) (Nat.le_of_ble_eq_true rfl) (Nat.le_refl _) (Nat.le_refl _) dX4_read_11 ?_
  obtain ⟨x6, hx6, hf⟩ := bd hf
  have hx6 := Option.some.inj hx6
  refine tp1i hx6 ?_
  refine va_mmax hx hb (hml.trans hl.1.symm) hown (htw _ mw479) (htw _ mw225) (htw _ mw122) (htw _ mw226) (Nat.le_of_ble_eq_true rfl) (Nat.le_of_ble_eq_true rfl) (Nat.le_refl _) (Nat.le_refl _) dX4_read_14 ?_
  obtain ⟨x7, hx7, hf⟩ := bd hf
  have hx7 := Option.some.inj hx7
  refine tp1i hx7 ?_
  obtain ⟨g8, hg8, hf⟩ := bd hf
  have hg8 := Option.some.inj hg8
  refine wo_putG (C := RX4) (T := TX4) (N := 14) (v := .int x7) (ty := .int) hx hb htw uwX4 tyX4 tyX4_ok nmX4 hown hE hw hS (wf_401 hE) rfl rfl 1 (by decide) (htw _ mw284) (fun _ h9 => h9) rfl (tyX4_ok 1 (by decide)) rfl rfl (Nat.le_of_ble_eq_true rfl) (st4_1 rfl) hg8 dX4_read_17 (fun H locs hw hS => ?_)
  refine lv_aload_n hx hb dX4_read_20 rfl (lv_at hl 1 rfl) ?_
  refine lv_iconst (v := 0) hx hb dX4_read_21 (by decide) ?_
  refine lv_aload_n hx hb dX4_read_22 rfl (lv_at hl 0 rfl) ?_
  refine va_get (ci := 4) (v := .ref (aa Γ 401 0)) (C := RX4) (T := TX4) (N := 14) hx hb htw uwX4 hown hE.1 (hw _ _ (wf_401 hE)) 0 rfl rfl 0 (by decide) (htw _ mw283) (fun _ h9 => h9) rfl dX4_read_23 ?_
  refine lv_iconst (v := 0) hx hb dX4_read_26 (by decide) ?_
  refine lv_aload_n hx hb dX4_read_27 rfl (lv_at hl 0 rfl) ?_
  refine va_get (ci := 4) (v := .int (gi (g8 401) 1)) (C := RX4) (T := TX4) (N := 14) hx hb htw uwX4 hown hE.1 (hw _ _ (wf_401 hE)) 0 rfl rfl 1 (by decide) (htw _ mw284) (fun _ h9 => h9) rfl dX4_read_28 ?_
  obtain ⟨g9, hf⟩ := gd_some hf
  obtain ⟨g10, hf⟩ := gd_some hf
  obtain ⟨g11, hg11, hf⟩ := bd hf
  have hg11 := Option.some.inj hg11
  refine wo_copy hx hb (hml.trans hl.1.symm) hown (htw _ mw480) (htw _ mw482) (htw _ mw481) (htw _ mw130) hE (wo_gs hw) hS (wf_401 hE) (t := 1) ((hw _ _ (wf_800 hE)) 1 _ rfl) (q1 := 1) rfl rfl rfl g9 (fitB_of g10) (sa4_0 rfl) (Nat.le_of_ble_eq_true rfl) (by decide +kernel) dX4_read_31 (fun H locs hw hS => ?_)
  rw [hg11] at hw
  refine lv_aload_n hx hb dX4_read_34 rfl (lv_at hl 0 rfl) ?_
  refine lv_iconst (v := 0) hx hb dX4_read_35 (by decide) ?_
  obtain ⟨g12, hg12, hf⟩ := bd hf
  have hg12 := Option.some.inj hg12
  refine wo_putG (C := RX4) (T := TX4) (N := 14) (v := .int 0) (ty := .int) hx hb htw uwX4 tyX4 tyX4_ok nmX4 hown hE hw hS (wf_401 hE) rfl rfl 12 (by decide) (htw _ mw295) (fun _ h9 => h9) rfl (tyX4_ok 12 (by decide)) rfl rfl (Nat.le_of_ble_eq_true rfl) (st4_12 rfl) hg12 dX4_read_36 (fun H locs hw hS => ?_)
  refine lv_aload_n hx hb dX4_read_39 rfl (lv_at hl 0 rfl) ?_
  refine lv_iconst (v := (-1)) hx hb dX4_read_40 (by decide) ?_
  obtain ⟨g13, hg13, hf⟩ := bd hf
  have hg13 := Option.some.inj hg13
  refine wo_putG (C := RX4) (T := TX4) (N := 14) (v := .int (-1)) (ty := .int) hx hb htw uwX4 tyX4 tyX4_ok nmX4 hown hE hw hS (wf_401 hE) rfl rfl 13 (by decide) (htw _ mw297) (fun _ h9 => h9) rfl (tyX4_ok 13 (by decide)) rfl rfl (Nat.le_of_ble_eq_true rfl) (st4_13 rfl) hg13 dX4_read_41 (fun H locs hw hS => ?_)
  refine lv_aload_n hx hb dX4_read_44 rfl (lv_at hl 0 rfl) ?_
  refine lv_iload_n hx hb dX4_read_45 rfl (lv_at hl 3 rfl) ?_
  obtain ⟨z14, hz14, hf⟩ := bd hf
  refine cl_Vv (rest := []) (kgX4_readLines (l := l) (Γ := Γ) (A := A) (G := g13) (o := 401) (wf_401 hE) hz14) ⟨hx, hb, hml, hown, htw⟩ hE hw hS (hw _ _ (wf_401 hE)) (q0 := 0) rfl rfl mw483 mw485 mw0 mw123 mw486 pdX4_readLines ⟨Nat.le_of_ble_eq_true rfl, Nat.le_of_ble_eq_true rfl⟩ rfl rfl hl.1 (Nat.le_of_ble_eq_true rfl) dX4_read_46 (fun H locs hw hS => ?_)
  obtain ⟨g15, hg15, hf⟩ := bd hf
  have hg15 := Option.some.inj hg15
  rw [hg15] at hw
  refine lv_aload_n hx hb dX4_read_49 rfl (lv_at hl 0 rfl) ?_
  refine va_get (ci := 4) (v := .int (gi (g15 401) 12)) (C := RX4) (T := TX4) (N := 14) hx hb htw uwX4 hown hE.1 (hw _ _ (wf_401 hE)) 0 rfl rfl 12 (by decide) (htw _ mw295) (fun _ h9 => h9) rfl dX4_read_50 ?_
  refine lv_if_ne (tgt := 60) hx hb dX4_read_53 (by decide) (fun c18 => ?_) (fun c18 => ?_)
  · have hf := ifn c18 hf
    exact wX4_read_60 C hf hq H locs ls hw hS (lv_sub hl [0, 3] rfl)
  · have hf := ifp c18 hf
    refine lv_aload_n hx hb dX4_read_56 rfl (lv_at hl 0 rfl) ?_
    obtain ⟨z16, hz16, hf⟩ := bd hf
    refine cl_Vv (rest := []) (kgX4_checkLines (l := l) (Γ := Γ) (A := A) (G := g15) (o := 401) (wf_401 hE) hz16) ⟨hx, hb, hml, hown, htw⟩ hE hw hS (hw _ _ (wf_401 hE)) (q0 := 0) rfl rfl mw600 mw602 mw9 mw123 mw603 pdX4_checkLines ⟨Nat.le_of_ble_eq_true rfl, Nat.le_of_ble_eq_true rfl⟩ rfl rfl hl.1 (Nat.le_of_ble_eq_true rfl) dX4_read_57 (fun H locs hw hS => ?_)
    obtain ⟨g17, hg17, hf⟩ := bd hf
    have hg17 := Option.some.inj hg17
    rw [hg17] at hw
    exact wX4_read_60 C hf hq H locs ls hw hS (lv_sub hl [0, 3] rfl)

theorem kX4_read {l : Launch} {Γ : Gm} {A : Nat → Prop} {g : Gs} {v2 : Int32} {v3 : Int32} {fin : Gs} (hf : fX4_read g v2 v3 = some fin) : Kt l yX4_read cX4_read 4 none 8 173 Γ A g fin [.ref (ad Γ 401), .ref (aa Γ 800 0), .int v2, .int v3] none :=
  kt_of (by decide) (Nat.le_of_ble_eq_true rfl) (fun p e s m args below meth c C => wX4_read_e C hf rfl)
noncomputable def bX4_fillHouse_141 (g : Gs) (v1 : Nat) (v2 : Int32) : Option ((Int32 × Gs) ⊕ Gs) :=
  some (.inl (v2 + 1, g))
set_option maxRecDepth 100000 in
set_option maxHeartbeats 4000000 in
theorem wX4_fillHouse_141 {p : Program} {l : Launch} {e : Env} {s : State} {m : MethodId} {args : Array Value} {below : List Frame} {meth : Method} {c : Code} {Γ : Gm} {A : Nat → Prop} {g : Gs} {v1 : Nat} {v2 : Int32} {q : ((Int32 × Gs) ⊕ Gs)} {fin : Gs} (C : Cx p s m args meth c yX4_fillHouse cX4_fillHouse 4 none Γ A) (hv1 : kd Γ v1 = some 2) (hf : bX4_fillHouse_141 g v1 v2 = some q) (hq : (KC (fun st : Int32 × Gs => Wk p l e { frames := 2, cells := 0, slots := 0, locals := 43 } s m args below meth c Γ A fin none 11 4 [(0, .ref (ad Γ 401)), (1, .ref (ad Γ v1)), (2, .int st.1)] [] st.2) (fun x => x = fin)) q) : Wk p l e { frames := 2, cells := 0, slots := 0, locals := 43 } s m args below meth c Γ A fin none 141 4 [(0, .ref (ad Γ 401)), (1, .ref (ad Γ v1)), (2, .int v2)] [] g := by
  intro H locs ls hw hS hl
  unfold bX4_fillHouse_141 at hf
  obtain ⟨hx, hb, hml, hr, hown, htw, hlocks, hE⟩ := id C
  have hown : s.vm.findClass RX4 = some m.cls := hown
  refine lv_iinc (v := v2 + 1) (lv' := [(2, .int (v2 + 1)), (0, .ref (ad Γ 401)), (1, .ref (ad Γ v1))]) hx hb dX4_fillHouse_141 hl (k := 2) rfl (by rfl) (by decide) rfl (fun ls hl => ?_)
  refine lv_goto (tgt := 11) hx hb dX4_fillHouse_144 (by decide) ?_
  obtain rfl := Option.some.inj hf
  exact hq.1 _ rfl H locs ls hw hS (lv_sub hl [1, 2, 0] rfl)

noncomputable def bX4_fillHouse_11 (g : Gs) (v1 : Nat) (v2 : Int32) : Option ((Int32 × Gs) ⊕ Gs) :=
  if (gi (g 401) 5) ≤ v2 then some (.inr (g)) else gd (inR v2 120) (if (ga (g 401) 6 (Int32.toNatClampNeg v2)) = 0 then gd (inR v2 120) (gd (inR (v2 * 3) 360) ((fX2_addPiece (g v1) (ga (g 401) 7 (Int32.toNatClampNeg v2)) (ga (g 401) 9 (Int32.toNatClampNeg (v2 * 3)))).bind fun z9 => (some (ug g v1 z9)).bind fun g10 => bX4_fillHouse_141 g10 v1 v2)) else if (ga (g 401) 6 (Int32.toNatClampNeg v2)) = 1 then gd (inR v2 120) (gd (inR (v2 * 3) 360) ((fX2_addSecret (g v1) (ga (g 401) 7 (Int32.toNatClampNeg v2)) (ga (g 401) 9 (Int32.toNatClampNeg (v2 * 3)))).bind fun z13 => (some (ug g v1 z13)).bind fun g14 => bX4_fillHouse_141 g14 v1 v2)) else if (ga (g 401) 6 (Int32.toNatClampNeg v2)) = 2 then gd (inR (v2 * 3) 360) (gd (inR ((v2 * 3) + 1) 360) ((fX2_addKnown (g v1) (ga (g 401) 9 (Int32.toNatClampNeg (v2 * 3))) (ga (g 401) 9 (Int32.toNatClampNeg ((v2 * 3) + 1)))).bind fun z17 => (some (ug g v1 z17)).bind fun g18 => bX4_fillHouse_141 g18 v1 v2)) else gd (inR (v2 * 3) 360) (gd (inR ((v2 * 3) + 1) 360) (gd (inR ((v2 * 3) + 2) 360) ((fX2_addLink (g v1) (ga (g 401) 9 (Int32.toNatClampNeg (v2 * 3))) (ga (g 401) 9 (Int32.toNatClampNeg ((v2 * 3) + 1))) (ga (g 401) 9 (Int32.toNatClampNeg ((v2 * 3) + 2)))).bind fun z5 => (some (ug g v1 z5)).bind fun g6 => bX4_fillHouse_141 g6 v1 v2))))
set_option maxRecDepth 100000 in
set_option maxHeartbeats 4000000 in
theorem wX4_fillHouse_11 {p : Program} {l : Launch} {e : Env} {s : State} {m : MethodId} {args : Array Value} {below : List Frame} {meth : Method} {c : Code} {Γ : Gm} {A : Nat → Prop} {g : Gs} {v1 : Nat} {v2 : Int32} {q : ((Int32 × Gs) ⊕ Gs)} {fin : Gs} (C : Cx p s m args meth c yX4_fillHouse cX4_fillHouse 4 none Γ A) (hv1 : kd Γ v1 = some 2) (hf : bX4_fillHouse_11 g v1 v2 = some q) (hq : (KC (fun st : Int32 × Gs => Wk p l e { frames := 2, cells := 0, slots := 0, locals := 43 } s m args below meth c Γ A fin none 11 4 [(0, .ref (ad Γ 401)), (1, .ref (ad Γ v1)), (2, .int st.1)] [] st.2) (fun x => x = fin)) q) : Wk p l e { frames := 2, cells := 0, slots := 0, locals := 43 } s m args below meth c Γ A fin none 11 4 [(0, .ref (ad Γ 401)), (1, .ref (ad Γ v1)), (2, .int v2)] [] g := by
  intro H locs ls hw hS hl
  unfold bX4_fillHouse_11 at hf
  obtain ⟨hx, hb, hml, hr, hown, htw, hlocks, hE⟩ := id C
  have hown : s.vm.findClass RX4 = some m.cls := hown
  refine lv_iload_n hx hb dX4_fillHouse_11 rfl (lv_at hl 2 rfl) ?_
  refine lv_aload_n hx hb dX4_fillHouse_12 rfl (lv_at hl 0 rfl) ?_
  refine va_get (ci := 4) (v := .int (gi (g 401) 5)) (C := RX4) (T := TX4) (N := 14) hx hb htw uwX4 hown hE.1 (hw _ _ (wf_401 hE)) 0 rfl rfl 5 (by decide) (htw _ mw288) (fun _ h9 => h9) rfl dX4_fillHouse_13 ?_
  refine lv_icmp_ge (tgt := 147) hx hb dX4_fillHouse_16 (by decide) (fun c22 => ?_) (fun c22 => ?_)
  · have hf := ifp c22 hf
    obtain rfl := Option.some.inj hf
    have hq := hq.2 _ rfl
    subst hq
    exact rt_v C hw hS dX4_fillHouse_147
  · have hf := ifn c22 hf
    refine lv_iload_n hx hb dX4_fillHouse_19 rfl (lv_at hl 2 rfl) ?_
    refine lv_iconst (v := 3) hx hb dX4_fillHouse_20 (by decide) ?_
    refine lv_imul hx hb dX4_fillHouse_21 ?_
    refine lv_istore_n (lv' := [(3, .int (v2 * 3)), (0, .ref (ad Γ 401)), (1, .ref (ad Γ v1)), (2, .int v2)]) hx hb dX4_fillHouse_22 rfl hl (by decide) rfl (fun ls hl => ?_)
    refine lv_aload_n hx hb dX4_fillHouse_23 rfl (lv_at hl 1 rfl) ?_
    refine va_get (ci := 4) (v := .ref (aa Γ 401 6)) (C := RX4) (T := TX4) (N := 14) hx hb htw uwX4 hown hE.1 (hw _ _ (wf_401 hE)) 0 rfl rfl 6 (by decide) (htw _ mw289) (fun _ h9 => h9) rfl dX4_fillHouse_24 ?_
    refine lv_iload_n hx hb dX4_fillHouse_27 rfl (lv_at hl 3 rfl) ?_
    obtain ⟨g1, hf⟩ := gd_some hf
    refine va_iald hx hb hE.1 (hw _ _ (wf_401 hE)) 2 0 rfl rfl (inR_in g1) dX4_fillHouse_28 ?_
    by_cases c19 : (ga (g 401) 6 (Int32.toNatClampNeg v2)) = 0
    · have hf := ifp c19 hf
      rw [c19]
      refine lv_tableIn (off := 27) (tgt := 56) hx hb dX4_fillHouse_29 (by decide) (by decide) (by rfl) (by decide) ?_
      refine lv_aload_n hx hb dX4_fillHouse_56 rfl (lv_at hl 2 rfl) ?_
      refine lv_aload_n hx hb dX4_fillHouse_57 rfl (lv_at hl 1 rfl) ?_
      refine va_get (ci := 4) (v := .ref (aa Γ 401 7)) (C := RX4) (T := TX4) (N := 14) hx hb htw uwX4 hown hE.1 (hw _ _ (wf_401 hE)) 0 rfl rfl 7 (by decide) (htw _ mw290) (fun _ h9 => h9) rfl dX4_fillHouse_58 ?_
      refine lv_iload_n hx hb dX4_fillHouse_61 rfl (lv_at hl 3 rfl) ?_
      obtain ⟨g7, hf⟩ := gd_some hf
      refine va_iald hx hb hE.1 (hw _ _ (wf_401 hE)) 3 0 rfl rfl (inR_in g7) dX4_fillHouse_62 ?_
      refine lv_aload_n hx hb dX4_fillHouse_63 rfl (lv_at hl 1 rfl) ?_
      refine va_get (ci := 4) (v := .ref (aa Γ 401 9)) (C := RX4) (T := TX4) (N := 14) hx hb htw uwX4 hown hE.1 (hw _ _ (wf_401 hE)) 0 rfl rfl 9 (by decide) (htw _ mw292) (fun _ h9 => h9) rfl dX4_fillHouse_64 ?_
      refine lv_iload_n hx hb dX4_fillHouse_67 rfl (lv_at hl 0 rfl) ?_
      obtain ⟨g8, hf⟩ := gd_some hf
      refine va_iald hx hb hE.1 (hw _ _ (wf_401 hE)) 5 0 rfl rfl (inR_in g8) dX4_fillHouse_68 ?_
      obtain ⟨z9, hz9, hf⟩ := bd hf
      refine cl_Vv (rest := []) (kgX2_addPiece (l := l) (Γ := Γ) (A := A) (G := g) (o := v1) hv1 hz9) ⟨hx, hb, hml, hown, htw⟩ hE hw hS (hw _ _ hv1) (q0 := 0) rfl rfl mw642 mw643 mw644 mw120 mw645 pdX2_addPiece ⟨Nat.le_of_ble_eq_true rfl, Nat.le_of_ble_eq_true rfl⟩ rfl rfl hl.1 (Nat.le_of_ble_eq_true rfl) dX4_fillHouse_69 (fun H locs hw hS => ?_)
      obtain ⟨g10, hg10, hf⟩ := bd hf
      have hg10 := Option.some.inj hg10
      rw [hg10] at hw
      refine lv_goto (tgt := 141) hx hb dX4_fillHouse_72 (by decide) ?_
      exact wX4_fillHouse_141 C hv1 hf hq H locs ls hw hS (lv_sub hl [1, 2, 3] rfl)
    have hf := ifn c19 hf
    by_cases c20 : (ga (g 401) 6 (Int32.toNatClampNeg v2)) = 1
    · have hf := ifp c20 hf
      rw [c20]
      refine lv_tableIn (off := 46) (tgt := 75) hx hb dX4_fillHouse_29 (by decide) (by decide) (by rfl) (by decide) ?_
      refine lv_aload_n hx hb dX4_fillHouse_75 rfl (lv_at hl 2 rfl) ?_
      refine lv_aload_n hx hb dX4_fillHouse_76 rfl (lv_at hl 1 rfl) ?_
      refine va_get (ci := 4) (v := .ref (aa Γ 401 7)) (C := RX4) (T := TX4) (N := 14) hx hb htw uwX4 hown hE.1 (hw _ _ (wf_401 hE)) 0 rfl rfl 7 (by decide) (htw _ mw290) (fun _ h9 => h9) rfl dX4_fillHouse_77 ?_
      refine lv_iload_n hx hb dX4_fillHouse_80 rfl (lv_at hl 3 rfl) ?_
      obtain ⟨g11, hf⟩ := gd_some hf
      refine va_iald hx hb hE.1 (hw _ _ (wf_401 hE)) 3 0 rfl rfl (inR_in g11) dX4_fillHouse_81 ?_
      refine lv_aload_n hx hb dX4_fillHouse_82 rfl (lv_at hl 1 rfl) ?_
      refine va_get (ci := 4) (v := .ref (aa Γ 401 9)) (C := RX4) (T := TX4) (N := 14) hx hb htw uwX4 hown hE.1 (hw _ _ (wf_401 hE)) 0 rfl rfl 9 (by decide) (htw _ mw292) (fun _ h9 => h9) rfl dX4_fillHouse_83 ?_
      refine lv_iload_n hx hb dX4_fillHouse_86 rfl (lv_at hl 0 rfl) ?_
      obtain ⟨g12, hf⟩ := gd_some hf
      refine va_iald hx hb hE.1 (hw _ _ (wf_401 hE)) 5 0 rfl rfl (inR_in g12) dX4_fillHouse_87 ?_
      obtain ⟨z13, hz13, hf⟩ := bd hf
      refine cl_Vv (rest := []) (kgX2_addSecret (l := l) (Γ := Γ) (A := A) (G := g) (o := v1) hv1 hz13) ⟨hx, hb, hml, hown, htw⟩ hE hw hS (hw _ _ hv1) (q0 := 0) rfl rfl mw646 mw647 mw648 mw120 mw649 pdX2_addSecret ⟨Nat.le_of_ble_eq_true rfl, Nat.le_of_ble_eq_true rfl⟩ rfl rfl hl.1 (Nat.le_of_ble_eq_true rfl) dX4_fillHouse_88 (fun H locs hw hS => ?_)
      obtain ⟨g14, hg14, hf⟩ := bd hf
      have hg14 := Option.some.inj hg14
      rw [hg14] at hw
      refine lv_goto (tgt := 141) hx hb dX4_fillHouse_91 (by decide) ?_
      exact wX4_fillHouse_141 C hv1 hf hq H locs ls hw hS (lv_sub hl [1, 2, 3] rfl)
    have hf := ifn c20 hf
    by_cases c21 : (ga (g 401) 6 (Int32.toNatClampNeg v2)) = 2
    · have hf := ifp c21 hf
      rw [c21]
      refine lv_tableIn (off := 65) (tgt := 94) hx hb dX4_fillHouse_29 (by decide) (by decide) (by rfl) (by decide) ?_
      refine lv_aload_n hx hb dX4_fillHouse_94 rfl (lv_at hl 2 rfl) ?_
      refine lv_aload_n hx hb dX4_fillHouse_95 rfl (lv_at hl 1 rfl) ?_
      refine va_get (ci := 4) (v := .ref (aa Γ 401 9)) (C := RX4) (T := TX4) (N := 14) hx hb htw uwX4 hown hE.1 (hw _ _ (wf_401 hE)) 0 rfl rfl 9 (by decide) (htw _ mw292) (fun _ h9 => h9) rfl dX4_fillHouse_96 ?_
      refine lv_iload_n hx hb dX4_fillHouse_99 rfl (lv_at hl 0 rfl) ?_
      obtain ⟨g15, hf⟩ := gd_some hf
      refine va_iald hx hb hE.1 (hw _ _ (wf_401 hE)) 5 0 rfl rfl (inR_in g15) dX4_fillHouse_100 ?_
      refine lv_aload_n hx hb dX4_fillHouse_101 rfl (lv_at hl 1 rfl) ?_
      refine va_get (ci := 4) (v := .ref (aa Γ 401 9)) (C := RX4) (T := TX4) (N := 14) hx hb htw uwX4 hown hE.1 (hw _ _ (wf_401 hE)) 0 rfl rfl 9 (by decide) (htw _ mw292) (fun _ h9 => h9) rfl dX4_fillHouse_102 ?_
      refine lv_iload_n hx hb dX4_fillHouse_105 rfl (lv_at hl 0 rfl) ?_
      refine lv_iconst (v := 1) hx hb dX4_fillHouse_106 (by decide) ?_
      refine lv_iadd hx hb dX4_fillHouse_107 ?_
      obtain ⟨g16, hf⟩ := gd_some hf
      refine va_iald hx hb hE.1 (hw _ _ (wf_401 hE)) 5 0 rfl rfl (inR_in g16) dX4_fillHouse_108 ?_
      obtain ⟨z17, hz17, hf⟩ := bd hf
      refine cl_Vv (rest := []) (kgX2_addKnown (l := l) (Γ := Γ) (A := A) (G := g) (o := v1) hv1 hz17) ⟨hx, hb, hml, hown, htw⟩ hE hw hS (hw _ _ hv1) (q0 := 0) rfl rfl mw650 mw651 mw652 mw120 mw653 pdX2_addKnown ⟨Nat.le_of_ble_eq_true rfl, Nat.le_of_ble_eq_true rfl⟩ rfl rfl hl.1 (Nat.le_of_ble_eq_true rfl) dX4_fillHouse_109 (fun H locs hw hS => ?_)
      obtain ⟨g18, hg18, hf⟩ := bd hf
      have hg18 := Option.some.inj hg18
      rw [hg18] at hw
      refine lv_goto (tgt := 141) hx hb dX4_fillHouse_112 (by decide) ?_
      exact wX4_fillHouse_141 C hv1 hf hq H locs ls hw hS (lv_sub hl [1, 2, 3] rfl)
    have hf := ifn c21 hf
    refine lv_tableOut (tgt := 115) hx hb dX4_fillHouse_29 (by have := And.intro (ts_ne (k := 0) (by decide) c19) (And.intro (ts_ne (k := 1) (by decide) c20) (And.intro (ts_ne (k := 2) (by decide) c21) (True.intro))); omega) (by decide) ?_
    refine lv_aload_n hx hb dX4_fillHouse_115 rfl (lv_at hl 2 rfl) ?_
    refine lv_aload_n hx hb dX4_fillHouse_116 rfl (lv_at hl 1 rfl) ?_
    refine va_get (ci := 4) (v := .ref (aa Γ 401 9)) (C := RX4) (T := TX4) (N := 14) hx hb htw uwX4 hown hE.1 (hw _ _ (wf_401 hE)) 0 rfl rfl 9 (by decide) (htw _ mw292) (fun _ h9 => h9) rfl dX4_fillHouse_117 ?_
    refine lv_iload_n hx hb dX4_fillHouse_120 rfl (lv_at hl 0 rfl) ?_
    obtain ⟨g2, hf⟩ := gd_some hf
    refine va_iald hx hb hE.1 (hw _ _ (wf_401 hE)) 5 0 rfl rfl (inR_in g2) dX4_fillHouse_121 ?_
    refine lv_aload_n hx hb dX4_fillHouse_122 rfl (lv_at hl 1 rfl) ?_
    refine va_get (ci := 4) (v := .ref (aa Γ 401 9)) (C := RX4) (T := TX4) (N := 14) hx hb htw uwX4 hown hE.1 (hw _ _ (wf_401 hE)) 0 rfl rfl 9 (by decide) (htw _ mw292) (fun _ h9 => h9) rfl dX4_fillHouse_123 ?_
    refine lv_iload_n hx hb dX4_fillHouse_126 rfl (lv_at hl 0 rfl) ?_
    refine lv_iconst (v := 1) hx hb dX4_fillHouse_127 (by decide) ?_
    refine lv_iadd hx hb dX4_fillHouse_128 ?_
    obtain ⟨g3, hf⟩ := gd_some hf
    refine va_iald hx hb hE.1 (hw _ _ (wf_401 hE)) 5 0 rfl rfl (inR_in g3) dX4_fillHouse_129 ?_
    refine lv_aload_n hx hb dX4_fillHouse_130 rfl (lv_at hl 1 rfl) ?_
    refine va_get (ci := 4) (v := .ref (aa Γ 401 9)) (C := RX4) (T := TX4) (N := 14) hx hb htw uwX4 hown hE.1 (hw _ _ (wf_401 hE)) 0 rfl rfl 9 (by decide) (htw _ mw292) (fun _ h9 => h9) rfl dX4_fillHouse_131 ?_
    refine lv_iload_n hx hb dX4_fillHouse_134 rfl (lv_at hl 0 rfl) ?_
    refine lv_iconst (v := 2) hx hb dX4_fillHouse_135 (by decide) ?_
    refine lv_iadd hx hb dX4_fillHouse_136 ?_
    obtain ⟨g4, hf⟩ := gd_some hf
    refine va_iald hx hb hE.1 (hw _ _ (wf_401 hE)) 5 0 rfl rfl (inR_in g4) dX4_fillHouse_137 ?_
    obtain ⟨z5, hz5, hf⟩ := bd hf
    refine cl_Vv (rest := []) (kgX2_addLink (l := l) (Γ := Γ) (A := A) (G := g) (o := v1) hv1 hz5) ⟨hx, hb, hml, hown, htw⟩ hE hw hS (hw _ _ hv1) (q0 := 0) rfl rfl mw654 mw655 mw656 mw120 mw657 pdX2_addLink ⟨Nat.le_of_ble_eq_true rfl, Nat.le_of_ble_eq_true rfl⟩ rfl rfl hl.1 (Nat.le_of_ble_eq_true rfl) dX4_fillHouse_138 (fun H locs hw hS => ?_)
    obtain ⟨g6, hg6, hf⟩ := bd hf
    have hg6 := Option.some.inj hg6
    rw [hg6] at hw
    exact wX4_fillHouse_141 C hv1 hf hq H locs ls hw hS (lv_sub hl [1, 2, 3] rfl)

set_option maxRecDepth 100000 in
set_option maxHeartbeats 4000000 in
theorem lwX4_fillHouse_11 {p : Program} {l : Launch} {e : Env} {s : State} {m : MethodId} {args : Array Value} {below : List Frame} {meth : Method} {c : Code} {Γ : Gm} {A : Nat → Prop} {g : Gs} {v1 : Nat} {v2 : Int32} {q : Gs} {fin : Gs} (C : Cx p s m args meth c yX4_fillHouse cX4_fillHouse 4 none Γ A) (hv1 : kd Γ v1 = some 2) (hf : iter (fun st : Int32 × Gs => bX4_fillHouse_11 st.2 v1 st.1) (v2, g) = some q) (hq : (fun x => x = fin) q) : Wk p l e { frames := 2, cells := 0, slots := 0, locals := 43 } s m args below meth c Γ A fin none 11 4 [(0, .ref (ad Γ 401)), (1, .ref (ad Γ v1)), (2, .int v2)] [] g := by
  intro H locs ls hw hS hl
  refine iter_walk (P := (fun st : Int32 × Gs => Wk p l e { frames := 2, cells := 0, slots := 0, locals := 43 } s m args below meth c Γ A fin none 11 4 [(0, .ref (ad Γ 401)), (1, .ref (ad Γ v1)), (2, .int st.1)] [] st.2)) (K := (fun x => x = fin)) (fun st q hq1 h1 h2 => ?_) hf hq H locs ls hw hS hl
  exact wX4_fillHouse_11 (g := st.2) (v2 := st.1) C hv1 hq1 ⟨h1, h2⟩

noncomputable def fX4_fillHouse (g : Gs) (w1 : Option Nat) : Option Gs :=
  oc w1 (some (g)) (fun u1 => (fX2_empty (g u1)).bind fun z23 => (some (ug g u1 z23)).bind fun g24 => iter (fun st : Int32 × Gs => bX4_fillHouse_11 st.2 u1 st.1) (0, g24))
set_option maxRecDepth 100000 in
set_option maxHeartbeats 4000000 in
theorem wX4_fillHouse_e {p : Program} {l : Launch} {e : Env} {s : State} {m : MethodId} {args : Array Value} {below : List Frame} {meth : Method} {c : Code} {Γ : Gm} {A : Nat → Prop} {g : Gs} {w1 : Option Nat} {q : Gs} {fin : Gs} (C : Cx p s m args meth c yX4_fillHouse cX4_fillHouse 4 none Γ A) (hw1 : ∀ h, w1 = some h → kd Γ h = some 2) (hf : fX4_fillHouse g w1 = some q) (hq : (fun x => x = fin) q) : Wk p l e { frames := 2, cells := 0, slots := 0, locals := 43 } s m args below meth c Γ A fin none 0 4 [(0, .ref (ad Γ 401)), (1, va_rf (w1.map (ad Γ)))] [] g := by
  intro H locs ls hw hS hl
  unfold fX4_fillHouse at hf
  obtain ⟨hx, hb, hml, hr, hown, htw, hlocks, hE⟩ := id C
  have hown : s.vm.findClass RX4 = some m.cls := hown
  cases w1 with
  | none =>
    have hf := oc_none hf
    refine lv_aload_nN hx hb dX4_fillHouse_0 rfl (lv_at hl 1 rfl) ?_
    refine lv_ifnonnullN hx hb dX4_fillHouse_1 ?_
    obtain rfl := Option.some.inj hf
    subst hq
    exact rt_v C hw hS dX4_fillHouse_4
  | some u1 =>
    have hf := oc_some hf
    have ku1 := hw1 _ rfl
    refine lv_aload_n hx hb dX4_fillHouse_0 rfl (lv_at hl 1 rfl) ?_
    refine lv_ifnonnull (tgt := 5) hx hb dX4_fillHouse_1 (by decide) ?_
    refine lv_aload_n hx hb dX4_fillHouse_5 rfl (lv_at hl 1 rfl) ?_
    obtain ⟨z23, hz23, hf⟩ := bd hf
    refine cl_Vv (rest := []) (kgX2_empty (l := l) (Γ := Γ) (A := A) (G := g) (o := u1) ku1 hz23) ⟨hx, hb, hml, hown, htw⟩ hE hw hS (hw _ _ ku1) (q0 := 0) rfl rfl mw637 mw638 mw639 mw120 mw640 pdX2_empty ⟨Nat.le_of_ble_eq_true rfl, Nat.le_of_ble_eq_true rfl⟩ rfl rfl hl.1 (Nat.le_of_ble_eq_true rfl) dX4_fillHouse_6 (fun H locs hw hS => ?_)
    obtain ⟨g24, hg24, hf⟩ := bd hf
    have hg24 := Option.some.inj hg24
    rw [hg24] at hw
    refine lv_iconst (v := 0) hx hb dX4_fillHouse_9 (by decide) ?_
    refine lv_istore_n (lv' := [(2, .int 0), (0, .ref (ad Γ 401)), (1, .ref (ad Γ u1))]) hx hb dX4_fillHouse_10 rfl hl (by decide) rfl (fun ls hl => ?_)
    exact lwX4_fillHouse_11 C ku1 hf hq H locs ls hw hS (lv_sub hl [1, 2, 0] rfl)

theorem kX4_fillHouse {l : Launch} {Γ : Gm} {A : Nat → Prop} {g : Gs} {w1 : Option Nat} {fin : Gs} (hw1 : ∀ h, w1 = some h → kd Γ h = some 2) (hf : fX4_fillHouse g w1 = some fin) : Kt l yX4_fillHouse cX4_fillHouse 4 none 2 43 Γ A g fin [.ref (ad Γ 401), va_rf (w1.map (ad Γ))] none := by
  cases w1 with
  | none => exact kt_of (by decide) (Nat.le_of_ble_eq_true rfl) (fun p e s m args below meth c C => wX4_fillHouse_e C hw1 hf rfl)
  | some u => exact kt_of (by decide) (Nat.le_of_ble_eq_true rfl) (fun p e s m args below meth c C => wX4_fillHouse_e C hw1 hf rfl)
noncomputable def fX5_add (r : Rec) (v1 : Int32) (v2 : Int32) (v3 : Int32) (v4 : Int32) : Option Rec :=
  if (gi r 2) < (gi r 0) then gd (inR ((gi r 2) * 4) (4 * Int32.toNatClampNeg (gi r 0))) ((some (sa r 1 (upd (ga r 1) (Int32.toNatClampNeg ((gi r 2) * 4)) v1))).bind fun r2 => gd (inR (((gi r 2) * 4) + 1) (4 * Int32.toNatClampNeg (gi r2 0))) ((some (sa r2 1 (upd (ga r2 1) (Int32.toNatClampNeg (((gi r 2) * 4) + 1)) v2))).bind fun r4 => gd (inR (((gi r 2) * 4) + 2) (4 * Int32.toNatClampNeg (gi r4 0))) ((some (sa r4 1 (upd (ga r4 1) (Int32.toNatClampNeg (((gi r 2) * 4) + 2)) v3))).bind fun r6 => gd (inR (((gi r 2) * 4) + 3) (4 * Int32.toNatClampNeg (gi r6 0))) ((some (sa r6 1 (upd (ga r6 1) (Int32.toNatClampNeg (((gi r 2) * 4) + 3)) v4))).bind fun r8 => (some (si r8 2 ((gi r8 2) + 1))).bind fun r9 => some (r9))))) else some (r)
set_option maxRecDepth 100000 in
set_option maxHeartbeats 4000000 in
theorem wX5_add_e {p : Program} {l : Launch} {e : Env} {s : State} {m : MethodId} {args : Array Value} {below : List Frame} {meth : Method} {c : Code} {Γ : Gm} {A : Nat → Prop} {G : Gs} {o : Nat} {r : Rec} {v1 : Int32} {v2 : Int32} {v3 : Int32} {v4 : Int32} {q : Rec} {fin : Rec} (C : Cx p s m args meth c yX5_add cX5_add 6 none Γ A) (hk : kd Γ o = some 5) (hf : fX5_add r v1 v2 v3 v4 = some q) (hq : (fun x => x = fin) q) : Wk p l e { frames := 0, cells := 0, slots := 0, locals := 0 } s m args below meth c Γ A (ug G o fin) none 0 6 [(0, .ref (ad Γ o)), (1, .int v1), (2, .int v2), (3, .int v3), (4, .int v4)] [] (ug G o r) := by
  intro H locs ls hw hS hl
  unfold fX5_add at hf
  obtain ⟨hx, hb, hml, hr, hown, htw, hlocks, hE⟩ := id C
  have hown : s.vm.findClass RX5 = some m.cls := hown
  refine lv_aload_n hx hb dX5_add_0 rfl (lv_at hl 0 rfl) ?_
  refine va_get (ci := 5) (v := .int (gi r 2)) (C := RX5) (T := TX5) (N := 3) hx hb htw uwX5 hown hE.1 (wo_me hw hk) 0 rfl rfl 2 (by decide) (htw _ mw229) (fun _ h9 => h9) rfl dX5_add_1 ?_
  refine lv_aload_n hx hb dX5_add_4 rfl (lv_at hl 0 rfl) ?_
  refine va_get (ci := 5) (v := .int (gi r 0)) (C := RX5) (T := TX5) (N := 3) hx hb htw uwX5 hown hE.1 (wo_me hw hk) 0 rfl rfl 0 (by decide) (htw _ mw227) (fun _ h9 => h9) rfl dX5_add_5 ?_
  refine lv_icmp_lt (tgt := 12) hx hb dX5_add_8 (by decide) (fun c10 => ?_) (fun c10 => ?_)
  · have hf := ifp c10 hf
    refine lv_aload_n hx hb dX5_add_12 rfl (lv_at hl 0 rfl) ?_
    refine va_get (ci := 5) (v := .int (gi r 2)) (C := RX5) (T := TX5) (N := 3) hx hb htw uwX5 hown hE.1 (wo_me hw hk) 0 rfl rfl 2 (by decide) (htw _ mw229) (fun _ h9 => h9) rfl dX5_add_13 ?_
    refine lv_iconst (v := 4) hx hb dX5_add_16 (by decide) ?_
    refine lv_imul hx hb dX5_add_17 ?_
    refine lv_istore (lv' := [(5, .int ((gi r 2) * 4)), (0, .ref (ad Γ o)), (1, .int v1), (2, .int v2), (3, .int v3), (4, .int v4)]) hx hb dX5_add_18 hl (by decide) rfl (fun ls hl => ?_)
    refine lv_aload_n hx hb dX5_add_20 rfl (lv_at hl 1 rfl) ?_
    refine va_get (ci := 5) (v := .ref (aa Γ o 1)) (C := RX5) (T := TX5) (N := 3) hx hb htw uwX5 hown hE.1 (wo_me hw hk) 0 rfl rfl 1 (by decide) (htw _ mw228) (fun _ h9 => h9) rfl dX5_add_21 ?_
    refine lv_iload hx hb dX5_add_24 (lv_at hl 0 rfl) ?_
    refine lv_iload_n hx hb dX5_add_26 rfl (lv_at hl 2 rfl) ?_
    obtain ⟨g1, hf⟩ := gd_some hf
    obtain ⟨r2, hr2, hf⟩ := bd hf
    have hr2 := Option.some.inj hr2
    refine wo_iast hx hb hE hw hS hk (q0 := 1) rfl (inR_in g1) (sa5_1 hr2) dX5_add_27 (fun H locs hw hS => ?_)
    refine lv_aload_n hx hb dX5_add_28 rfl (lv_at hl 1 rfl) ?_
    refine va_get (ci := 5) (v := .ref (aa Γ o 1)) (C := RX5) (T := TX5) (N := 3) hx hb htw uwX5 hown hE.1 (wo_me hw hk) 0 rfl rfl 1 (by decide) (htw _ mw228) (fun _ h9 => h9) rfl dX5_add_29 ?_
    refine lv_iload hx hb dX5_add_32 (lv_at hl 0 rfl) ?_
    refine lv_iconst (v := 1) hx hb dX5_add_34 (by decide) ?_
    refine lv_iadd hx hb dX5_add_35 ?_
    refine lv_iload_n hx hb dX5_add_36 rfl (lv_at hl 3 rfl) ?_
    obtain ⟨g3, hf⟩ := gd_some hf
    obtain ⟨r4, hr4, hf⟩ := bd hf
    have hr4 := Option.some.inj hr4
    refine wo_iast hx hb hE hw hS hk (q0 := 1) rfl (inR_in g3) (sa5_1 hr4) dX5_add_37 (fun H locs hw hS => ?_)
    refine lv_aload_n hx hb dX5_add_38 rfl (lv_at hl 1 rfl) ?_
    refine va_get (ci := 5) (v := .ref (aa Γ o 1)) (C := RX5) (T := TX5) (N := 3) hx hb htw uwX5 hown hE.1 (wo_me hw hk) 0 rfl rfl 1 (by decide) (htw _ mw228) (fun _ h9 => h9) rfl dX5_add_39 ?_
    refine lv_iload hx hb dX5_add_42 (lv_at hl 0 rfl) ?_
    refine lv_iconst (v := 2) hx hb dX5_add_44 (by decide) ?_
    refine lv_iadd hx hb dX5_add_45 ?_
    refine lv_iload_n hx hb dX5_add_46 rfl (lv_at hl 4 rfl) ?_
    obtain ⟨g5, hf⟩ := gd_some hf
    obtain ⟨r6, hr6, hf⟩ := bd hf
    have hr6 := Option.some.inj hr6
    refine wo_iast hx hb hE hw hS hk (q0 := 1) rfl (inR_in g5) (sa5_1 hr6) dX5_add_47 (fun H locs hw hS => ?_)
    refine lv_aload_n hx hb dX5_add_48 rfl (lv_at hl 1 rfl) ?_
    refine va_get (ci := 5) (v := .ref (aa Γ o 1)) (C := RX5) (T := TX5) (N := 3) hx hb htw uwX5 hown hE.1 (wo_me hw hk) 0 rfl rfl 1 (by decide) (htw _ mw228) (fun _ h9 => h9) rfl dX5_add_49 ?_
    refine lv_iload hx hb dX5_add_52 (lv_at hl 0 rfl) ?_
    refine lv_iconst (v := 3) hx hb dX5_add_54 (by decide) ?_
    refine lv_iadd hx hb dX5_add_55 ?_
    refine lv_iload hx hb dX5_add_56 (lv_at hl 5 rfl) ?_
    obtain ⟨g7, hf⟩ := gd_some hf
    obtain ⟨r8, hr8, hf⟩ := bd hf
    have hr8 := Option.some.inj hr8
    refine wo_iast hx hb hE hw hS hk (q0 := 1) rfl (inR_in g7) (sa5_1 hr8) dX5_add_58 (fun H locs hw hS => ?_)
    refine lv_aload_n hx hb dX5_add_59 rfl (lv_at hl 1 rfl) ?_
    refine lv_dup hx hb dX5_add_60 rfl ?_
    refine va_get (ci := 5) (v := .int (gi r8 2)) (C := RX5) (T := TX5) (N := 3) hx hb htw uwX5 hown hE.1 (wo_me hw hk) 0 rfl rfl 2 (by decide) (htw _ mw229) (fun _ h9 => h9) rfl dX5_add_61 ?_
    refine lv_iconst (v := 1) hx hb dX5_add_64 (by decide) ?_
    refine lv_iadd hx hb dX5_add_65 ?_
    obtain ⟨r9, hr9, hf⟩ := bd hf
    have hr9 := Option.some.inj hr9
    refine wo_put (C := RX5) (T := TX5) (N := 3) (v := .int ((gi r8 2) + 1)) (ty := .int) hx hb htw uwX5 tyX5 tyX5_ok nmX5 hown hE hw hS hk rfl rfl 2 (by decide) (htw _ mw229) (fun _ h9 => h9) rfl (tyX5_ok 2 (by decide)) rfl rfl (Nat.le_of_ble_eq_true rfl) (st5_2 hr9) dX5_add_66 (fun H locs hw hS => ?_)
    obtain rfl := Option.some.inj hf
    subst hq
    exact rt_v C hw hS dX5_add_69
  · have hf := ifn c10 hf
    obtain rfl := Option.some.inj hf
    subst hq
    exact rt_v C hw hS dX5_add_11

theorem kX5_add {l : Launch} {Γ : Gm} {A : Nat → Prop} {G : Gs} {o : Nat} {r : Rec} {v1 : Int32} {v2 : Int32} {v3 : Int32} {v4 : Int32} {fin : Rec} (hk : kd Γ o = some 5) (hf : fX5_add r v1 v2 v3 v4 = some fin) : Kt l yX5_add cX5_add 6 none 0 0 Γ A (ug G o r) (ug G o fin) [.ref (ad Γ o), .int v1, .int v2, .int v3, .int v4] none :=
  kt_of (by decide) (Nat.le_of_ble_eq_true rfl) (fun p e s m args below meth c C => wX5_add_e C hk hf rfl)
theorem kgX5_add {l : Launch} {Γ : Gm} {A : Nat → Prop} {G : Gs} {o : Nat} {v1 : Int32} {v2 : Int32} {v3 : Int32} {v4 : Int32} {fin : Rec} (hk : kd Γ o = some 5) (hf : fX5_add (G o) v1 v2 v3 v4 = some fin) : Kt l yX5_add cX5_add 6 none 0 0 Γ A G (ug G o fin) [.ref (ad Γ o), .int v1, .int v2, .int v3, .int v4] none := by
  have h := kX5_add (l := l) (A := A) (G := G) (r := G o) hk hf
  rw [ug_self] at h
  exact h
noncomputable def bX4_fillRows_12 (g : Gs) (v1 : Nat) (v2 : Int32) : Option ((Int32 × Gs) ⊕ Gs) :=
  if (gi (g 401) 5) ≤ v2 then some (.inr (g)) else gd (inR v2 120) (gd (inR (v2 * 3) 360) (gd (inR ((v2 * 3) + 1) 360) (gd (inR ((v2 * 3) + 2) 360) ((fX5_add (g v1) (ga (g 401) 6 (Int32.toNatClampNeg v2)) (ga (g 401) 9 (Int32.toNatClampNeg (v2 * 3))) (ga (g 401) 9 (Int32.toNatClampNeg ((v2 * 3) + 1))) (ga (g 401) 9 (Int32.toNatClampNeg ((v2 * 3) + 2)))).bind fun z5 => (some (ug g v1 z5)).bind fun g6 => some (.inl (v2 + 1, g6))))))
set_option maxRecDepth 100000 in
set_option maxHeartbeats 4000000 in
theorem wX4_fillRows_12 {p : Program} {l : Launch} {e : Env} {s : State} {m : MethodId} {args : Array Value} {below : List Frame} {meth : Method} {c : Code} {Γ : Gm} {A : Nat → Prop} {g : Gs} {v1 : Nat} {v2 : Int32} {q : ((Int32 × Gs) ⊕ Gs)} {fin : Gs} (C : Cx p s m args meth c yX4_fillRows cX4_fillRows 4 none Γ A) (hv1 : kd Γ v1 = some 5) (hf : bX4_fillRows_12 g v1 v2 = some q) (hq : (KC (fun st : Int32 × Gs => Wk p l e { frames := 1, cells := 0, slots := 0, locals := 25 } s m args below meth c Γ A fin none 12 4 [(0, .ref (ad Γ 401)), (1, .ref (ad Γ v1)), (2, .int st.1)] [] st.2) (fun x => x = fin)) q) : Wk p l e { frames := 1, cells := 0, slots := 0, locals := 25 } s m args below meth c Γ A fin none 12 4 [(0, .ref (ad Γ 401)), (1, .ref (ad Γ v1)), (2, .int v2)] [] g := by
  intro H locs ls hw hS hl
  unfold bX4_fillRows_12 at hf
  obtain ⟨hx, hb, hml, hr, hown, htw, hlocks, hE⟩ := id C
  have hown : s.vm.findClass RX4 = some m.cls := hown
  refine lv_iload_n hx hb dX4_fillRows_12 rfl (lv_at hl 2 rfl) ?_
  refine lv_aload_n hx hb dX4_fillRows_13 rfl (lv_at hl 0 rfl) ?_
  refine va_get (ci := 4) (v := .int (gi (g 401) 5)) (C := RX4) (T := TX4) (N := 14) hx hb htw uwX4 hown hE.1 (hw _ _ (wf_401 hE)) 0 rfl rfl 5 (by decide) (htw _ mw288) (fun _ h9 => h9) rfl dX4_fillRows_14 ?_
  refine lv_icmp_ge (tgt := 62) hx hb dX4_fillRows_17 (by decide) (fun c7 => ?_) (fun c7 => ?_)
  · have hf := ifp c7 hf
    obtain rfl := Option.some.inj hf
    have hq := hq.2 _ rfl
    subst hq
    exact rt_v C hw hS dX4_fillRows_62
  · have hf := ifn c7 hf
    refine lv_iload_n hx hb dX4_fillRows_20 rfl (lv_at hl 2 rfl) ?_
    refine lv_iconst (v := 3) hx hb dX4_fillRows_21 (by decide) ?_
    refine lv_imul hx hb dX4_fillRows_22 ?_
    refine lv_istore_n (lv' := [(3, .int (v2 * 3)), (0, .ref (ad Γ 401)), (1, .ref (ad Γ v1)), (2, .int v2)]) hx hb dX4_fillRows_23 rfl hl (by decide) rfl (fun ls hl => ?_)
    refine lv_aload_n hx hb dX4_fillRows_24 rfl (lv_at hl 2 rfl) ?_
    refine lv_aload_n hx hb dX4_fillRows_25 rfl (lv_at hl 1 rfl) ?_
    refine va_get (ci := 4) (v := .ref (aa Γ 401 6)) (C := RX4) (T := TX4) (N := 14) hx hb htw uwX4 hown hE.1 (hw _ _ (wf_401 hE)) 0 rfl rfl 6 (by decide) (htw _ mw289) (fun _ h9 => h9) rfl dX4_fillRows_26 ?_
    refine lv_iload_n hx hb dX4_fillRows_29 rfl (lv_at hl 3 rfl) ?_
    obtain ⟨g1, hf⟩ := gd_some hf
    refine va_iald hx hb hE.1 (hw _ _ (wf_401 hE)) 2 0 rfl rfl (inR_in g1) dX4_fillRows_30 ?_
    refine lv_aload_n hx hb dX4_fillRows_31 rfl (lv_at hl 1 rfl) ?_
    refine va_get (ci := 4) (v := .ref (aa Γ 401 9)) (C := RX4) (T := TX4) (N := 14) hx hb htw uwX4 hown hE.1 (hw _ _ (wf_401 hE)) 0 rfl rfl 9 (by decide) (htw _ mw292) (fun _ h9 => h9) rfl dX4_fillRows_32 ?_
    refine lv_iload_n hx hb dX4_fillRows_35 rfl (lv_at hl 0 rfl) ?_
    obtain ⟨g2, hf⟩ := gd_some hf
    refine va_iald hx hb hE.1 (hw _ _ (wf_401 hE)) 5 0 rfl rfl (inR_in g2) dX4_fillRows_36 ?_
    refine lv_aload_n hx hb dX4_fillRows_37 rfl (lv_at hl 1 rfl) ?_
    refine va_get (ci := 4) (v := .ref (aa Γ 401 9)) (C := RX4) (T := TX4) (N := 14) hx hb htw uwX4 hown hE.1 (hw _ _ (wf_401 hE)) 0 rfl rfl 9 (by decide) (htw _ mw292) (fun _ h9 => h9) rfl dX4_fillRows_38 ?_
    refine lv_iload_n hx hb dX4_fillRows_41 rfl (lv_at hl 0 rfl) ?_
    refine lv_iconst (v := 1) hx hb dX4_fillRows_42 (by decide) ?_
    refine lv_iadd hx hb dX4_fillRows_43 ?_
    obtain ⟨g3, hf⟩ := gd_some hf
    refine va_iald hx hb hE.1 (hw _ _ (wf_401 hE)) 5 0 rfl rfl (inR_in g3) dX4_fillRows_44 ?_
    refine lv_aload_n hx hb dX4_fillRows_45 rfl (lv_at hl 1 rfl) ?_
    refine va_get (ci := 4) (v := .ref (aa Γ 401 9)) (C := RX4) (T := TX4) (N := 14) hx hb htw uwX4 hown hE.1 (hw _ _ (wf_401 hE)) 0 rfl rfl 9 (by decide) (htw _ mw292) (fun _ h9 => h9) rfl dX4_fillRows_46 ?_
    refine lv_iload_n hx hb dX4_fillRows_49 rfl (lv_at hl 0 rfl) ?_
    refine lv_iconst (v := 2) hx hb dX4_fillRows_50 (by decide) ?_
    refine lv_iadd hx hb dX4_fillRows_51 ?_
    obtain ⟨g4, hf⟩ := gd_some hf
    refine va_iald hx hb hE.1 (hw _ _ (wf_401 hE)) 5 0 rfl rfl (inR_in g4) dX4_fillRows_52 ?_
    obtain ⟨z5, hz5, hf⟩ := bd hf
    refine cl_Vv (rest := []) (kgX5_add (l := l) (Γ := Γ) (A := A) (G := g) (o := v1) hv1 hz5) ⟨hx, hb, hml, hown, htw⟩ hE hw hS (hw _ _ hv1) (q0 := 0) rfl rfl mw666 mw667 mw668 mw121 mw669 pdX5_add ⟨Nat.le_of_ble_eq_true rfl, Nat.le_of_ble_eq_true rfl⟩ rfl rfl hl.1 (Nat.le_of_ble_eq_true rfl) dX4_fillRows_53 (fun H locs hw hS => ?_)
    obtain ⟨g6, hg6, hf⟩ := bd hf
    have hg6 := Option.some.inj hg6
    rw [hg6] at hw
    refine lv_iinc (v := v2 + 1) (lv' := [(2, .int (v2 + 1)), (3, .int (v2 * 3)), (0, .ref (ad Γ 401)), (1, .ref (ad Γ v1))]) hx hb dX4_fillRows_56 hl (k := 3) rfl (by rfl) (by decide) rfl (fun ls hl => ?_)
    refine lv_goto (tgt := 12) hx hb dX4_fillRows_59 (by decide) ?_
    obtain rfl := Option.some.inj hf
    exact hq.1 _ rfl H locs ls hw hS (lv_sub hl [2, 3, 0] rfl)

set_option maxRecDepth 100000 in
set_option maxHeartbeats 4000000 in
theorem lwX4_fillRows_12 {p : Program} {l : Launch} {e : Env} {s : State} {m : MethodId} {args : Array Value} {below : List Frame} {meth : Method} {c : Code} {Γ : Gm} {A : Nat → Prop} {g : Gs} {v1 : Nat} {v2 : Int32} {q : Gs} {fin : Gs} (C : Cx p s m args meth c yX4_fillRows cX4_fillRows 4 none Γ A) (hv1 : kd Γ v1 = some 5) (hf : iter (fun st : Int32 × Gs => bX4_fillRows_12 st.2 v1 st.1) (v2, g) = some q) (hq : (fun x => x = fin) q) : Wk p l e { frames := 1, cells := 0, slots := 0, locals := 25 } s m args below meth c Γ A fin none 12 4 [(0, .ref (ad Γ 401)), (1, .ref (ad Γ v1)), (2, .int v2)] [] g := by
  intro H locs ls hw hS hl
  refine iter_walk (P := (fun st : Int32 × Gs => Wk p l e { frames := 1, cells := 0, slots := 0, locals := 25 } s m args below meth c Γ A fin none 12 4 [(0, .ref (ad Γ 401)), (1, .ref (ad Γ v1)), (2, .int st.1)] [] st.2)) (K := (fun x => x = fin)) (fun st q hq1 h1 h2 => ?_) hf hq H locs ls hw hS hl
  exact wX4_fillRows_12 (g := st.2) (v2 := st.1) C hv1 hq1 ⟨h1, h2⟩

noncomputable def fX4_fillRows (g : Gs) (w1 : Option Nat) : Option Gs :=
  oc w1 (some (g)) (fun u1 => (some (ug g u1 (si (g u1) 2 0))).bind fun g8 => iter (fun st : Int32 × Gs => bX4_fillRows_12 st.2 u1 st.1) (0, g8))
set_option maxRecDepth 100000 in
set_option maxHeartbeats 4000000 in
theorem wX4_fillRows_e {p : Program} {l : Launch} {e : Env} {s : State} {m : MethodId} {args : Array Value} {below : List Frame} {meth : Method} {c : Code} {Γ : Gm} {A : Nat → Prop} {g : Gs} {w1 : Option Nat} {q : Gs} {fin : Gs} (C : Cx p s m args meth c yX4_fillRows cX4_fillRows 4 none Γ A) (hw1 : ∀ h, w1 = some h → kd Γ h = some 5) (hf : fX4_fillRows g w1 = some q) (hq : (fun x => x = fin) q) : Wk p l e { frames := 1, cells := 0, slots := 0, locals := 25 } s m args below meth c Γ A fin none 0 4 [(0, .ref (ad Γ 401)), (1, va_rf (w1.map (ad Γ)))] [] g := by
  intro H locs ls hw hS hl
  unfold fX4_fillRows at hf
  obtain ⟨hx, hb, hml, hr, hown, htw, hlocks, hE⟩ := id C
  have hown : s.vm.findClass RX4 = some m.cls := hown
  cases w1 with
  | none =>
    have hf := oc_none hf
    refine lv_aload_nN hx hb dX4_fillRows_0 rfl (lv_at hl 1 rfl) ?_
    refine lv_ifnonnullN hx hb dX4_fillRows_1 ?_
    obtain rfl := Option.some.inj hf
    subst hq
    exact rt_v C hw hS dX4_fillRows_4
  | some u1 =>
    have hf := oc_some hf
    have ku1 := hw1 _ rfl
    refine lv_aload_n hx hb dX4_fillRows_0 rfl (lv_at hl 1 rfl) ?_
    refine lv_ifnonnull (tgt := 5) hx hb dX4_fillRows_1 (by decide) ?_
    refine lv_aload_n hx hb dX4_fillRows_5 rfl (lv_at hl 1 rfl) ?_
    refine lv_iconst (v := 0) hx hb dX4_fillRows_6 (by decide) ?_
    obtain ⟨g8, hg8, hf⟩ := bd hf
    have hg8 := Option.some.inj hg8
    refine wo_putG (C := RX5) (T := TX5) (N := 3) (v := .int 0) (ty := .int) hx hb htw uwX5 tyX5 tyX5_ok nmX5 hown hE hw hS ku1 rfl rfl 2 (by decide) (htw _ mw235) (fun _ h9 => h9) rfl (tyX5_ok 2 (by decide)) rfl rfl (Nat.le_of_ble_eq_true rfl) (st5_2 rfl) hg8 dX4_fillRows_7 (fun H locs hw hS => ?_)
    refine lv_iconst (v := 0) hx hb dX4_fillRows_10 (by decide) ?_
    refine lv_istore_n (lv' := [(2, .int 0), (0, .ref (ad Γ 401)), (1, .ref (ad Γ u1))]) hx hb dX4_fillRows_11 rfl hl (by decide) rfl (fun ls hl => ?_)
    exact lwX4_fillRows_12 C ku1 hf hq H locs ls hw hS (lv_sub hl [1, 2, 0] rfl)

theorem kX4_fillRows {l : Launch} {Γ : Gm} {A : Nat → Prop} {g : Gs} {w1 : Option Nat} {fin : Gs} (hw1 : ∀ h, w1 = some h → kd Γ h = some 5) (hf : fX4_fillRows g w1 = some fin) : Kt l yX4_fillRows cX4_fillRows 4 none 1 25 Γ A g fin [.ref (ad Γ 401), va_rf (w1.map (ad Γ))] none := by
  cases w1 with
  | none => exact kt_of (by decide) (Nat.le_of_ble_eq_true rfl) (fun p e s m args below meth c C => wX4_fillRows_e C hw1 hf rfl)
  | some u => exact kt_of (by decide) (Nat.le_of_ble_eq_true rfl) (fun p e s m args below meth c C => wX4_fillRows_e C hw1 hf rfl)
noncomputable def fX5_copyFrom (g : Gs) (o : Nat) (v1 : Nat) : Option Gs :=
  (some (gi (g v1) 2)).bind fun x1 => (some (gi (g o) 0)).bind fun x2 => (some (mni x1 x2)).bind fun x3 => (some (ug g o (si (g o) 2 x3))).bind fun g4 => gd (cpOK 0 0 ((gi (g4 o) 2) * 4) (4 * Int32.toNatClampNeg (gi (g4 v1) 0)) (4 * Int32.toNatClampNeg (gi (g4 o) 0))) ((some (ug g4 o (sa (g4 o) 1 (va_cpy (ga (g4 v1) 1) (ga (g4 o) 1) (Int32.toNatClampNeg 0) (Int32.toNatClampNeg 0) (Int32.toNatClampNeg ((gi (g4 o) 2) * 4)))))).bind fun g6 => some (g6))
set_option maxRecDepth 100000 in
set_option maxHeartbeats 4000000 in
theorem wX5_copyFrom_e {p : Program} {l : Launch} {e : Env} {s : State} {m : MethodId} {args : Array Value} {below : List Frame} {meth : Method} {c : Code} {Γ : Gm} {A : Nat → Prop} {o : Nat} {g : Gs} {v1 : Nat} {q : Gs} {fin : Gs} (C : Cx p s m args meth c yX5_copyFrom cX5_copyFrom 2 none Γ A) (hk : kd Γ o = some 5) (hv1 : kd Γ v1 = some 5) (hf : fX5_copyFrom g o v1 = some q) (hq : (fun x => x = fin) q) : Wk p l e { frames := 1, cells := 0, slots := 0, locals := 60 } s m args below meth c Γ A fin none 0 2 [(0, .ref (ad Γ o)), (1, .ref (ad Γ v1))] [] g := by
  intro H locs ls hw hS hl
  unfold fX5_copyFrom at hf
  obtain ⟨hx, hb, hml, hr, hown, htw, hlocks, hE⟩ := id C
  have hown : s.vm.findClass RX5 = some m.cls := hown
  refine lv_aload_n hx hb dX5_copyFrom_0 rfl (lv_at hl 0 rfl) ?_
  refine lv_aload_n hx hb dX5_copyFrom_1 rfl (lv_at hl 1 rfl) ?_
  refine va_get (ci := 5) (v := .int (gi (g v1) 2)) (C := RX5) (T := TX5) (N := 3) hx hb htw uwX5 hown hE.1 (hw _ _ hv1) 0 rfl rfl 2 (by decide) (htw _ mw229) (fun _ h9 => h9) rfl dX5_copyFrom_2 ?_
  refine lv_aload_n hx hb dX5_copyFrom_5 rfl (lv_at hl 0 rfl) ?_
  refine va_get (ci := 5) (v := .int (gi (g o) 0)) (C := RX5) (T := TX5) (N := 3) hx hb htw uwX5 hown hE.1 (hw _ _ hk) 0 rfl rfl 0 (by decide) (htw _ mw227) (fun _ h9 => h9) rfl dX5_copyFrom_6 ?_
  obtain ⟨x1, hx1, hf⟩ := bd hf
  have hx1 := Option.some.inj hx1
  refine tp2i hx1 ?_
  obtain ⟨x2, hx2, hf⟩ := bd hf
  have hx2 := Option.some.inj hx2
  refine tp1i hx2 ?_
  refine va_mmin hx hb (hml.trans hl.1.symm) hown (htw _ mw221) (htw _ mw222) (htw _ mw122) (htw _ mw223) (Nat.le_of_ble_eq_true rfl) (Nat.le_of_ble_eq_true rfl) (Nat.le_refl _) (Nat.le_refl _) dX5_copyFrom_9 ?_
  obtain ⟨x3, hx3, hf⟩ := bd hf
  have hx3 := Option.some.inj hx3
  refine tp1i hx3 ?_
  obtain ⟨g4, hg4, hf⟩ := bd hf
  have hg4 := Option.some.inj hg4
  refine wo_putG (C := RX5) (T := TX5) (N := 3) (v := .int x3) (ty := .int) hx hb htw uwX5 tyX5 tyX5_ok nmX5 hown hE hw hS hk rfl rfl 2 (by decide) (htw _ mw229) (fun _ h9 => h9) rfl (tyX5_ok 2 (by decide)) rfl rfl (Nat.le_of_ble_eq_true rfl) (st5_2 rfl) hg4 dX5_copyFrom_12 (fun H locs hw hS => ?_)
  refine lv_aload_n hx hb dX5_copyFrom_15 rfl (lv_at hl 1 rfl) ?_
  refine va_get (ci := 5) (v := .ref (aa Γ v1 1)) (C := RX5) (T := TX5) (N := 3) hx hb htw uwX5 hown hE.1 (hw _ _ hv1) 0 rfl rfl 1 (by decide) (htw _ mw228) (fun _ h9 => h9) rfl dX5_copyFrom_16 ?_
  refine lv_iconst (v := 0) hx hb dX5_copyFrom_19 (by decide) ?_
  refine lv_aload_n hx hb dX5_copyFrom_20 rfl (lv_at hl 0 rfl) ?_
  refine va_get (ci := 5) (v := .ref (aa Γ o 1)) (C := RX5) (T := TX5) (N := 3) hx hb htw uwX5 hown hE.1 (hw _ _ hk) 0 rfl rfl 1 (by decide) (htw _ mw228) (fun _ h9 => h9) rfl dX5_copyFrom_21 ?_
  refine lv_iconst (v := 0) hx hb dX5_copyFrom_24 (by decide) ?_
  refine lv_aload_n hx hb dX5_copyFrom_25 rfl (lv_at hl 0 rfl) ?_
  refine va_get (ci := 5) (v := .int (gi (g4 o) 2)) (C := RX5) (T := TX5) (N := 3) hx hb htw uwX5 hown hE.1 (hw _ _ hk) 0 rfl rfl 2 (by decide) (htw _ mw229) (fun _ h9 => h9) rfl dX5_copyFrom_26 ?_
  refine lv_iconst (v := 4) hx hb dX5_copyFrom_29 (by decide) ?_
  refine lv_imul hx hb dX5_copyFrom_30 ?_
  obtain ⟨g5, hf⟩ := gd_some hf
  obtain ⟨g6, hg6, hf⟩ := bd hf
  have hg6 := Option.some.inj hg6
  refine wo_copy hx hb (hml.trans hl.1.symm) hown (htw _ mw1232) (htw _ mw482) (htw _ mw481) (htw _ mw130) hE (wo_gs hw) hS hk (t := 0) ((hw _ _ hv1) 1 _ rfl) (q1 := 1) rfl rfl rfl g5 (fun _ _ => rfl) (sa5_1 rfl) (Nat.le_of_ble_eq_true rfl) (by decide +kernel) dX5_copyFrom_31 (fun H locs hw hS => ?_)
  rw [hg6] at hw
  obtain rfl := Option.some.inj hf
  subst hq
  exact rt_v C hw hS dX5_copyFrom_34

theorem kX5_copyFrom {l : Launch} {Γ : Gm} {A : Nat → Prop} {o : Nat} {g : Gs} {v1 : Nat} {fin : Gs} (hk : kd Γ o = some 5) (hv1 : kd Γ v1 = some 5) (hf : fX5_copyFrom g o v1 = some fin) : Kt l yX5_copyFrom cX5_copyFrom 2 none 1 60 Γ A g fin [.ref (ad Γ o), .ref (ad Γ v1)] none :=
  kt_of (by decide) (Nat.le_of_ble_eq_true rfl) (fun p e s m args below meth c C => wX5_copyFrom_e C hk hv1 hf rfl)
noncomputable def bX6_stretch_100 (g : Gs) (v1 : Nat) : Option Int32 :=
  some (gi (g v1) 2)
set_option maxRecDepth 100000 in
set_option maxHeartbeats 4000000 in
theorem wX6_stretch_100 {p : Program} {l : Launch} {e : Env} {s : State} {m : MethodId} {args : Array Value} {below : List Frame} {meth : Method} {c : Code} {Γ : Gm} {A : Nat → Prop} {g : Gs} {v1 : Nat} {q : Int32} {fin : Int32} (C : Cx p s m args meth c yX6_stretch cX6_stretch 8 (some .int) Γ A) (hv1 : kd Γ v1 = some 5) (hf : bX6_stretch_100 g v1 = some q) (hq : (fun x => x = fin) q) : Wk p l e { frames := 3, cells := 0, slots := 0, locals := 68 } s m args below meth c Γ A g (some (.int fin)) 100 8 [(1, .ref (ad Γ v1))] [] g := by
  intro H locs ls hw hS hl
  unfold bX6_stretch_100 at hf
  obtain ⟨hx, hb, hml, hr, hown, htw, hlocks, hE⟩ := id C
  have hown : s.vm.findClass RX6 = some m.cls := hown
  refine lv_aload_n hx hb dX6_stretch_100 rfl (lv_at hl 0 rfl) ?_
  refine va_get (ci := 5) (v := .int (gi (g v1) 2)) (C := RX5) (T := TX5) (N := 3) hx hb htw uwX5 hown hE.1 (hw _ _ hv1) 0 rfl rfl 2 (by decide) (htw _ mw230) (fun _ h9 => h9) rfl dX6_stretch_101 ?_
  obtain rfl := Option.some.inj hf
  subst hq
  exact rt_i C hw hS dX6_stretch_104

noncomputable def bX6_stretch_31 (g : Gs) (v0 : Nat) (v1 : Nat) (v3 : Int32) (v4 : Int32) (v5 : Int32) (v6 : Int32) : Option (Int32 ⊕ Int32) :=
  if (gi (g v1) 2) ≤ v6 then out1 (bX6_stretch_100 g v1) else (fX5_cell (g v1) v6 1).bind fun z2 => (fX5_cell (g v1) v3 1).bind fun z3 => (fX5_cell (g v1) v6 2).bind fun z4 => if z4 = v4 then gd (inR v4 8) ((fX5_cell (g v1) v6 3).bind fun z6 => if z6 ≤ (v5 - ((z2 - z3) * (ga (g v0) 4 (Int32.toNatClampNeg v4)))) then some (.inl (v6 + 1)) else some (.inr (v6))) else some (.inr (v6))
set_option maxRecDepth 100000 in
set_option maxHeartbeats 4000000 in
theorem wX6_stretch_31 {p : Program} {l : Launch} {e : Env} {s : State} {m : MethodId} {args : Array Value} {below : List Frame} {meth : Method} {c : Code} {Γ : Gm} {A : Nat → Prop} {g : Gs} {v0 : Nat} {v1 : Nat} {v3 : Int32} {v4 : Int32} {v5 : Int32} {v6 : Int32} {q : (Int32 ⊕ Int32)} {fin : Int32} (C : Cx p s m args meth c yX6_stretch cX6_stretch 8 (some .int) Γ A) (hv0 : kd Γ v0 = some 2) (hv1 : kd Γ v1 = some 5) (hf : bX6_stretch_31 g v0 v1 v3 v4 v5 v6 = some q) (hq : (KC (fun st : Int32 => Wk p l e { frames := 3, cells := 0, slots := 0, locals := 68 } s m args below meth c Γ A g (some (.int fin)) 31 8 [(0, .ref (ad Γ v0)), (1, .ref (ad Γ v1)), (3, .int v3), (4, .int v4), (5, .int v5), (6, .int st)] [] g) (fun x => x = fin)) q) : Wk p l e { frames := 3, cells := 0, slots := 0, locals := 68 } s m args below meth c Γ A g (some (.int fin)) 31 8 [(0, .ref (ad Γ v0)), (1, .ref (ad Γ v1)), (3, .int v3), (4, .int v4), (5, .int v5), (6, .int v6)] [] g := by
  intro H locs ls hw hS hl
  unfold bX6_stretch_31 at hf
  obtain ⟨hx, hb, hml, hr, hown, htw, hlocks, hE⟩ := id C
  have hown : s.vm.findClass RX6 = some m.cls := hown
  refine lv_iload hx hb dX6_stretch_31 (lv_at hl 5 rfl) ?_
  refine lv_aload_n hx hb dX6_stretch_33 rfl (lv_at hl 1 rfl) ?_
  refine va_get (ci := 5) (v := .int (gi (g v1) 2)) (C := RX5) (T := TX5) (N := 3) hx hb htw uwX5 hown hE.1 (hw _ _ hv1) 0 rfl rfl 2 (by decide) (htw _ mw230) (fun _ h9 => h9) rfl dX6_stretch_34 ?_
  refine lv_icmp_ge (tgt := 100) hx hb dX6_stretch_37 (by decide) (fun c9 => ?_) (fun c9 => ?_)
  · have hf := ifp c9 hf
    obtain ⟨q1, hfq1, eq1⟩ := out1_some hf
    subst eq1
    have hf := hfq1
    have hq := hq.2 _ rfl
    exact wX6_stretch_100 C hv1 hf hq H locs ls hw hS (lv_sub hl [1] rfl)
  · have hf := ifn c9 hf
    refine lv_aload_n hx hb dX6_stretch_40 rfl (lv_at hl 1 rfl) ?_
    refine lv_iload hx hb dX6_stretch_41 (lv_at hl 5 rfl) ?_
    refine lv_iconst (v := 1) hx hb dX6_stretch_43 (by decide) ?_
    obtain ⟨z2, hz2, hf⟩ := bd hf
    refine cl_Vs (rest := []) (kgX5_cell (l := l) (Γ := Γ) (A := A) (G := g) (o := v1) hv1 hz2) ⟨hx, hb, hml, hown, htw⟩ hE hw hS (hw _ _ hv1) (q0 := 0) rfl rfl mw847 mw731 mw732 mw121 mw733 pdX5_cell ⟨Nat.le_of_ble_eq_true rfl, Nat.le_of_ble_eq_true rfl⟩ rfl rfl hl.1 (Nat.le_of_ble_eq_true rfl) dX6_stretch_44 (fun H locs hw hS => ?_)
    refine lv_aload_n hx hb dX6_stretch_47 rfl (lv_at hl 1 rfl) ?_
    refine lv_iload_n hx hb dX6_stretch_48 rfl (lv_at hl 2 rfl) ?_
    refine lv_iconst (v := 1) hx hb dX6_stretch_49 (by decide) ?_
    obtain ⟨z3, hz3, hf⟩ := bd hf
    refine cl_Vs (rest := [.int z2]) (kgX5_cell (l := l) (Γ := Γ) (A := A) (G := g) (o := v1) hv1 hz3) ⟨hx, hb, hml, hown, htw⟩ hE hw hS (hw _ _ hv1) (q0 := 0) rfl rfl mw847 mw731 mw732 mw121 mw733 pdX5_cell ⟨Nat.le_of_ble_eq_true rfl, Nat.le_of_ble_eq_true rfl⟩ rfl rfl hl.1 (Nat.le_of_ble_eq_true rfl) dX6_stretch_50 (fun H locs hw hS => ?_)
    refine lv_isub hx hb dX6_stretch_53 ?_
    refine lv_istore (lv' := [(7, .int (z2 - z3)), (0, .ref (ad Γ v0)), (1, .ref (ad Γ v1)), (3, .int v3), (4, .int v4), (5, .int v5), (6, .int v6)]) hx hb dX6_stretch_54 hl (by decide) rfl (fun ls hl => ?_)
    refine lv_aload_n hx hb dX6_stretch_56 rfl (lv_at hl 2 rfl) ?_
    refine lv_iload hx hb dX6_stretch_57 (lv_at hl 6 rfl) ?_
    refine lv_iconst (v := 2) hx hb dX6_stretch_59 (by decide) ?_
    obtain ⟨z4, hz4, hf⟩ := bd hf
    refine cl_Vs (rest := []) (kgX5_cell (l := l) (Γ := Γ) (A := A) (G := g) (o := v1) hv1 hz4) ⟨hx, hb, hml, hown, htw⟩ hE hw hS (hw _ _ hv1) (q0 := 0) rfl rfl mw847 mw731 mw732 mw121 mw733 pdX5_cell ⟨Nat.le_of_ble_eq_true rfl, Nat.le_of_ble_eq_true rfl⟩ rfl rfl hl.1 (Nat.le_of_ble_eq_true rfl) dX6_stretch_60 (fun H locs hw hS => ?_)
    refine lv_iload hx hb dX6_stretch_63 (lv_at hl 4 rfl) ?_
    refine lv_icmp_ne (tgt := 91) hx hb dX6_stretch_65 (by decide) (fun c8 => ?_) (fun c8 => ?_)
    · have hf := ifn c8 hf
      refine lv_iload hx hb dX6_stretch_91 (lv_at hl 6 rfl) ?_
      obtain rfl := Option.some.inj hf
      have hq := hq.2 _ rfl
      subst hq
      exact rt_i C hw hS dX6_stretch_93
    · have hf := ifp c8 hf
      refine lv_iload hx hb dX6_stretch_68 (lv_at hl 5 rfl) ?_
      refine lv_iload hx hb dX6_stretch_70 (lv_at hl 0 rfl) ?_
      refine lv_aload_n hx hb dX6_stretch_72 rfl (lv_at hl 1 rfl) ?_
      refine va_get (ci := 2) (v := .ref (aa Γ v0 4)) (C := RX2) (T := TX2) (N := 11) hx hb htw uwX2 hown hE.1 (hw _ _ hv0) 0 rfl rfl 4 (by decide) (htw _ mw176) (fun _ h9 => h9) rfl dX6_stretch_73 ?_
      refine lv_iload hx hb dX6_stretch_76 (lv_at hl 4 rfl) ?_
      obtain ⟨g5, hf⟩ := gd_some hf
      refine va_iald hx hb hE.1 (hw _ _ hv0) 2 0 rfl rfl (inR_in g5) dX6_stretch_78 ?_
      refine lv_imul hx hb dX6_stretch_79 ?_
      refine lv_isub hx hb dX6_stretch_80 ?_
      refine lv_aload_n hx hb dX6_stretch_81 rfl (lv_at hl 2 rfl) ?_
      refine lv_iload hx hb dX6_stretch_82 (lv_at hl 6 rfl) ?_
      refine lv_iconst (v := 3) hx hb dX6_stretch_84 (by decide) ?_
      obtain ⟨z6, hz6, hf⟩ := bd hf
      refine cl_Vs (rest := [.int (v5 - ((z2 - z3) * (ga (g v0) 4 (Int32.toNatClampNeg v4))))]) (kgX5_cell (l := l) (Γ := Γ) (A := A) (G := g) (o := v1) hv1 hz6) ⟨hx, hb, hml, hown, htw⟩ hE hw hS (hw _ _ hv1) (q0 := 0) rfl rfl mw847 mw731 mw732 mw121 mw733 pdX5_cell ⟨Nat.le_of_ble_eq_true rfl, Nat.le_of_ble_eq_true rfl⟩ rfl rfl hl.1 (Nat.le_of_ble_eq_true rfl) dX6_stretch_85 (fun H locs hw hS => ?_)
      refine lv_icmp_ge (tgt := 94) hx hb dX6_stretch_88 (by decide) (fun c7 => ?_) (fun c7 => ?_)
      · have hf := ifp c7 hf
        refine lv_iinc (v := v6 + 1) (lv' := [(6, .int (v6 + 1)), (7, .int (z2 - z3)), (0, .ref (ad Γ v0)), (1, .ref (ad Γ v1)), (3, .int v3), (4, .int v4), (5, .int v5)]) hx hb dX6_stretch_94 hl (k := 6) rfl (by rfl) (by decide) rfl (fun ls hl => ?_)
        refine lv_goto (tgt := 31) hx hb dX6_stretch_97 (by decide) ?_
        obtain rfl := Option.some.inj hf
        exact hq.1 _ rfl H locs ls hw hS (lv_sub hl [2, 3, 4, 5, 6, 0] rfl)
      · have hf := ifn c7 hf
        refine lv_iload hx hb dX6_stretch_91 (lv_at hl 6 rfl) ?_
        obtain rfl := Option.some.inj hf
        have hq := hq.2 _ rfl
        subst hq
        exact rt_i C hw hS dX6_stretch_93

set_option maxRecDepth 100000 in
set_option maxHeartbeats 4000000 in
theorem lwX6_stretch_31 {p : Program} {l : Launch} {e : Env} {s : State} {m : MethodId} {args : Array Value} {below : List Frame} {meth : Method} {c : Code} {Γ : Gm} {A : Nat → Prop} {g : Gs} {v0 : Nat} {v1 : Nat} {v3 : Int32} {v4 : Int32} {v5 : Int32} {v6 : Int32} {q : Int32} {fin : Int32} (C : Cx p s m args meth c yX6_stretch cX6_stretch 8 (some .int) Γ A) (hv0 : kd Γ v0 = some 2) (hv1 : kd Γ v1 = some 5) (hf : iter (fun st : Int32 => bX6_stretch_31 g v0 v1 v3 v4 v5 st) v6 = some q) (hq : (fun x => x = fin) q) : Wk p l e { frames := 3, cells := 0, slots := 0, locals := 68 } s m args below meth c Γ A g (some (.int fin)) 31 8 [(0, .ref (ad Γ v0)), (1, .ref (ad Γ v1)), (3, .int v3), (4, .int v4), (5, .int v5), (6, .int v6)] [] g := by
  intro H locs ls hw hS hl
  refine iter_walk (P := (fun st : Int32 => Wk p l e { frames := 3, cells := 0, slots := 0, locals := 68 } s m args below meth c Γ A g (some (.int fin)) 31 8 [(0, .ref (ad Γ v0)), (1, .ref (ad Γ v1)), (3, .int v3), (4, .int v4), (5, .int v5), (6, .int st)] [] g)) (K := (fun x => x = fin)) (fun st q hq1 h1 h2 => ?_) hf hq H locs ls hw hS hl
  exact wX6_stretch_31 (v6 := st) C hv0 hv1 hq1 ⟨h1, h2⟩

noncomputable def fX6_stretch (g : Gs) (v0 : Nat) (v1 : Nat) (v2 : Int32) (v3 : Int32) : Option Int32 :=
  (fX5_cell (g v1) v3 2).bind fun z10 => (fX2_hasPiece (g v0) z10).bind fun z11 => if z11 = 0 then some (v3) else (fX2_worthTo (g v0) v2 z10).bind fun z12 => iter (fun st : Int32 => bX6_stretch_31 g v0 v1 v3 z10 z12 st) v3
set_option maxRecDepth 100000 in
set_option maxHeartbeats 4000000 in
theorem wX6_stretch_e {p : Program} {l : Launch} {e : Env} {s : State} {m : MethodId} {args : Array Value} {below : List Frame} {meth : Method} {c : Code} {Γ : Gm} {A : Nat → Prop} {g : Gs} {v0 : Nat} {v1 : Nat} {v2 : Int32} {v3 : Int32} {q : Int32} {fin : Int32} (C : Cx p s m args meth c yX6_stretch cX6_stretch 8 (some .int) Γ A) (hv0 : kd Γ v0 = some 2) (hv1 : kd Γ v1 = some 5) (hf : fX6_stretch g v0 v1 v2 v3 = some q) (hq : (fun x => x = fin) q) : Wk p l e { frames := 3, cells := 0, slots := 0, locals := 68 } s m args below meth c Γ A g (some (.int fin)) 0 8 [(0, .ref (ad Γ v0)), (1, .ref (ad Γ v1)), (2, .int v2), (3, .int v3)] [] g := by
  intro H locs ls hw hS hl
  unfold fX6_stretch at hf
  obtain ⟨hx, hb, hml, hr, hown, htw, hlocks, hE⟩ := id C
  have hown : s.vm.findClass RX6 = some m.cls := hown
  refine lv_aload_n hx hb dX6_stretch_0 rfl (lv_at hl 1 rfl) ?_
  refine lv_iload_n hx hb dX6_stretch_1 rfl (lv_at hl 3 rfl) ?_
  refine lv_iconst (v := 2) hx hb dX6_stretch_2 (by decide) ?_
  obtain ⟨z10, hz10, hf⟩ := bd hf
  refine cl_Vs (rest := []) (kgX5_cell (l := l) (Γ := Γ) (A := A) (G := g) (o := v1) hv1 hz10) ⟨hx, hb, hml, hown, htw⟩ hE hw hS (hw _ _ hv1) (q0 := 0) rfl rfl mw847 mw731 mw732 mw121 mw733 pdX5_cell ⟨Nat.le_of_ble_eq_true rfl, Nat.le_of_ble_eq_true rfl⟩ rfl rfl hl.1 (Nat.le_of_ble_eq_true rfl) dX6_stretch_3 (fun H locs hw hS => ?_)
  refine lv_istore (lv' := [(4, .int z10), (0, .ref (ad Γ v0)), (1, .ref (ad Γ v1)), (2, .int v2), (3, .int v3)]) hx hb dX6_stretch_6 hl (by decide) rfl (fun ls hl => ?_)
  refine lv_aload_n hx hb dX6_stretch_8 rfl (lv_at hl 1 rfl) ?_
  refine lv_iload hx hb dX6_stretch_9 (lv_at hl 0 rfl) ?_
  obtain ⟨z11, hz11, hf⟩ := bd hf
  refine cl_Vs (rest := []) (kgX2_hasPiece (l := l) (Γ := Γ) (A := A) (G := g) (o := v0) hv0 hz11) ⟨hx, hb, hml, hown, htw⟩ hE hw hS (hw _ _ hv0) (q0 := 0) rfl rfl mw848 mw683 mw684 mw120 mw685 pdX2_hasPiece ⟨Nat.le_of_ble_eq_true rfl, Nat.le_of_ble_eq_true rfl⟩ rfl rfl hl.1 (Nat.le_of_ble_eq_true rfl) dX6_stretch_11 (fun H locs hw hS => ?_)
  refine lv_if_ne (tgt := 19) hx hb dX6_stretch_14 (by decide) (fun c13 => ?_) (fun c13 => ?_)
  · have hf := ifn c13 hf
    refine lv_aload_n hx hb dX6_stretch_19 rfl (lv_at hl 1 rfl) ?_
    refine lv_iload_n hx hb dX6_stretch_20 rfl (lv_at hl 3 rfl) ?_
    refine lv_iload hx hb dX6_stretch_21 (lv_at hl 0 rfl) ?_
    obtain ⟨z12, hz12, hf⟩ := bd hf
    refine cl_Vs (rest := []) (kgX2_worthTo (l := l) (Γ := Γ) (A := A) (G := g) (o := v0) hv0 hz12) ⟨hx, hb, hml, hown, htw⟩ hE hw hS (hw _ _ hv0) (q0 := 0) rfl rfl mw849 mw709 mw710 mw120 mw711 pdX2_worthTo ⟨Nat.le_of_ble_eq_true rfl, Nat.le_of_ble_eq_true rfl⟩ rfl rfl hl.1 (Nat.le_of_ble_eq_true rfl) dX6_stretch_23 (fun H locs hw hS => ?_)
    refine lv_istore (lv' := [(5, .int z12), (4, .int z10), (0, .ref (ad Γ v0)), (1, .ref (ad Γ v1)), (2, .int v2), (3, .int v3)]) hx hb dX6_stretch_26 hl (by decide) rfl (fun ls hl => ?_)
    refine lv_iload_n hx hb dX6_stretch_28 rfl (lv_at hl 5 rfl) ?_
    refine lv_istore (lv' := [(6, .int v3), (5, .int z12), (4, .int z10), (0, .ref (ad Γ v0)), (1, .ref (ad Γ v1)), (2, .int v2), (3, .int v3)]) hx hb dX6_stretch_29 hl (by decide) rfl (fun ls hl => ?_)
    exact lwX6_stretch_31 C hv0 hv1 hf hq H locs ls hw hS (lv_sub hl [3, 4, 6, 2, 1, 0] rfl)
  · have hf := ifp c13 hf
    refine lv_iload_n hx hb dX6_stretch_17 rfl (lv_at hl 4 rfl) ?_
    obtain rfl := Option.some.inj hf
    subst hq
    exact rt_i C hw hS dX6_stretch_18

theorem kX6_stretch {l : Launch} {Γ : Gm} {A : Nat → Prop} {g : Gs} {v0 : Nat} {v1 : Nat} {v2 : Int32} {v3 : Int32} {fin : Int32} (hv0 : kd Γ v0 = some 2) (hv1 : kd Γ v1 = some 5) (hf : fX6_stretch g v0 v1 v2 v3 = some fin) : Kt l yX6_stretch cX6_stretch 8 (some .int) 3 68 Γ A g g [.ref (ad Γ v0), .ref (ad Γ v1), .int v2, .int v3] (some (.int fin)) :=
  kt_of (by decide) (Nat.le_of_ble_eq_true rfl) (fun p e s m args below meth c C => wX6_stretch_e C hv0 hv1 hf rfl)
noncomputable def bX6_measure_55 (g : Gs) (v1 : Nat) (v2 : Nat) (v3 : Int32) : Option ((Int32 × Gs) ⊕ Gs) :=
  some (.inl (v3 + 1, g))
set_option maxRecDepth 100000 in
set_option maxHeartbeats 4000000 in
theorem wX6_measure_55 {p : Program} {l : Launch} {e : Env} {s : State} {m : MethodId} {args : Array Value} {below : List Frame} {meth : Method} {c : Code} {Γ : Gm} {A : Nat → Prop} {g : Gs} {v1 : Nat} {v2 : Nat} {v3 : Int32} {q : ((Int32 × Gs) ⊕ Gs)} {fin : Gs} (C : Cx p s m args meth c yX6_measure cX6_measure 5 none Γ A) (hv1 : kd Γ v1 = some 2) (hv2 : kd Γ v2 = some 5) (hf : bX6_measure_55 g v1 v2 v3 = some q) (hq : (KC (fun st : Int32 × Gs => Wk p l e { frames := 4, cells := 0, slots := 0, locals := 95 } s m args below meth c Γ A fin none 2 5 [(0, .ref (ad Γ 601)), (1, .ref (ad Γ v1)), (2, .ref (ad Γ v2)), (3, .int st.1)] [] st.2) (fun x => x = fin)) q) : Wk p l e { frames := 4, cells := 0, slots := 0, locals := 95 } s m args below meth c Γ A fin none 55 5 [(0, .ref (ad Γ 601)), (1, .ref (ad Γ v1)), (2, .ref (ad Γ v2)), (3, .int v3)] [] g := by
  intro H locs ls hw hS hl
  unfold bX6_measure_55 at hf
  obtain ⟨hx, hb, hml, hr, hown, htw, hlocks, hE⟩ := id C
  have hown : s.vm.findClass RX6 = some m.cls := hown
  refine lv_iinc (v := v3 + 1) (lv' := [(3, .int (v3 + 1)), (0, .ref (ad Γ 601)), (1, .ref (ad Γ v1)), (2, .ref (ad Γ v2))]) hx hb dX6_measure_55 hl (k := 3) rfl (by rfl) (by decide) rfl (fun ls hl => ?_)
  refine lv_goto (tgt := 2) hx hb dX6_measure_58 (by decide) ?_
  obtain rfl := Option.some.inj hf
  exact hq.1 _ rfl H locs ls hw hS (lv_sub hl [1, 2, 3, 0] rfl)

noncomputable def bX6_measure_13 (g : Gs) (v1 : Nat) (v2 : Nat) (v3 : Int32) (v4 : Int32) : Option ((Int32 × Gs) ⊕ ((Int32 × Gs) ⊕ Gs)) :=
  if (gi (g v2) 2) ≤ v4 then out1 (bX6_measure_55 g v1 v2 v3) else if 8 ≤ v4 then out1 (bX6_measure_55 g v1 v2 v3) else (fX6_stretch g v1 v2 v3 v4).bind fun z3 => gd (inR ((v3 * 8) + v4) 80) ((some (ug g 601 (sa (g 601) 0 (upd (ga (g 601) 0) (Int32.toNatClampNeg ((v3 * 8) + v4)) z3)))).bind fun g5 => some (.inl (v4 + 1, g5)))
set_option maxRecDepth 100000 in
set_option maxHeartbeats 4000000 in
theorem wX6_measure_13 {p : Program} {l : Launch} {e : Env} {s : State} {m : MethodId} {args : Array Value} {below : List Frame} {meth : Method} {c : Code} {Γ : Gm} {A : Nat → Prop} {g : Gs} {v1 : Nat} {v2 : Nat} {v3 : Int32} {v4 : Int32} {q : ((Int32 × Gs) ⊕ ((Int32 × Gs) ⊕ Gs))} {fin : Gs} (C : Cx p s m args meth c yX6_measure cX6_measure 5 none Γ A) (hv1 : kd Γ v1 = some 2) (hv2 : kd Γ v2 = some 5) (hf : bX6_measure_13 g v1 v2 v3 v4 = some q) (hq : (KC (fun st : Int32 × Gs => Wk p l e { frames := 4, cells := 0, slots := 0, locals := 95 } s m args below meth c Γ A fin none 13 5 [(0, .ref (ad Γ 601)), (1, .ref (ad Γ v1)), (2, .ref (ad Γ v2)), (3, .int v3), (4, .int st.1)] [] st.2) (KC (fun st : Int32 × Gs => Wk p l e { frames := 4, cells := 0, slots := 0, locals := 95 } s m args below meth c Γ A fin none 2 5 [(0, .ref (ad Γ 601)), (1, .ref (ad Γ v1)), (2, .ref (ad Γ v2)), (3, .int st.1)] [] st.2) (fun x => x = fin))) q) : Wk p l e { frames := 4, cells := 0, slots := 0, locals := 95 } s m args below meth c Γ A fin none 13 5 [(0, .ref (ad Γ 601)), (1, .ref (ad Γ v1)), (2, .ref (ad Γ v2)), (3, .int v3), (4, .int v4)] [] g := by
  intro H locs ls hw hS hl
  unfold bX6_measure_13 at hf
  obtain ⟨hx, hb, hml, hr, hown, htw, hlocks, hE⟩ := id C
  have hown : s.vm.findClass RX6 = some m.cls := hown
  refine lv_iload hx hb dX6_measure_13 (lv_at hl 4 rfl) ?_
  refine lv_aload_n hx hb dX6_measure_15 rfl (lv_at hl 2 rfl) ?_
  refine va_get (ci := 5) (v := .int (gi (g v2) 2)) (C := RX5) (T := TX5) (N := 3) hx hb htw uwX5 hown hE.1 (hw _ _ hv2) 0 rfl rfl 2 (by decide) (htw _ mw230) (fun _ h9 => h9) rfl dX6_measure_16 ?_
  refine lv_icmp_ge (tgt := 55) hx hb dX6_measure_19 (by decide) (fun c7 => ?_) (fun c7 => ?_)
  · have hf := ifp c7 hf
    obtain ⟨q1, hfq1, eq1⟩ := out1_some hf
    subst eq1
    have hf := hfq1
    have hq := hq.2 _ rfl
    exact wX6_measure_55 C hv1 hv2 hf hq H locs ls hw hS (lv_sub hl [0, 1, 2, 3] rfl)
  · have hf := ifn c7 hf
    refine lv_iload hx hb dX6_measure_22 (lv_at hl 4 rfl) ?_
    refine lv_bipush (v := 8) hx hb dX6_measure_24 (by decide) ?_
    refine lv_icmp_ge (tgt := 55) hx hb dX6_measure_26 (by decide) (fun c6 => ?_) (fun c6 => ?_)
    · have hf := ifp c6 hf
      obtain ⟨q2, hfq2, eq2⟩ := out1_some hf
      subst eq2
      have hf := hfq2
      have hq := hq.2 _ rfl
      exact wX6_measure_55 C hv1 hv2 hf hq H locs ls hw hS (lv_sub hl [0, 1, 2, 3] rfl)
    · have hf := ifn c6 hf
      refine lv_aload_n hx hb dX6_measure_29 rfl (lv_at hl 0 rfl) ?_
      refine va_get (ci := 6) (v := .ref (aa Γ 601 0)) (C := RX6) (T := TX6) (N := 2) hx hb htw uwX6 hown hE.1 (hw _ _ (wf_601 hE)) 0 rfl rfl 0 (by decide) (htw _ mw382) (fun _ h9 => h9) rfl dX6_measure_30 ?_
      refine lv_iload_n hx hb dX6_measure_33 rfl (lv_at hl 3 rfl) ?_
      refine lv_bipush (v := 8) hx hb dX6_measure_34 (by decide) ?_
      refine lv_imul hx hb dX6_measure_36 ?_
      refine lv_iload hx hb dX6_measure_37 (lv_at hl 4 rfl) ?_
      refine lv_iadd hx hb dX6_measure_39 ?_
      refine lv_aload_n hx hb dX6_measure_40 rfl (lv_at hl 1 rfl) ?_
      refine lv_aload_n hx hb dX6_measure_41 rfl (lv_at hl 2 rfl) ?_
      refine lv_iload_n hx hb dX6_measure_42 rfl (lv_at hl 3 rfl) ?_
      refine lv_iload hx hb dX6_measure_43 (lv_at hl 4 rfl) ?_
      obtain ⟨z3, hz3, hf⟩ := bd hf
      refine cl_Ss (rest := [.int ((v3 * 8) + v4), .ref (aa Γ 601 0)]) (kX6_stretch (l := l) (Γ := Γ) (A := A) hv1 hv2 hz3) ⟨hx, hb, hml, hown, htw⟩ hE hw hS mw844 mw845 mw125 mw846 pdX6_stretch ⟨Nat.le_of_ble_eq_true rfl, Nat.le_of_ble_eq_true rfl⟩ rfl rfl hl.1 (Nat.le_of_ble_eq_true rfl) dX6_measure_45 (fun H locs hw hS => ?_)
      obtain ⟨g4, hf⟩ := gd_some hf
      obtain ⟨g5, hg5, hf⟩ := bd hf
      have hg5 := Option.some.inj hg5
      refine wo_iastG hx hb hE hw hS (wf_601 hE) (q0 := 1) rfl (inR_in g4) (sa6_0 rfl) hg5 dX6_measure_48 (fun H locs hw hS => ?_)
      refine lv_iinc (v := v4 + 1) (lv' := [(4, .int (v4 + 1)), (0, .ref (ad Γ 601)), (1, .ref (ad Γ v1)), (2, .ref (ad Γ v2)), (3, .int v3)]) hx hb dX6_measure_49 hl (k := 4) rfl (by rfl) (by decide) rfl (fun ls hl => ?_)
      refine lv_goto (tgt := 13) hx hb dX6_measure_52 (by decide) ?_
      obtain rfl := Option.some.inj hf
      exact hq.1 _ rfl H locs ls hw hS (lv_sub hl [1, 2, 3, 4, 0] rfl)

set_option maxRecDepth 100000 in
set_option maxHeartbeats 4000000 in
theorem lwX6_measure_13 {p : Program} {l : Launch} {e : Env} {s : State} {m : MethodId} {args : Array Value} {below : List Frame} {meth : Method} {c : Code} {Γ : Gm} {A : Nat → Prop} {g : Gs} {v1 : Nat} {v2 : Nat} {v3 : Int32} {v4 : Int32} {q : ((Int32 × Gs) ⊕ Gs)} {fin : Gs} (C : Cx p s m args meth c yX6_measure cX6_measure 5 none Γ A) (hv1 : kd Γ v1 = some 2) (hv2 : kd Γ v2 = some 5) (hf : iter (fun st : Int32 × Gs => bX6_measure_13 st.2 v1 v2 v3 st.1) (v4, g) = some q) (hq : (KC (fun st : Int32 × Gs => Wk p l e { frames := 4, cells := 0, slots := 0, locals := 95 } s m args below meth c Γ A fin none 2 5 [(0, .ref (ad Γ 601)), (1, .ref (ad Γ v1)), (2, .ref (ad Γ v2)), (3, .int st.1)] [] st.2) (fun x => x = fin)) q) : Wk p l e { frames := 4, cells := 0, slots := 0, locals := 95 } s m args below meth c Γ A fin none 13 5 [(0, .ref (ad Γ 601)), (1, .ref (ad Γ v1)), (2, .ref (ad Γ v2)), (3, .int v3), (4, .int v4)] [] g := by
  intro H locs ls hw hS hl
  refine iter_walk (P := (fun st : Int32 × Gs => Wk p l e { frames := 4, cells := 0, slots := 0, locals := 95 } s m args below meth c Γ A fin none 13 5 [(0, .ref (ad Γ 601)), (1, .ref (ad Γ v1)), (2, .ref (ad Γ v2)), (3, .int v3), (4, .int st.1)] [] st.2)) (K := (KC (fun st : Int32 × Gs => Wk p l e { frames := 4, cells := 0, slots := 0, locals := 95 } s m args below meth c Γ A fin none 2 5 [(0, .ref (ad Γ 601)), (1, .ref (ad Γ v1)), (2, .ref (ad Γ v2)), (3, .int st.1)] [] st.2) (fun x => x = fin))) (fun st q hq1 h1 h2 => ?_) hf hq H locs ls hw hS hl
  exact wX6_measure_13 (g := st.2) (v4 := st.1) C hv1 hv2 hq1 ⟨h1, h2⟩

noncomputable def bX6_measure_2 (g : Gs) (v1 : Nat) (v2 : Nat) (v3 : Int32) : Option ((Int32 × Gs) ⊕ Gs) :=
  if (gi (g v1) 1) ≤ v3 then some (.inr (g)) else iter (fun st : Int32 × Gs => bX6_measure_13 st.2 v1 v2 v3 st.1) (0, g)
set_option maxRecDepth 100000 in
set_option maxHeartbeats 4000000 in
theorem wX6_measure_2 {p : Program} {l : Launch} {e : Env} {s : State} {m : MethodId} {args : Array Value} {below : List Frame} {meth : Method} {c : Code} {Γ : Gm} {A : Nat → Prop} {g : Gs} {v1 : Nat} {v2 : Nat} {v3 : Int32} {q : ((Int32 × Gs) ⊕ Gs)} {fin : Gs} (C : Cx p s m args meth c yX6_measure cX6_measure 5 none Γ A) (hv1 : kd Γ v1 = some 2) (hv2 : kd Γ v2 = some 5) (hf : bX6_measure_2 g v1 v2 v3 = some q) (hq : (KC (fun st : Int32 × Gs => Wk p l e { frames := 4, cells := 0, slots := 0, locals := 95 } s m args below meth c Γ A fin none 2 5 [(0, .ref (ad Γ 601)), (1, .ref (ad Γ v1)), (2, .ref (ad Γ v2)), (3, .int st.1)] [] st.2) (fun x => x = fin)) q) : Wk p l e { frames := 4, cells := 0, slots := 0, locals := 95 } s m args below meth c Γ A fin none 2 5 [(0, .ref (ad Γ 601)), (1, .ref (ad Γ v1)), (2, .ref (ad Γ v2)), (3, .int v3)] [] g := by
  intro H locs ls hw hS hl
  unfold bX6_measure_2 at hf
  obtain ⟨hx, hb, hml, hr, hown, htw, hlocks, hE⟩ := id C
  have hown : s.vm.findClass RX6 = some m.cls := hown
  refine lv_iload_n hx hb dX6_measure_2 rfl (lv_at hl 3 rfl) ?_
  refine lv_aload_n hx hb dX6_measure_3 rfl (lv_at hl 1 rfl) ?_
  refine va_get (ci := 2) (v := .int (gi (g v1) 1)) (C := RX2) (T := TX2) (N := 11) hx hb htw uwX2 hown hE.1 (hw _ _ hv1) 0 rfl rfl 1 (by decide) (htw _ mw166) (fun _ h9 => h9) rfl dX6_measure_4 ?_
  refine lv_icmp_ge (tgt := 61) hx hb dX6_measure_7 (by decide) (fun c8 => ?_) (fun c8 => ?_)
  · have hf := ifp c8 hf
    obtain rfl := Option.some.inj hf
    have hq := hq.2 _ rfl
    subst hq
    exact rt_v C hw hS dX6_measure_61
  · have hf := ifn c8 hf
    refine lv_iconst (v := 0) hx hb dX6_measure_10 (by decide) ?_
    refine lv_istore (lv' := [(4, .int 0), (0, .ref (ad Γ 601)), (1, .ref (ad Γ v1)), (2, .ref (ad Γ v2)), (3, .int v3)]) hx hb dX6_measure_11 hl (by decide) rfl (fun ls hl => ?_)
    exact lwX6_measure_13 C hv1 hv2 hf hq H locs ls hw hS (lv_sub hl [1, 2, 3, 4, 0] rfl)

set_option maxRecDepth 100000 in
set_option maxHeartbeats 4000000 in
theorem lwX6_measure_2 {p : Program} {l : Launch} {e : Env} {s : State} {m : MethodId} {args : Array Value} {below : List Frame} {meth : Method} {c : Code} {Γ : Gm} {A : Nat → Prop} {g : Gs} {v1 : Nat} {v2 : Nat} {v3 : Int32} {q : Gs} {fin : Gs} (C : Cx p s m args meth c yX6_measure cX6_measure 5 none Γ A) (hv1 : kd Γ v1 = some 2) (hv2 : kd Γ v2 = some 5) (hf : iter (fun st : Int32 × Gs => bX6_measure_2 st.2 v1 v2 st.1) (v3, g) = some q) (hq : (fun x => x = fin) q) : Wk p l e { frames := 4, cells := 0, slots := 0, locals := 95 } s m args below meth c Γ A fin none 2 5 [(0, .ref (ad Γ 601)), (1, .ref (ad Γ v1)), (2, .ref (ad Γ v2)), (3, .int v3)] [] g := by
  intro H locs ls hw hS hl
  refine iter_walk (P := (fun st : Int32 × Gs => Wk p l e { frames := 4, cells := 0, slots := 0, locals := 95 } s m args below meth c Γ A fin none 2 5 [(0, .ref (ad Γ 601)), (1, .ref (ad Γ v1)), (2, .ref (ad Γ v2)), (3, .int st.1)] [] st.2)) (K := (fun x => x = fin)) (fun st q hq1 h1 h2 => ?_) hf hq H locs ls hw hS hl
  exact wX6_measure_2 (g := st.2) (v3 := st.1) C hv1 hv2 hq1 ⟨h1, h2⟩

noncomputable def fX6_measure (g : Gs) (v1 : Nat) (v2 : Nat) : Option Gs :=
  iter (fun st : Int32 × Gs => bX6_measure_2 st.2 v1 v2 st.1) (0, g)
set_option maxRecDepth 100000 in
set_option maxHeartbeats 4000000 in
theorem wX6_measure_e {p : Program} {l : Launch} {e : Env} {s : State} {m : MethodId} {args : Array Value} {below : List Frame} {meth : Method} {c : Code} {Γ : Gm} {A : Nat → Prop} {g : Gs} {v1 : Nat} {v2 : Nat} {q : Gs} {fin : Gs} (C : Cx p s m args meth c yX6_measure cX6_measure 5 none Γ A) (hv1 : kd Γ v1 = some 2) (hv2 : kd Γ v2 = some 5) (hf : fX6_measure g v1 v2 = some q) (hq : (fun x => x = fin) q) : Wk p l e { frames := 4, cells := 0, slots := 0, locals := 95 } s m args below meth c Γ A fin none 0 5 [(0, .ref (ad Γ 601)), (1, .ref (ad Γ v1)), (2, .ref (ad Γ v2))] [] g := by
  intro H locs ls hw hS hl
  unfold fX6_measure at hf
  obtain ⟨hx, hb, hml, hr, hown, htw, hlocks, hE⟩ := id C
  have hown : s.vm.findClass RX6 = some m.cls := hown
  refine lv_iconst (v := 0) hx hb dX6_measure_0 (by decide) ?_
  refine lv_istore_n (lv' := [(3, .int 0), (0, .ref (ad Γ 601)), (1, .ref (ad Γ v1)), (2, .ref (ad Γ v2))]) hx hb dX6_measure_1 rfl hl (by decide) rfl (fun ls hl => ?_)
  exact lwX6_measure_2 C hv1 hv2 hf hq H locs ls hw hS (lv_sub hl [1, 2, 3, 0] rfl)

theorem kX6_measure {l : Launch} {Γ : Gm} {A : Nat → Prop} {g : Gs} {v1 : Nat} {v2 : Nat} {fin : Gs} (hv1 : kd Γ v1 = some 2) (hv2 : kd Γ v2 = some 5) (hf : fX6_measure g v1 v2 = some fin) : Kt l yX6_measure cX6_measure 5 none 4 95 Γ A g fin [.ref (ad Γ 601), .ref (ad Γ v1), .ref (ad Γ v2)] none :=
  kt_of (by decide) (Nat.le_of_ble_eq_true rfl) (fun p e s m args below meth c C => wX6_measure_e C hv1 hv2 hf rfl)
noncomputable def bX6_longestServed_116 (g : Gs) (v1 : Nat) : Option (Gs × Int32) :=
  (fX2_allSecrets (g v1)).bind fun z1 => gd (inR z1 1024) (some ((g, ga (g 601) 1 (Int32.toNatClampNeg z1))))
set_option maxRecDepth 100000 in
set_option maxHeartbeats 4000000 in
theorem wX6_longestServed_116 {p : Program} {l : Launch} {e : Env} {s : State} {m : MethodId} {args : Array Value} {below : List Frame} {meth : Method} {c : Code} {Γ : Gm} {A : Nat → Prop} {g : Gs} {v1 : Nat} {q : (Gs × Int32)} {fin : Gs × Int32} (C : Cx p s m args meth c yX6_longestServed cX6_longestServed 7 (some .int) Γ A) (hv1 : kd Γ v1 = some 2) (hf : bX6_longestServed_116 g v1 = some q) (hq : (fun x => x = fin) q) : Wk p l e { frames := 5, cells := 0, slots := 0, locals := 119 } s m args below meth c Γ A fin.1 (some (.int fin.2)) 116 7 [(0, .ref (ad Γ 601)), (1, .ref (ad Γ v1))] [] g := by
  intro H locs ls hw hS hl
  unfold bX6_longestServed_116 at hf
  obtain ⟨hx, hb, hml, hr, hown, htw, hlocks, hE⟩ := id C
  have hown : s.vm.findClass RX6 = some m.cls := hown
  refine lv_aload_n hx hb dX6_longestServed_116 rfl (lv_at hl 0 rfl) ?_
  refine va_get (ci := 6) (v := .ref (aa Γ 601 1)) (C := RX6) (T := TX6) (N := 2) hx hb htw uwX6 hown hE.1 (hw _ _ (wf_601 hE)) 0 rfl rfl 1 (by decide) (htw _ mw383) (fun _ h9 => h9) rfl dX6_longestServed_117 ?_
  refine lv_aload_n hx hb dX6_longestServed_120 rfl (lv_at hl 1 rfl) ?_
  obtain ⟨z1, hz1, hf⟩ := bd hf
  refine cl_Vs (rest := [.ref (aa Γ 601 1)]) (kgX2_allSecrets (l := l) (Γ := Γ) (A := A) (G := g) (o := v1) hv1 hz1) ⟨hx, hb, hml, hown, htw⟩ hE hw hS (hw _ _ hv1) (q0 := 0) rfl rfl mw856 mw857 mw858 mw120 mw859 pdX2_allSecrets ⟨Nat.le_of_ble_eq_true rfl, Nat.le_of_ble_eq_true rfl⟩ rfl rfl hl.1 (Nat.le_of_ble_eq_true rfl) dX6_longestServed_121 (fun H locs hw hS => ?_)
  obtain ⟨g2, hf⟩ := gd_some hf
  refine va_iald hx hb hE.1 (hw _ _ (wf_601 hE)) 2 0 rfl rfl (inR_in g2) dX6_longestServed_124 ?_
  obtain rfl := Option.some.inj hf
  subst hq
  exact rt_i C hw hS dX6_longestServed_125

noncomputable def bX6_longestServed_102 (g : Gs) (v1 : Nat) (v2 : Nat) (v3 : Int32) (v4 : Int32) : Option ((Int32 × Gs) ⊕ (Gs × Int32)) :=
  gd (inR v3 1024) ((some (ug g 601 (sa (g 601) 1 (upd (ga (g 601) 1) (Int32.toNatClampNeg v3) v4)))).bind fun g4 => some (.inl (v3 + 1, g4)))
set_option maxRecDepth 100000 in
set_option maxHeartbeats 4000000 in
theorem wX6_longestServed_102 {p : Program} {l : Launch} {e : Env} {s : State} {m : MethodId} {args : Array Value} {below : List Frame} {meth : Method} {c : Code} {Γ : Gm} {A : Nat → Prop} {g : Gs} {v1 : Nat} {v2 : Nat} {v3 : Int32} {v4 : Int32} {q : ((Int32 × Gs) ⊕ (Gs × Int32))} {fin : Gs × Int32} (C : Cx p s m args meth c yX6_longestServed cX6_longestServed 7 (some .int) Γ A) (hv1 : kd Γ v1 = some 2) (hv2 : kd Γ v2 = some 5) (hf : bX6_longestServed_102 g v1 v2 v3 v4 = some q) (hq : (KC (fun st : Int32 × Gs => Wk p l e { frames := 5, cells := 0, slots := 0, locals := 119 } s m args below meth c Γ A fin.1 (some (.int fin.2)) 15 7 [(0, .ref (ad Γ 601)), (1, .ref (ad Γ v1)), (2, .ref (ad Γ v2)), (3, .int st.1)] [] st.2) (fun x => x = fin)) q) : Wk p l e { frames := 5, cells := 0, slots := 0, locals := 119 } s m args below meth c Γ A fin.1 (some (.int fin.2)) 102 7 [(0, .ref (ad Γ 601)), (1, .ref (ad Γ v1)), (2, .ref (ad Γ v2)), (3, .int v3), (4, .int v4)] [] g := by
  intro H locs ls hw hS hl
  unfold bX6_longestServed_102 at hf
  obtain ⟨hx, hb, hml, hr, hown, htw, hlocks, hE⟩ := id C
  have hown : s.vm.findClass RX6 = some m.cls := hown
  refine lv_aload_n hx hb dX6_longestServed_102 rfl (lv_at hl 0 rfl) ?_
  refine va_get (ci := 6) (v := .ref (aa Γ 601 1)) (C := RX6) (T := TX6) (N := 2) hx hb htw uwX6 hown hE.1 (hw _ _ (wf_601 hE)) 0 rfl rfl 1 (by decide) (htw _ mw383) (fun _ h9 => h9) rfl dX6_longestServed_103 ?_
  refine lv_iload_n hx hb dX6_longestServed_106 rfl (lv_at hl 3 rfl) ?_
  refine lv_iload hx hb dX6_longestServed_107 (lv_at hl 4 rfl) ?_
  obtain ⟨g3, hf⟩ := gd_some hf
  obtain ⟨g4, hg4, hf⟩ := bd hf
  have hg4 := Option.some.inj hg4
  refine wo_iastG hx hb hE hw hS (wf_601 hE) (q0 := 2) rfl (inR_in g3) (sa6_1 rfl) hg4 dX6_longestServed_109 (fun H locs hw hS => ?_)
  refine lv_iinc (v := v3 + 1) (lv' := [(3, .int (v3 + 1)), (0, .ref (ad Γ 601)), (1, .ref (ad Γ v1)), (2, .ref (ad Γ v2)), (4, .int v4)]) hx hb dX6_longestServed_110 hl (k := 3) rfl (by rfl) (by decide) rfl (fun ls hl => ?_)
  refine lv_goto (tgt := 15) hx hb dX6_longestServed_113 (by decide) ?_
  obtain rfl := Option.some.inj hf
  exact hq.1 _ rfl H locs ls hw hS (lv_sub hl [1, 2, 3, 0] rfl)

noncomputable def bX6_longestServed_96 (g : Gs) (v1 : Nat) (v2 : Nat) (v3 : Int32) (v4 : Int32) (v5 : Int32) : Option ((Int32 × Int32) ⊕ ((Int32 × Gs) ⊕ (Gs × Int32))) :=
  some (.inl (v4, v5 + 1))
set_option maxRecDepth 100000 in
set_option maxHeartbeats 4000000 in
theorem wX6_longestServed_96 {p : Program} {l : Launch} {e : Env} {s : State} {m : MethodId} {args : Array Value} {below : List Frame} {meth : Method} {c : Code} {Γ : Gm} {A : Nat → Prop} {g : Gs} {v1 : Nat} {v2 : Nat} {v3 : Int32} {v4 : Int32} {v5 : Int32} {q : ((Int32 × Int32) ⊕ ((Int32 × Gs) ⊕ (Gs × Int32)))} {fin : Gs × Int32} (C : Cx p s m args meth c yX6_longestServed cX6_longestServed 7 (some .int) Γ A) (hv1 : kd Γ v1 = some 2) (hv2 : kd Γ v2 = some 5) (hf : bX6_longestServed_96 g v1 v2 v3 v4 v5 = some q) (hq : (KC (fun st : Int32 × Int32 => Wk p l e { frames := 5, cells := 0, slots := 0, locals := 119 } s m args below meth c Γ A fin.1 (some (.int fin.2)) 29 7 [(0, .ref (ad Γ 601)), (1, .ref (ad Γ v1)), (2, .ref (ad Γ v2)), (3, .int v3), (4, .int st.1), (5, .int st.2)] [] g) (KC (fun st : Int32 × Gs => Wk p l e { frames := 5, cells := 0, slots := 0, locals := 119 } s m args below meth c Γ A fin.1 (some (.int fin.2)) 15 7 [(0, .ref (ad Γ 601)), (1, .ref (ad Γ v1)), (2, .ref (ad Γ v2)), (3, .int st.1)] [] st.2) (fun x => x = fin))) q) : Wk p l e { frames := 5, cells := 0, slots := 0, locals := 119 } s m args below meth c Γ A fin.1 (some (.int fin.2)) 96 7 [(0, .ref (ad Γ 601)), (1, .ref (ad Γ v1)), (2, .ref (ad Γ v2)), (3, .int v3), (4, .int v4), (5, .int v5)] [] g := by
  intro H locs ls hw hS hl
  unfold bX6_longestServed_96 at hf
  obtain ⟨hx, hb, hml, hr, hown, htw, hlocks, hE⟩ := id C
  have hown : s.vm.findClass RX6 = some m.cls := hown
  refine lv_iinc (v := v5 + 1) (lv' := [(5, .int (v5 + 1)), (0, .ref (ad Γ 601)), (1, .ref (ad Γ v1)), (2, .ref (ad Γ v2)), (3, .int v3), (4, .int v4)]) hx hb dX6_longestServed_96 hl (k := 5) rfl (by rfl) (by decide) rfl (fun ls hl => ?_)
  refine lv_goto (tgt := 29) hx hb dX6_longestServed_99 (by decide) ?_
  obtain rfl := Option.some.inj hf
  exact hq.1 _ rfl H locs ls hw hS (lv_sub hl [1, 2, 3, 4, 5, 0] rfl)

noncomputable def bX6_longestServed_91 (g : Gs) (v1 : Nat) (v2 : Nat) (v3 : Int32) (v5 : Int32) (s0 : Int32) (s1 : Int32) : Option ((Int32 × Int32) ⊕ ((Int32 × Gs) ⊕ (Gs × Int32))) :=
  (some (mxi s1 s0)).bind fun x5 => bX6_longestServed_96 g v1 v2 v3 x5 v5
set_option maxRecDepth 100000 in
set_option maxHeartbeats 4000000 in
theorem wX6_longestServed_91 {p : Program} {l : Launch} {e : Env} {s : State} {m : MethodId} {args : Array Value} {below : List Frame} {meth : Method} {c : Code} {Γ : Gm} {A : Nat → Prop} {g : Gs} {v1 : Nat} {v2 : Nat} {v3 : Int32} {v5 : Int32} {s0 : Int32} {s1 : Int32} {q : ((Int32 × Int32) ⊕ ((Int32 × Gs) ⊕ (Gs × Int32)))} {fin : Gs × Int32} (C : Cx p s m args meth c yX6_longestServed cX6_longestServed 7 (some .int) Γ A) (hv1 : kd Γ v1 = some 2) (hv2 : kd Γ v2 = some 5) (hf : bX6_longestServed_91 g v1 v2 v3 v5 s0 s1 = some q) (hq : (KC (fun st : Int32 × Int32 => Wk p l e { frames := 5, cells := 0, slots := 0, locals := 119 } s m args below meth c Γ A fin.1 (some (.int fin.2)) 29 7 [(0, .ref (ad Γ 601)), (1, .ref (ad Γ v1)), (2, .ref (ad Γ v2)), (3, .int v3), (4, .int st.1), (5, .int st.2)] [] g) (KC (fun st : Int32 × Gs => Wk p l e { frames := 5, cells := 0, slots := 0, locals := 119 } s m args below meth c Γ A fin.1 (some (.int fin.2)) 15 7 [(0, .ref (ad Γ 601)), (1, .ref (ad Γ v1)), (2, .ref (ad Γ v2)), (3, .int st.1)] [] st.2) (fun x => x = fin))) q) : Wk p l e { frames := 5, cells := 0, slots := 0, locals := 119 } s m args below meth c Γ A fin.1 (some (.int fin.2)) 91 7 [(0, .ref (ad Γ 601)), (1, .ref (ad Γ v1)), (2, .ref (ad Γ v2)), (3, .int v3), (5, .int v5)] [.int s0, .int s1] g := by
  intro H locs ls hw hS hl
  unfold bX6_longestServed_91 at hf
  obtain ⟨hx, hb, hml, hr, hown, htw, hlocks, hE⟩ := id C
  have hown : s.vm.findClass RX6 = some m.cls := hown
  refine va_mmax hx hb (hml.trans hl.1.symm) hown (htw _ mw855) (htw _ mw225) (htw _ mw122) (htw _ mw226) (Nat.le_of_ble_eq_true rfl) (Nat.le_of_ble_eq_true rfl) (Nat.le_refl _) (Nat.le_refl _) dX6_longestServed_91 ?_
  obtain ⟨x5, hx5, hf⟩ := bd hf
  have hx5 := Option.some.inj hx5
  refine tp1i hx5 ?_
  refine lv_istore (lv' := [(4, .int x5), (0, .ref (ad Γ 601)), (1, .ref (ad Γ v1)), (2, .ref (ad Γ v2)), (3, .int v3), (5, .int v5)]) hx hb dX6_longestServed_94 hl (by decide) rfl (fun ls hl => ?_)
  exact wX6_longestServed_96 C hv1 hv2 hf hq H locs ls hw hS (lv_sub hl [1, 2, 3, 4, 0, 5] rfl)

noncomputable def bX6_longestServed_29 (g : Gs) (v1 : Nat) (v2 : Nat) (v3 : Int32) (v4 : Int32) (v5 : Int32) : Option ((Int32 × Int32) ⊕ ((Int32 × Gs) ⊕ (Gs × Int32))) :=
  if (gi (g v1) 1) ≤ v5 then out1 (bX6_longestServed_102 g v1 v2 v3 v4) else (fX9_hasBit v3 v5).bind fun z7 => if z7 = 0 then bX6_longestServed_96 g v1 v2 v3 v4 v5 else (some (v3 &&& (((1 : Int32) <<< (v5 &&& 31)) ^^^ (-1)))).bind fun x8 => gd (inR x8 1024) ((some (ga (g 601) 1 (Int32.toNatClampNeg x8))).bind fun x10 => if (gi (g v2) 2) ≤ x10 then bX6_longestServed_91 g v1 v2 v3 v5 x10 v4 else gd (inR ((v5 * 8) + x10) 80) (bX6_longestServed_91 g v1 v2 v3 v5 (ga (g 601) 0 (Int32.toNatClampNeg ((v5 * 8) + x10))) v4))
set_option maxRecDepth 100000 in
set_option maxHeartbeats 4000000 in
theorem wX6_longestServed_29 {p : Program} {l : Launch} {e : Env} {s : State} {m : MethodId} {args : Array Value} {below : List Frame} {meth : Method} {c : Code} {Γ : Gm} {A : Nat → Prop} {g : Gs} {v1 : Nat} {v2 : Nat} {v3 : Int32} {v4 : Int32} {v5 : Int32} {q : ((Int32 × Int32) ⊕ ((Int32 × Gs) ⊕ (Gs × Int32)))} {fin : Gs × Int32} (C : Cx p s m args meth c yX6_longestServed cX6_longestServed 7 (some .int) Γ A) (hv1 : kd Γ v1 = some 2) (hv2 : kd Γ v2 = some 5) (hf : bX6_longestServed_29 g v1 v2 v3 v4 v5 = some q) (hq : (KC (fun st : Int32 × Int32 => Wk p l e { frames := 5, cells := 0, slots := 0, locals := 119 } s m args below meth c Γ A fin.1 (some (.int fin.2)) 29 7 [(0, .ref (ad Γ 601)), (1, .ref (ad Γ v1)), (2, .ref (ad Γ v2)), (3, .int v3), (4, .int st.1), (5, .int st.2)] [] g) (KC (fun st : Int32 × Gs => Wk p l e { frames := 5, cells := 0, slots := 0, locals := 119 } s m args below meth c Γ A fin.1 (some (.int fin.2)) 15 7 [(0, .ref (ad Γ 601)), (1, .ref (ad Γ v1)), (2, .ref (ad Γ v2)), (3, .int st.1)] [] st.2) (fun x => x = fin))) q) : Wk p l e { frames := 5, cells := 0, slots := 0, locals := 119 } s m args below meth c Γ A fin.1 (some (.int fin.2)) 29 7 [(0, .ref (ad Γ 601)), (1, .ref (ad Γ v1)), (2, .ref (ad Γ v2)), (3, .int v3), (4, .int v4), (5, .int v5)] [] g := by
  intro H locs ls hw hS hl
  unfold bX6_longestServed_29 at hf
  obtain ⟨hx, hb, hml, hr, hown, htw, hlocks, hE⟩ := id C
  have hown : s.vm.findClass RX6 = some m.cls := hown
  refine lv_iload hx hb dX6_longestServed_29 (lv_at hl 5 rfl) ?_
  refine lv_aload_n hx hb dX6_longestServed_31 rfl (lv_at hl 1 rfl) ?_
  refine va_get (ci := 2) (v := .int (gi (g v1) 1)) (C := RX2) (T := TX2) (N := 11) hx hb htw uwX2 hown hE.1 (hw _ _ hv1) 0 rfl rfl 1 (by decide) (htw _ mw166) (fun _ h9 => h9) rfl dX6_longestServed_32 ?_
  refine lv_icmp_ge (tgt := 102) hx hb dX6_longestServed_35 (by decide) (fun c14 => ?_) (fun c14 => ?_)
  · have hf := ifp c14 hf
    obtain ⟨q6, hfq6, eq6⟩ := out1_some hf
    subst eq6
    have hf := hfq6
    have hq := hq.2 _ rfl
    exact wX6_longestServed_102 C hv1 hv2 hf hq H locs ls hw hS (lv_sub hl [0, 1, 2, 3, 4] rfl)
  · have hf := ifn c14 hf
    refine lv_iload_n hx hb dX6_longestServed_38 rfl (lv_at hl 3 rfl) ?_
    refine lv_iload hx hb dX6_longestServed_39 (lv_at hl 5 rfl) ?_
    obtain ⟨z7, hz7, hf⟩ := bd hf
    refine cl_SN (rest := []) (kX9_hasBit (l := l) (Γ := Γ) (A := A) (G := g) hz7) ⟨hx, hb, hml, hown, htw⟩ hE hw hS (nw12 hE.2.2.1) mw717 mw118 mw718 pdX9_hasBit ⟨Nat.le_of_ble_eq_true rfl, Nat.le_of_ble_eq_true rfl⟩ rfl rfl hl.1 (Nat.le_of_ble_eq_true rfl) dX6_longestServed_41 (fun H locs hw hS => ?_)
    refine lv_if_eq (tgt := 96) hx hb dX6_longestServed_44 (by decide) (fun c13 => ?_) (fun c13 => ?_)
    · have hf := ifp c13 hf
      exact wX6_longestServed_96 C hv1 hv2 hf hq H locs ls hw hS hl
    · have hf := ifn c13 hf
      refine lv_aload_n hx hb dX6_longestServed_47 rfl (lv_at hl 0 rfl) ?_
      refine va_get (ci := 6) (v := .ref (aa Γ 601 1)) (C := RX6) (T := TX6) (N := 2) hx hb htw uwX6 hown hE.1 (hw _ _ (wf_601 hE)) 0 rfl rfl 1 (by decide) (htw _ mw383) (fun _ h9 => h9) rfl dX6_longestServed_48 ?_
      refine lv_iload_n hx hb dX6_longestServed_51 rfl (lv_at hl 3 rfl) ?_
      refine lv_iconst (v := 1) hx hb dX6_longestServed_52 (by decide) ?_
      refine lv_iload hx hb dX6_longestServed_53 (lv_at hl 5 rfl) ?_
      refine lv_ishl hx hb dX6_longestServed_55 ?_
      refine lv_iconst (v := (-1)) hx hb dX6_longestServed_56 (by decide) ?_
      refine lv_ixor hx hb dX6_longestServed_57 ?_
      refine lv_iand hx hb dX6_longestServed_58 ?_
      obtain ⟨x8, hx8, hf⟩ := bd hf
      have hx8 := Option.some.inj hx8
      refine tp1i hx8 ?_
      obtain ⟨g9, hf⟩ := gd_some hf
      refine va_iald hx hb hE.1 (hw _ _ (wf_601 hE)) 2 0 rfl rfl (inR_in g9) dX6_longestServed_59 ?_
      obtain ⟨x10, hx10, hf⟩ := bd hf
      have hx10 := Option.some.inj hx10
      refine tp1i hx10 ?_
      refine lv_istore (lv' := [(6, .int x10), (0, .ref (ad Γ 601)), (1, .ref (ad Γ v1)), (2, .ref (ad Γ v2)), (3, .int v3), (4, .int v4), (5, .int v5)]) hx hb dX6_longestServed_60 hl (by decide) rfl (fun ls hl => ?_)
      refine lv_iload hx hb dX6_longestServed_62 (lv_at hl 5 rfl) ?_
      refine lv_iload hx hb dX6_longestServed_64 (lv_at hl 0 rfl) ?_
      refine lv_aload_n hx hb dX6_longestServed_66 rfl (lv_at hl 3 rfl) ?_
      refine va_get (ci := 5) (v := .int (gi (g v2) 2)) (C := RX5) (T := TX5) (N := 3) hx hb htw uwX5 hown hE.1 (hw _ _ hv2) 0 rfl rfl 2 (by decide) (htw _ mw230) (fun _ h9 => h9) rfl dX6_longestServed_67 ?_
      refine lv_icmp_ge (tgt := 89) hx hb dX6_longestServed_70 (by decide) (fun c12 => ?_) (fun c12 => ?_)
      · have hf := ifp c12 hf
        refine lv_iload hx hb dX6_longestServed_89 (lv_at hl 0 rfl) ?_
        exact wX6_longestServed_91 C hv1 hv2 hf hq H locs ls hw hS (lv_sub hl [1, 2, 3, 4, 6] rfl)
      · have hf := ifn c12 hf
        refine lv_aload_n hx hb dX6_longestServed_73 rfl (lv_at hl 1 rfl) ?_
        refine va_get (ci := 6) (v := .ref (aa Γ 601 0)) (C := RX6) (T := TX6) (N := 2) hx hb htw uwX6 hown hE.1 (hw _ _ (wf_601 hE)) 0 rfl rfl 0 (by decide) (htw _ mw382) (fun _ h9 => h9) rfl dX6_longestServed_74 ?_
        refine lv_iload hx hb dX6_longestServed_77 (lv_at hl 6 rfl) ?_
        refine lv_bipush (v := 8) hx hb dX6_longestServed_79 (by decide) ?_
        refine lv_imul hx hb dX6_longestServed_81 ?_
        refine lv_iload hx hb dX6_longestServed_82 (lv_at hl 0 rfl) ?_
        refine lv_iadd hx hb dX6_longestServed_84 ?_
        obtain ⟨g11, hf⟩ := gd_some hf
        refine va_iald hx hb hE.1 (hw _ _ (wf_601 hE)) 1 0 rfl rfl (inR_in g11) dX6_longestServed_85 ?_
        refine lv_goto (tgt := 91) hx hb dX6_longestServed_86 (by decide) ?_
        exact wX6_longestServed_91 C hv1 hv2 hf hq H locs ls hw hS (lv_sub hl [1, 2, 3, 4, 6] rfl)

set_option maxRecDepth 100000 in
set_option maxHeartbeats 4000000 in
theorem lwX6_longestServed_29 {p : Program} {l : Launch} {e : Env} {s : State} {m : MethodId} {args : Array Value} {below : List Frame} {meth : Method} {c : Code} {Γ : Gm} {A : Nat → Prop} {g : Gs} {v1 : Nat} {v2 : Nat} {v3 : Int32} {v4 : Int32} {v5 : Int32} {q : ((Int32 × Gs) ⊕ (Gs × Int32))} {fin : Gs × Int32} (C : Cx p s m args meth c yX6_longestServed cX6_longestServed 7 (some .int) Γ A) (hv1 : kd Γ v1 = some 2) (hv2 : kd Γ v2 = some 5) (hf : iter (fun st : Int32 × Int32 => bX6_longestServed_29 g v1 v2 v3 st.1 st.2) (v4, v5) = some q) (hq : (KC (fun st : Int32 × Gs => Wk p l e { frames := 5, cells := 0, slots := 0, locals := 119 } s m args below meth c Γ A fin.1 (some (.int fin.2)) 15 7 [(0, .ref (ad Γ 601)), (1, .ref (ad Γ v1)), (2, .ref (ad Γ v2)), (3, .int st.1)] [] st.2) (fun x => x = fin)) q) : Wk p l e { frames := 5, cells := 0, slots := 0, locals := 119 } s m args below meth c Γ A fin.1 (some (.int fin.2)) 29 7 [(0, .ref (ad Γ 601)), (1, .ref (ad Γ v1)), (2, .ref (ad Γ v2)), (3, .int v3), (4, .int v4), (5, .int v5)] [] g := by
  intro H locs ls hw hS hl
  refine iter_walk (P := (fun st : Int32 × Int32 => Wk p l e { frames := 5, cells := 0, slots := 0, locals := 119 } s m args below meth c Γ A fin.1 (some (.int fin.2)) 29 7 [(0, .ref (ad Γ 601)), (1, .ref (ad Γ v1)), (2, .ref (ad Γ v2)), (3, .int v3), (4, .int st.1), (5, .int st.2)] [] g)) (K := (KC (fun st : Int32 × Gs => Wk p l e { frames := 5, cells := 0, slots := 0, locals := 119 } s m args below meth c Γ A fin.1 (some (.int fin.2)) 15 7 [(0, .ref (ad Γ 601)), (1, .ref (ad Γ v1)), (2, .ref (ad Γ v2)), (3, .int st.1)] [] st.2) (fun x => x = fin))) (fun st q hq1 h1 h2 => ?_) hf hq H locs ls hw hS hl
  exact wX6_longestServed_29 (v4 := st.1) (v5 := st.2) C hv1 hv2 hq1 ⟨h1, h2⟩

noncomputable def bX6_longestServed_15 (g : Gs) (v1 : Nat) (v2 : Nat) (v3 : Int32) : Option ((Int32 × Gs) ⊕ (Gs × Int32)) :=
  (fX2_secretSets (g v1)).bind fun z15 => if z15 ≤ v3 then out1 (bX6_longestServed_116 g v1) else iter (fun st : Int32 × Int32 => bX6_longestServed_29 g v1 v2 v3 st.1 st.2) (0, 0)
set_option maxRecDepth 100000 in
set_option maxHeartbeats 4000000 in
theorem wX6_longestServed_15 {p : Program} {l : Launch} {e : Env} {s : State} {m : MethodId} {args : Array Value} {below : List Frame} {meth : Method} {c : Code} {Γ : Gm} {A : Nat → Prop} {g : Gs} {v1 : Nat} {v2 : Nat} {v3 : Int32} {q : ((Int32 × Gs) ⊕ (Gs × Int32))} {fin : Gs × Int32} (C : Cx p s m args meth c yX6_longestServed cX6_longestServed 7 (some .int) Γ A) (hv1 : kd Γ v1 = some 2) (hv2 : kd Γ v2 = some 5) (hf : bX6_longestServed_15 g v1 v2 v3 = some q) (hq : (KC (fun st : Int32 × Gs => Wk p l e { frames := 5, cells := 0, slots := 0, locals := 119 } s m args below meth c Γ A fin.1 (some (.int fin.2)) 15 7 [(0, .ref (ad Γ 601)), (1, .ref (ad Γ v1)), (2, .ref (ad Γ v2)), (3, .int st.1)] [] st.2) (fun x => x = fin)) q) : Wk p l e { frames := 5, cells := 0, slots := 0, locals := 119 } s m args below meth c Γ A fin.1 (some (.int fin.2)) 15 7 [(0, .ref (ad Γ 601)), (1, .ref (ad Γ v1)), (2, .ref (ad Γ v2)), (3, .int v3)] [] g := by
  intro H locs ls hw hS hl
  unfold bX6_longestServed_15 at hf
  obtain ⟨hx, hb, hml, hr, hown, htw, hlocks, hE⟩ := id C
  have hown : s.vm.findClass RX6 = some m.cls := hown
  refine lv_iload_n hx hb dX6_longestServed_15 rfl (lv_at hl 3 rfl) ?_
  refine lv_aload_n hx hb dX6_longestServed_16 rfl (lv_at hl 1 rfl) ?_
  obtain ⟨z15, hz15, hf⟩ := bd hf
  refine cl_Vs (rest := [.int v3]) (kgX2_secretSets (l := l) (Γ := Γ) (A := A) (G := g) (o := v1) hv1 hz15) ⟨hx, hb, hml, hown, htw⟩ hE hw hS (hw _ _ hv1) (q0 := 0) rfl rfl mw850 mw851 mw852 mw120 mw853 pdX2_secretSets ⟨Nat.le_of_ble_eq_true rfl, Nat.le_of_ble_eq_true rfl⟩ rfl rfl hl.1 (Nat.le_of_ble_eq_true rfl) dX6_longestServed_17 (fun H locs hw hS => ?_)
  refine lv_icmp_ge (tgt := 116) hx hb dX6_longestServed_20 (by decide) (fun c17 => ?_) (fun c17 => ?_)
  · have hf := ifp c17 hf
    obtain ⟨q16, hfq16, eq16⟩ := out1_some hf
    subst eq16
    have hf := hfq16
    have hq := hq.2 _ rfl
    exact wX6_longestServed_116 C hv1 hf hq H locs ls hw hS (lv_sub hl [0, 1] rfl)
  · have hf := ifn c17 hf
    refine lv_iconst (v := 0) hx hb dX6_longestServed_23 (by decide) ?_
    refine lv_istore (lv' := [(4, .int 0), (0, .ref (ad Γ 601)), (1, .ref (ad Γ v1)), (2, .ref (ad Γ v2)), (3, .int v3)]) hx hb dX6_longestServed_24 hl (by decide) rfl (fun ls hl => ?_)
    refine lv_iconst (v := 0) hx hb dX6_longestServed_26 (by decide) ?_
    refine lv_istore (lv' := [(5, .int 0), (4, .int 0), (0, .ref (ad Γ 601)), (1, .ref (ad Γ v1)), (2, .ref (ad Γ v2)), (3, .int v3)]) hx hb dX6_longestServed_27 hl (by decide) rfl (fun ls hl => ?_)
    exact lwX6_longestServed_29 C hv1 hv2 hf hq H locs ls hw hS (lv_sub hl [2, 3, 4, 5, 1, 0] rfl)

set_option maxRecDepth 100000 in
set_option maxHeartbeats 4000000 in
theorem lwX6_longestServed_15 {p : Program} {l : Launch} {e : Env} {s : State} {m : MethodId} {args : Array Value} {below : List Frame} {meth : Method} {c : Code} {Γ : Gm} {A : Nat → Prop} {g : Gs} {v1 : Nat} {v2 : Nat} {v3 : Int32} {q : (Gs × Int32)} {fin : Gs × Int32} (C : Cx p s m args meth c yX6_longestServed cX6_longestServed 7 (some .int) Γ A) (hv1 : kd Γ v1 = some 2) (hv2 : kd Γ v2 = some 5) (hf : iter (fun st : Int32 × Gs => bX6_longestServed_15 st.2 v1 v2 st.1) (v3, g) = some q) (hq : (fun x => x = fin) q) : Wk p l e { frames := 5, cells := 0, slots := 0, locals := 119 } s m args below meth c Γ A fin.1 (some (.int fin.2)) 15 7 [(0, .ref (ad Γ 601)), (1, .ref (ad Γ v1)), (2, .ref (ad Γ v2)), (3, .int v3)] [] g := by
  intro H locs ls hw hS hl
  refine iter_walk (P := (fun st : Int32 × Gs => Wk p l e { frames := 5, cells := 0, slots := 0, locals := 119 } s m args below meth c Γ A fin.1 (some (.int fin.2)) 15 7 [(0, .ref (ad Γ 601)), (1, .ref (ad Γ v1)), (2, .ref (ad Γ v2)), (3, .int st.1)] [] st.2)) (K := (fun x => x = fin)) (fun st q hq1 h1 h2 => ?_) hf hq H locs ls hw hS hl
  exact wX6_longestServed_15 (g := st.2) (v3 := st.1) C hv1 hv2 hq1 ⟨h1, h2⟩

noncomputable def fX6_longestServed (g : Gs) (v1 : Nat) (v2 : Nat) : Option (Gs × Int32) :=
  (fX6_measure g v1 v2).bind fun z18 => (some (ug z18 601 (sa (z18 601) 1 (upd (ga (z18 601) 1) (Int32.toNatClampNeg 0) 0)))).bind fun g19 => iter (fun st : Int32 × Gs => bX6_longestServed_15 st.2 v1 v2 st.1) (1, g19)
set_option maxRecDepth 100000 in
set_option maxHeartbeats 4000000 in
theorem wX6_longestServed_e {p : Program} {l : Launch} {e : Env} {s : State} {m : MethodId} {args : Array Value} {below : List Frame} {meth : Method} {c : Code} {Γ : Gm} {A : Nat → Prop} {g : Gs} {v1 : Nat} {v2 : Nat} {q : (Gs × Int32)} {fin : Gs × Int32} (C : Cx p s m args meth c yX6_longestServed cX6_longestServed 7 (some .int) Γ A) (hv1 : kd Γ v1 = some 2) (hv2 : kd Γ v2 = some 5) (hf : fX6_longestServed g v1 v2 = some q) (hq : (fun x => x = fin) q) : Wk p l e { frames := 5, cells := 0, slots := 0, locals := 119 } s m args below meth c Γ A fin.1 (some (.int fin.2)) 0 7 [(0, .ref (ad Γ 601)), (1, .ref (ad Γ v1)), (2, .ref (ad Γ v2))] [] g := by
  intro H locs ls hw hS hl
  unfold fX6_longestServed at hf
  obtain ⟨hx, hb, hml, hr, hown, htw, hlocks, hE⟩ := id C
  have hown : s.vm.findClass RX6 = some m.cls := hown
  refine lv_aload_n hx hb dX6_longestServed_0 rfl (lv_at hl 0 rfl) ?_
  refine lv_aload_n hx hb dX6_longestServed_1 rfl (lv_at hl 1 rfl) ?_
  refine lv_aload_n hx hb dX6_longestServed_2 rfl (lv_at hl 2 rfl) ?_
  obtain ⟨z18, hz18, hf⟩ := bd hf
  refine cl_Vv (rest := []) (kX6_measure (l := l) (Γ := Γ) (A := A) hv1 hv2 hz18) ⟨hx, hb, hml, hown, htw⟩ hE hw hS (hw _ _ (wf_601 hE)) (q0 := 0) rfl rfl mw840 mw842 mw32 mw125 mw843 pdX6_measure ⟨Nat.le_of_ble_eq_true rfl, Nat.le_of_ble_eq_true rfl⟩ rfl rfl hl.1 (Nat.le_of_ble_eq_true rfl) dX6_longestServed_3 (fun H locs hw hS => ?_)
  refine lv_aload_n hx hb dX6_longestServed_6 rfl (lv_at hl 0 rfl) ?_
  refine va_get (ci := 6) (v := .ref (aa Γ 601 1)) (C := RX6) (T := TX6) (N := 2) hx hb htw uwX6 hown hE.1 (hw _ _ (wf_601 hE)) 0 rfl rfl 1 (by decide) (htw _ mw383) (fun _ h9 => h9) rfl dX6_longestServed_7 ?_
  refine lv_iconst (v := 0) hx hb dX6_longestServed_10 (by decide) ?_
  refine lv_iconst (v := 0) hx hb dX6_longestServed_11 (by decide) ?_
  obtain ⟨g19, hg19, hf⟩ := bd hf
  have hg19 := Option.some.inj hg19
  refine wo_iastG hx hb hE hw hS (wf_601 hE) (q0 := 2) rfl (inR_in (i := 0) (n := 1024) (by decide)) (sa6_1 rfl) hg19 dX6_longestServed_12 (fun H locs hw hS => ?_)
  refine lv_iconst (v := 1) hx hb dX6_longestServed_13 (by decide) ?_
  refine lv_istore_n (lv' := [(3, .int 1), (0, .ref (ad Γ 601)), (1, .ref (ad Γ v1)), (2, .ref (ad Γ v2))]) hx hb dX6_longestServed_14 rfl hl (by decide) rfl (fun ls hl => ?_)
  exact lwX6_longestServed_15 C hv1 hv2 hf hq H locs ls hw hS (lv_sub hl [1, 2, 3, 0] rfl)

theorem kX6_longestServed {l : Launch} {Γ : Gm} {A : Nat → Prop} {g : Gs} {v1 : Nat} {v2 : Nat} {fin : Gs × Int32} (hv1 : kd Γ v1 = some 2) (hv2 : kd Γ v2 = some 5) (hf : fX6_longestServed g v1 v2 = some fin) : Kt l yX6_longestServed cX6_longestServed 7 (some .int) 5 119 Γ A g fin.1 [.ref (ad Γ 601), .ref (ad Γ v1), .ref (ad Γ v2)] (some (.int fin.2)) :=
  kt_of (by decide) (Nat.le_of_ble_eq_true rfl) (fun p e s m args below meth c C => wX6_longestServed_e C hv1 hv2 hf rfl)
noncomputable def bX6_startServing_2 (g : Gs) (v1 : Int32) (v2 : Int32) (v3 : Int32) : Option (Int32 ⊕ Int32) :=
  if v3 ≤ 0 then some (.inr (v3)) else gd (inR (((v1 * 8) + v3) - 1) 80) (if (ga (g 601) 0 (Int32.toNatClampNeg (((v1 * 8) + v3) - 1))) < v2 then some (.inr (v3)) else some (.inl (v3 + (-1))))
set_option maxRecDepth 100000 in
set_option maxHeartbeats 4000000 in
theorem wX6_startServing_2 {p : Program} {l : Launch} {e : Env} {s : State} {m : MethodId} {args : Array Value} {below : List Frame} {meth : Method} {c : Code} {Γ : Gm} {A : Nat → Prop} {g : Gs} {v1 : Int32} {v2 : Int32} {v3 : Int32} {q : (Int32 ⊕ Int32)} {fin : Int32} (C : Cx p s m args meth c yX6_startServing cX6_startServing 4 (some .int) Γ A) (hf : bX6_startServing_2 g v1 v2 v3 = some q) (hq : (KC (fun st : Int32 => Wk p l e { frames := 0, cells := 0, slots := 0, locals := 0 } s m args below meth c Γ A g (some (.int fin)) 2 4 [(0, .ref (ad Γ 601)), (1, .int v1), (2, .int v2), (3, .int st)] [] g) (fun x => x = fin)) q) : Wk p l e { frames := 0, cells := 0, slots := 0, locals := 0 } s m args below meth c Γ A g (some (.int fin)) 2 4 [(0, .ref (ad Γ 601)), (1, .int v1), (2, .int v2), (3, .int v3)] [] g := by
  intro H locs ls hw hS hl
  unfold bX6_startServing_2 at hf
  obtain ⟨hx, hb, hml, hr, hown, htw, hlocks, hE⟩ := id C
  have hown : s.vm.findClass RX6 = some m.cls := hown
  refine lv_iload_n hx hb dX6_startServing_2 rfl (lv_at hl 3 rfl) ?_
  refine lv_if_le (tgt := 29) hx hb dX6_startServing_3 (by decide) (fun c3 => ?_) (fun c3 => ?_)
  · have hf := ifp c3 hf
    refine lv_iload_n hx hb dX6_startServing_29 rfl (lv_at hl 3 rfl) ?_
    obtain rfl := Option.some.inj hf
    have hq := hq.2 _ rfl
    subst hq
    exact rt_i C hw hS dX6_startServing_30
  · have hf := ifn c3 hf
    refine lv_aload_n hx hb dX6_startServing_6 rfl (lv_at hl 0 rfl) ?_
    refine va_get (ci := 6) (v := .ref (aa Γ 601 0)) (C := RX6) (T := TX6) (N := 2) hx hb htw uwX6 hown hE.1 (hw _ _ (wf_601 hE)) 0 rfl rfl 0 (by decide) (htw _ mw382) (fun _ h9 => h9) rfl dX6_startServing_7 ?_
    refine lv_iload_n hx hb dX6_startServing_10 rfl (lv_at hl 1 rfl) ?_
    refine lv_bipush (v := 8) hx hb dX6_startServing_11 (by decide) ?_
    refine lv_imul hx hb dX6_startServing_13 ?_
    refine lv_iload_n hx hb dX6_startServing_14 rfl (lv_at hl 3 rfl) ?_
    refine lv_iadd hx hb dX6_startServing_15 ?_
    refine lv_iconst (v := 1) hx hb dX6_startServing_16 (by decide) ?_
    refine lv_isub hx hb dX6_startServing_17 ?_
    obtain ⟨g1, hf⟩ := gd_some hf
    refine va_iald hx hb hE.1 (hw _ _ (wf_601 hE)) 1 0 rfl rfl (inR_in g1) dX6_startServing_18 ?_
    refine lv_iload_n hx hb dX6_startServing_19 rfl (lv_at hl 2 rfl) ?_
    refine lv_icmp_lt (tgt := 29) hx hb dX6_startServing_20 (by decide) (fun c2 => ?_) (fun c2 => ?_)
    · have hf := ifp c2 hf
      refine lv_iload_n hx hb dX6_startServing_29 rfl (lv_at hl 3 rfl) ?_
      obtain rfl := Option.some.inj hf
      have hq := hq.2 _ rfl
      subst hq
      exact rt_i C hw hS dX6_startServing_30
    · have hf := ifn c2 hf
      refine lv_iinc (v := v3 + (-1)) (lv' := [(3, .int (v3 + (-1))), (0, .ref (ad Γ 601)), (1, .int v1), (2, .int v2)]) hx hb dX6_startServing_23 hl (k := 3) rfl (by rfl) (by decide) rfl (fun ls hl => ?_)
      refine lv_goto (tgt := 2) hx hb dX6_startServing_26 (by decide) ?_
      obtain rfl := Option.some.inj hf
      exact hq.1 _ rfl H locs ls hw hS (lv_sub hl [1, 2, 3, 0] rfl)

set_option maxRecDepth 100000 in
set_option maxHeartbeats 4000000 in
theorem lwX6_startServing_2 {p : Program} {l : Launch} {e : Env} {s : State} {m : MethodId} {args : Array Value} {below : List Frame} {meth : Method} {c : Code} {Γ : Gm} {A : Nat → Prop} {g : Gs} {v1 : Int32} {v2 : Int32} {v3 : Int32} {q : Int32} {fin : Int32} (C : Cx p s m args meth c yX6_startServing cX6_startServing 4 (some .int) Γ A) (hf : iter (fun st : Int32 => bX6_startServing_2 g v1 v2 st) v3 = some q) (hq : (fun x => x = fin) q) : Wk p l e { frames := 0, cells := 0, slots := 0, locals := 0 } s m args below meth c Γ A g (some (.int fin)) 2 4 [(0, .ref (ad Γ 601)), (1, .int v1), (2, .int v2), (3, .int v3)] [] g := by
  intro H locs ls hw hS hl
  refine iter_walk (P := (fun st : Int32 => Wk p l e { frames := 0, cells := 0, slots := 0, locals := 0 } s m args below meth c Γ A g (some (.int fin)) 2 4 [(0, .ref (ad Γ 601)), (1, .int v1), (2, .int v2), (3, .int st)] [] g)) (K := (fun x => x = fin)) (fun st q hq1 h1 h2 => ?_) hf hq H locs ls hw hS hl
  exact wX6_startServing_2 (v3 := st) C hq1 ⟨h1, h2⟩

noncomputable def fX6_startServing (g : Gs) (v1 : Int32) (v2 : Int32) : Option Int32 :=
  iter (fun st : Int32 => bX6_startServing_2 g v1 v2 st) v2
set_option maxRecDepth 100000 in
set_option maxHeartbeats 4000000 in
theorem wX6_startServing_e {p : Program} {l : Launch} {e : Env} {s : State} {m : MethodId} {args : Array Value} {below : List Frame} {meth : Method} {c : Code} {Γ : Gm} {A : Nat → Prop} {g : Gs} {v1 : Int32} {v2 : Int32} {q : Int32} {fin : Int32} (C : Cx p s m args meth c yX6_startServing cX6_startServing 4 (some .int) Γ A) (hf : fX6_startServing g v1 v2 = some q) (hq : (fun x => x = fin) q) : Wk p l e { frames := 0, cells := 0, slots := 0, locals := 0 } s m args below meth c Γ A g (some (.int fin)) 0 4 [(0, .ref (ad Γ 601)), (1, .int v1), (2, .int v2)] [] g := by
  intro H locs ls hw hS hl
  unfold fX6_startServing at hf
  obtain ⟨hx, hb, hml, hr, hown, htw, hlocks, hE⟩ := id C
  have hown : s.vm.findClass RX6 = some m.cls := hown
  refine lv_iload_n hx hb dX6_startServing_0 rfl (lv_at hl 2 rfl) ?_
  refine lv_istore_n (lv' := [(3, .int v2), (0, .ref (ad Γ 601)), (1, .int v1), (2, .int v2)]) hx hb dX6_startServing_1 rfl hl (by decide) rfl (fun ls hl => ?_)
  exact lwX6_startServing_2 C hf hq H locs ls hw hS (lv_sub hl [1, 2, 3, 0] rfl)

theorem kX6_startServing {l : Launch} {Γ : Gm} {A : Nat → Prop} {g : Gs} {v1 : Int32} {v2 : Int32} {fin : Int32} (hf : fX6_startServing g v1 v2 = some fin) : Kt l yX6_startServing cX6_startServing 4 (some .int) 0 0 Γ A g g [.ref (ad Γ 601), .int v1, .int v2] (some (.int fin)) :=
  kt_of (by decide) (Nat.le_of_ble_eq_true rfl) (fun p e s m args below meth c C => wX6_startServing_e C hf rfl)
noncomputable def bX6_fewestServing_137 (g : Gs) (v1 : Nat) (v2 : Nat) (v3 : Int32) (v4 : Int32) : Option ((Int32 × Int32 × Gs) ⊕ (Gs × Int32)) :=
  some (.inl (v3, v4 + 1, g))
set_option maxRecDepth 100000 in
set_option maxHeartbeats 4000000 in
theorem wX6_fewestServing_137 {p : Program} {l : Launch} {e : Env} {s : State} {m : MethodId} {args : Array Value} {below : List Frame} {meth : Method} {c : Code} {Γ : Gm} {A : Nat → Prop} {g : Gs} {v1 : Nat} {v2 : Nat} {v3 : Int32} {v4 : Int32} {q : ((Int32 × Int32 × Gs) ⊕ (Gs × Int32))} {fin : Gs × Int32} (C : Cx p s m args meth c yX6_fewestServing cX6_fewestServing 7 (some .int) Γ A) (hv1 : kd Γ v1 = some 2) (hv2 : kd Γ v2 = some 5) (hf : bX6_fewestServing_137 g v1 v2 v3 v4 = some q) (hq : (KC (fun st : Int32 × Int32 × Gs => Wk p l e { frames := 5, cells := 0, slots := 0, locals := 119 } s m args below meth c Γ A fin.1 (some (.int fin.2)) 32 7 [(0, .ref (ad Γ 601)), (1, .ref (ad Γ v1)), (2, .ref (ad Γ v2)), (3, .int st.1), (4, .int st.2.1)] [] st.2.2) (fun x => x = fin)) q) : Wk p l e { frames := 5, cells := 0, slots := 0, locals := 119 } s m args below meth c Γ A fin.1 (some (.int fin.2)) 137 7 [(0, .ref (ad Γ 601)), (1, .ref (ad Γ v1)), (2, .ref (ad Γ v2)), (3, .int v3), (4, .int v4)] [] g := by
  intro H locs ls hw hS hl
  unfold bX6_fewestServing_137 at hf
  obtain ⟨hx, hb, hml, hr, hown, htw, hlocks, hE⟩ := id C
  have hown : s.vm.findClass RX6 = some m.cls := hown
  refine lv_iinc (v := v4 + 1) (lv' := [(4, .int (v4 + 1)), (0, .ref (ad Γ 601)), (1, .ref (ad Γ v1)), (2, .ref (ad Γ v2)), (3, .int v3)]) hx hb dX6_fewestServing_137 hl (k := 4) rfl (by rfl) (by decide) rfl (fun ls hl => ?_)
  refine lv_goto (tgt := 32) hx hb dX6_fewestServing_140 (by decide) ?_
  obtain rfl := Option.some.inj hf
  exact hq.1 _ rfl H locs ls hw hS (lv_sub hl [1, 2, 3, 4, 0] rfl)

noncomputable def bX6_fewestServing_134 (g : Gs) (v1 : Nat) (v2 : Nat) (v4 : Int32) (v6 : Int32) : Option ((Int32 × Int32 × Gs) ⊕ (Gs × Int32)) :=
  bX6_fewestServing_137 g v1 v2 v6 v4
set_option maxRecDepth 100000 in
set_option maxHeartbeats 4000000 in
theorem wX6_fewestServing_134 {p : Program} {l : Launch} {e : Env} {s : State} {m : MethodId} {args : Array Value} {below : List Frame} {meth : Method} {c : Code} {Γ : Gm} {A : Nat → Prop} {g : Gs} {v1 : Nat} {v2 : Nat} {v4 : Int32} {v6 : Int32} {q : ((Int32 × Int32 × Gs) ⊕ (Gs × Int32))} {fin : Gs × Int32} (C : Cx p s m args meth c yX6_fewestServing cX6_fewestServing 7 (some .int) Γ A) (hv1 : kd Γ v1 = some 2) (hv2 : kd Γ v2 = some 5) (hf : bX6_fewestServing_134 g v1 v2 v4 v6 = some q) (hq : (KC (fun st : Int32 × Int32 × Gs => Wk p l e { frames := 5, cells := 0, slots := 0, locals := 119 } s m args below meth c Γ A fin.1 (some (.int fin.2)) 32 7 [(0, .ref (ad Γ 601)), (1, .ref (ad Γ v1)), (2, .ref (ad Γ v2)), (3, .int st.1), (4, .int st.2.1)] [] st.2.2) (fun x => x = fin)) q) : Wk p l e { frames := 5, cells := 0, slots := 0, locals := 119 } s m args below meth c Γ A fin.1 (some (.int fin.2)) 134 7 [(0, .ref (ad Γ 601)), (1, .ref (ad Γ v1)), (2, .ref (ad Γ v2)), (4, .int v4), (6, .int v6)] [] g := by
  intro H locs ls hw hS hl
  unfold bX6_fewestServing_134 at hf
  obtain ⟨hx, hb, hml, hr, hown, htw, hlocks, hE⟩ := id C
  have hown : s.vm.findClass RX6 = some m.cls := hown
  refine lv_iload hx hb dX6_fewestServing_134 (lv_at hl 4 rfl) ?_
  refine lv_istore_n (lv' := [(3, .int v6), (0, .ref (ad Γ 601)), (1, .ref (ad Γ v1)), (2, .ref (ad Γ v2)), (4, .int v4), (6, .int v6)]) hx hb dX6_fewestServing_136 rfl hl (by decide) rfl (fun ls hl => ?_)
  exact wX6_fewestServing_137 C hv1 hv2 hf hq H locs ls hw hS (lv_sub hl [1, 2, 3, 0, 4] rfl)

noncomputable def bX6_fewestServing_102 (g : Gs) (v1 : Nat) (v2 : Nat) (v3 : Int32) (v4 : Int32) (v5 : Int32) : Option ((Int32 × Int32 × Gs) ⊕ (Gs × Int32)) :=
  gd (inR v4 1024) ((some (ug g 601 (sa (g 601) 1 (upd (ga (g 601) 1) (Int32.toNatClampNeg v4) v5)))).bind fun g2 => (fJ6_bitCount_0f7a4 v4).bind fun z3 => if v5 = 0 then if v3 = (-1) then bX6_fewestServing_134 g2 v1 v2 v4 z3 else if v3 ≤ z3 then bX6_fewestServing_137 g2 v1 v2 v3 v4 else bX6_fewestServing_134 g2 v1 v2 v4 z3 else bX6_fewestServing_137 g2 v1 v2 v3 v4)
set_option maxRecDepth 100000 in
set_option maxHeartbeats 4000000 in
theorem wX6_fewestServing_102 {p : Program} {l : Launch} {e : Env} {s : State} {m : MethodId} {args : Array Value} {below : List Frame} {meth : Method} {c : Code} {Γ : Gm} {A : Nat → Prop} {g : Gs} {v1 : Nat} {v2 : Nat} {v3 : Int32} {v4 : Int32} {v5 : Int32} {q : ((Int32 × Int32 × Gs) ⊕ (Gs × Int32))} {fin : Gs × Int32} (C : Cx p s m args meth c yX6_fewestServing cX6_fewestServing 7 (some .int) Γ A) (hv1 : kd Γ v1 = some 2) (hv2 : kd Γ v2 = some 5) (hf : bX6_fewestServing_102 g v1 v2 v3 v4 v5 = some q) (hq : (KC (fun st : Int32 × Int32 × Gs => Wk p l e { frames := 5, cells := 0, slots := 0, locals := 119 } s m args below meth c Γ A fin.1 (some (.int fin.2)) 32 7 [(0, .ref (ad Γ 601)), (1, .ref (ad Γ v1)), (2, .ref (ad Γ v2)), (3, .int st.1), (4, .int st.2.1)] [] st.2.2) (fun x => x = fin)) q) : Wk p l e { frames := 5, cells := 0, slots := 0, locals := 119 } s m args below meth c Γ A fin.1 (some (.int fin.2)) 102 7 [(0, .ref (ad Γ 601)), (1, .ref (ad Γ v1)), (2, .ref (ad Γ v2)), (3, .int v3), (4, .int v4), (5, .int v5)] [] g := by
  intro H locs ls hw hS hl
  unfold bX6_fewestServing_102 at hf
  obtain ⟨hx, hb, hml, hr, hown, htw, hlocks, hE⟩ := id C
  have hown : s.vm.findClass RX6 = some m.cls := hown
  refine lv_aload_n hx hb dX6_fewestServing_102 rfl (lv_at hl 0 rfl) ?_
  refine va_get (ci := 6) (v := .ref (aa Γ 601 1)) (C := RX6) (T := TX6) (N := 2) hx hb htw uwX6 hown hE.1 (hw _ _ (wf_601 hE)) 0 rfl rfl 1 (by decide) (htw _ mw383) (fun _ h9 => h9) rfl dX6_fewestServing_103 ?_
  refine lv_iload hx hb dX6_fewestServing_106 (lv_at hl 4 rfl) ?_
  refine lv_iload hx hb dX6_fewestServing_108 (lv_at hl 5 rfl) ?_
  obtain ⟨g1, hf⟩ := gd_some hf
  obtain ⟨g2, hg2, hf⟩ := bd hf
  have hg2 := Option.some.inj hg2
  refine wo_iastG hx hb hE hw hS (wf_601 hE) (q0 := 2) rfl (inR_in g1) (sa6_1 rfl) hg2 dX6_fewestServing_110 (fun H locs hw hS => ?_)
  refine lv_iload hx hb dX6_fewestServing_111 (lv_at hl 4 rfl) ?_
  obtain ⟨z3, hz3, hf⟩ := bd hf
  refine cl_Ss (rest := []) (kJ6_bitCount_0f7a4 (l := l) (Γ := Γ) (A := A) (G := g2) hz3) ⟨hx, hb, hml, hown, htw⟩ hE hw hS mw870 mw871 mw136 mw872 pdJ6_bitCount_0f7a4 ⟨Nat.le_of_ble_eq_true rfl, Nat.le_of_ble_eq_true rfl⟩ rfl rfl hl.1 (Nat.le_of_ble_eq_true rfl) dX6_fewestServing_113 (fun H locs hw hS => ?_)
  refine lv_istore (lv' := [(6, .int z3), (0, .ref (ad Γ 601)), (1, .ref (ad Γ v1)), (2, .ref (ad Γ v2)), (3, .int v3), (4, .int v4), (5, .int v5)]) hx hb dX6_fewestServing_116 hl (by decide) rfl (fun ls hl => ?_)
  refine lv_iload hx hb dX6_fewestServing_118 (lv_at hl 6 rfl) ?_
  refine lv_if_ne (tgt := 137) hx hb dX6_fewestServing_120 (by decide) (fun c6 => ?_) (fun c6 => ?_)
  · have hf := ifn c6 hf
    exact wX6_fewestServing_137 C hv1 hv2 hf hq H locs ls hw hS (lv_sub hl [1, 2, 3, 4, 5] rfl)
  · have hf := ifp c6 hf
    refine lv_iload_n hx hb dX6_fewestServing_123 rfl (lv_at hl 4 rfl) ?_
    refine lv_iconst (v := (-1)) hx hb dX6_fewestServing_124 (by decide) ?_
    refine lv_icmp_eq (tgt := 134) hx hb dX6_fewestServing_125 (by decide) (fun c5 => ?_) (fun c5 => ?_)
    · have hf := ifp c5 hf
      exact wX6_fewestServing_134 C hv1 hv2 hf hq H locs ls hw hS (lv_sub hl [1, 2, 3, 5, 0] rfl)
    · have hf := ifn c5 hf
      refine lv_iload hx hb dX6_fewestServing_128 (lv_at hl 0 rfl) ?_
      refine lv_iload_n hx hb dX6_fewestServing_130 rfl (lv_at hl 4 rfl) ?_
      refine lv_icmp_ge (tgt := 137) hx hb dX6_fewestServing_131 (by decide) (fun c4 => ?_) (fun c4 => ?_)
      · have hf := ifp c4 hf
        exact wX6_fewestServing_137 C hv1 hv2 hf hq H locs ls hw hS (lv_sub hl [1, 2, 3, 4, 5] rfl)
      · have hf := ifn c4 hf
        exact wX6_fewestServing_134 C hv1 hv2 hf hq H locs ls hw hS (lv_sub hl [1, 2, 3, 5, 0] rfl)

noncomputable def bX6_fewestServing_96 (g : Gs) (v1 : Nat) (v2 : Nat) (v3 : Int32) (v4 : Int32) (v5 : Int32) (v6 : Int32) : Option ((Int32 × Int32) ⊕ ((Int32 × Int32 × Gs) ⊕ (Gs × Int32))) :=
  some (.inl (v5, v6 + 1))
set_option maxRecDepth 100000 in
set_option maxHeartbeats 4000000 in
theorem wX6_fewestServing_96 {p : Program} {l : Launch} {e : Env} {s : State} {m : MethodId} {args : Array Value} {below : List Frame} {meth : Method} {c : Code} {Γ : Gm} {A : Nat → Prop} {g : Gs} {v1 : Nat} {v2 : Nat} {v3 : Int32} {v4 : Int32} {v5 : Int32} {v6 : Int32} {q : ((Int32 × Int32) ⊕ ((Int32 × Int32 × Gs) ⊕ (Gs × Int32)))} {fin : Gs × Int32} (C : Cx p s m args meth c yX6_fewestServing cX6_fewestServing 7 (some .int) Γ A) (hv1 : kd Γ v1 = some 2) (hv2 : kd Γ v2 = some 5) (hf : bX6_fewestServing_96 g v1 v2 v3 v4 v5 v6 = some q) (hq : (KC (fun st : Int32 × Int32 => Wk p l e { frames := 5, cells := 0, slots := 0, locals := 119 } s m args below meth c Γ A fin.1 (some (.int fin.2)) 50 7 [(0, .ref (ad Γ 601)), (1, .ref (ad Γ v1)), (2, .ref (ad Γ v2)), (3, .int v3), (4, .int v4), (5, .int st.1), (6, .int st.2)] [] g) (KC (fun st : Int32 × Int32 × Gs => Wk p l e { frames := 5, cells := 0, slots := 0, locals := 119 } s m args below meth c Γ A fin.1 (some (.int fin.2)) 32 7 [(0, .ref (ad Γ 601)), (1, .ref (ad Γ v1)), (2, .ref (ad Γ v2)), (3, .int st.1), (4, .int st.2.1)] [] st.2.2) (fun x => x = fin))) q) : Wk p l e { frames := 5, cells := 0, slots := 0, locals := 119 } s m args below meth c Γ A fin.1 (some (.int fin.2)) 96 7 [(0, .ref (ad Γ 601)), (1, .ref (ad Γ v1)), (2, .ref (ad Γ v2)), (3, .int v3), (4, .int v4), (5, .int v5), (6, .int v6)] [] g := by
  intro H locs ls hw hS hl
  unfold bX6_fewestServing_96 at hf
  obtain ⟨hx, hb, hml, hr, hown, htw, hlocks, hE⟩ := id C
  have hown : s.vm.findClass RX6 = some m.cls := hown
  refine lv_iinc (v := v6 + 1) (lv' := [(6, .int (v6 + 1)), (0, .ref (ad Γ 601)), (1, .ref (ad Γ v1)), (2, .ref (ad Γ v2)), (3, .int v3), (4, .int v4), (5, .int v5)]) hx hb dX6_fewestServing_96 hl (k := 6) rfl (by rfl) (by decide) rfl (fun ls hl => ?_)
  refine lv_goto (tgt := 50) hx hb dX6_fewestServing_99 (by decide) ?_
  obtain rfl := Option.some.inj hf
  exact hq.1 _ rfl H locs ls hw hS (lv_sub hl [1, 2, 3, 4, 5, 6, 0] rfl)

noncomputable def bX6_fewestServing_50 (g : Gs) (v1 : Nat) (v2 : Nat) (v3 : Int32) (v4 : Int32) (v5 : Int32) (v6 : Int32) : Option ((Int32 × Int32) ⊕ ((Int32 × Int32 × Gs) ⊕ (Gs × Int32))) :=
  if (gi (g v1) 1) ≤ v6 then out1 (bX6_fewestServing_102 g v1 v2 v3 v4 v5) else (fX9_hasBit v4 v6).bind fun z8 => if z8 = 0 then bX6_fewestServing_96 g v1 v2 v3 v4 v5 v6 else (some (v4 &&& (((1 : Int32) <<< (v6 &&& 31)) ^^^ (-1)))).bind fun x9 => gd (inR x9 1024) ((fX6_startServing g v6 (ga (g 601) 1 (Int32.toNatClampNeg x9))).bind fun z11 => (some (mni v5 z11)).bind fun x12 => bX6_fewestServing_96 g v1 v2 v3 v4 x12 v6)
set_option maxRecDepth 100000 in
set_option maxHeartbeats 4000000 in
theorem wX6_fewestServing_50 {p : Program} {l : Launch} {e : Env} {s : State} {m : MethodId} {args : Array Value} {below : List Frame} {meth : Method} {c : Code} {Γ : Gm} {A : Nat → Prop} {g : Gs} {v1 : Nat} {v2 : Nat} {v3 : Int32} {v4 : Int32} {v5 : Int32} {v6 : Int32} {q : ((Int32 × Int32) ⊕ ((Int32 × Int32 × Gs) ⊕ (Gs × Int32)))} {fin : Gs × Int32} (C : Cx p s m args meth c yX6_fewestServing cX6_fewestServing 7 (some .int) Γ A) (hv1 : kd Γ v1 = some 2) (hv2 : kd Γ v2 = some 5) (hf : bX6_fewestServing_50 g v1 v2 v3 v4 v5 v6 = some q) (hq : (KC (fun st : Int32 × Int32 => Wk p l e { frames := 5, cells := 0, slots := 0, locals := 119 } s m args below meth c Γ A fin.1 (some (.int fin.2)) 50 7 [(0, .ref (ad Γ 601)), (1, .ref (ad Γ v1)), (2, .ref (ad Γ v2)), (3, .int v3), (4, .int v4), (5, .int st.1), (6, .int st.2)] [] g) (KC (fun st : Int32 × Int32 × Gs => Wk p l e { frames := 5, cells := 0, slots := 0, locals := 119 } s m args below meth c Γ A fin.1 (some (.int fin.2)) 32 7 [(0, .ref (ad Γ 601)), (1, .ref (ad Γ v1)), (2, .ref (ad Γ v2)), (3, .int st.1), (4, .int st.2.1)] [] st.2.2) (fun x => x = fin))) q) : Wk p l e { frames := 5, cells := 0, slots := 0, locals := 119 } s m args below meth c Γ A fin.1 (some (.int fin.2)) 50 7 [(0, .ref (ad Γ 601)), (1, .ref (ad Γ v1)), (2, .ref (ad Γ v2)), (3, .int v3), (4, .int v4), (5, .int v5), (6, .int v6)] [] g := by
  intro H locs ls hw hS hl
  unfold bX6_fewestServing_50 at hf
  obtain ⟨hx, hb, hml, hr, hown, htw, hlocks, hE⟩ := id C
  have hown : s.vm.findClass RX6 = some m.cls := hown
  refine lv_iload hx hb dX6_fewestServing_50 (lv_at hl 6 rfl) ?_
  refine lv_aload_n hx hb dX6_fewestServing_52 rfl (lv_at hl 1 rfl) ?_
  refine va_get (ci := 2) (v := .int (gi (g v1) 1)) (C := RX2) (T := TX2) (N := 11) hx hb htw uwX2 hown hE.1 (hw _ _ hv1) 0 rfl rfl 1 (by decide) (htw _ mw166) (fun _ h9 => h9) rfl dX6_fewestServing_53 ?_
  refine lv_icmp_ge (tgt := 102) hx hb dX6_fewestServing_56 (by decide) (fun c14 => ?_) (fun c14 => ?_)
  · have hf := ifp c14 hf
    obtain ⟨q7, hfq7, eq7⟩ := out1_some hf
    subst eq7
    have hf := hfq7
    have hq := hq.2 _ rfl
    exact wX6_fewestServing_102 C hv1 hv2 hf hq H locs ls hw hS (lv_sub hl [0, 1, 2, 3, 4, 5] rfl)
  · have hf := ifn c14 hf
    refine lv_iload hx hb dX6_fewestServing_59 (lv_at hl 4 rfl) ?_
    refine lv_iload hx hb dX6_fewestServing_61 (lv_at hl 6 rfl) ?_
    obtain ⟨z8, hz8, hf⟩ := bd hf
    refine cl_SN (rest := []) (kX9_hasBit (l := l) (Γ := Γ) (A := A) (G := g) hz8) ⟨hx, hb, hml, hown, htw⟩ hE hw hS (nw12 hE.2.2.1) mw717 mw118 mw718 pdX9_hasBit ⟨Nat.le_of_ble_eq_true rfl, Nat.le_of_ble_eq_true rfl⟩ rfl rfl hl.1 (Nat.le_of_ble_eq_true rfl) dX6_fewestServing_63 (fun H locs hw hS => ?_)
    refine lv_if_eq (tgt := 96) hx hb dX6_fewestServing_66 (by decide) (fun c13 => ?_) (fun c13 => ?_)
    · have hf := ifp c13 hf
      exact wX6_fewestServing_96 C hv1 hv2 hf hq H locs ls hw hS hl
    · have hf := ifn c13 hf
      refine lv_iload hx hb dX6_fewestServing_69 (lv_at hl 5 rfl) ?_
      refine lv_aload_n hx hb dX6_fewestServing_71 rfl (lv_at hl 0 rfl) ?_
      refine lv_iload hx hb dX6_fewestServing_72 (lv_at hl 6 rfl) ?_
      refine lv_aload_n hx hb dX6_fewestServing_74 rfl (lv_at hl 0 rfl) ?_
      refine va_get (ci := 6) (v := .ref (aa Γ 601 1)) (C := RX6) (T := TX6) (N := 2) hx hb htw uwX6 hown hE.1 (hw _ _ (wf_601 hE)) 0 rfl rfl 1 (by decide) (htw _ mw383) (fun _ h9 => h9) rfl dX6_fewestServing_75 ?_
      refine lv_iload hx hb dX6_fewestServing_78 (lv_at hl 4 rfl) ?_
      refine lv_iconst (v := 1) hx hb dX6_fewestServing_80 (by decide) ?_
      refine lv_iload hx hb dX6_fewestServing_81 (lv_at hl 6 rfl) ?_
      refine lv_ishl hx hb dX6_fewestServing_83 ?_
      refine lv_iconst (v := (-1)) hx hb dX6_fewestServing_84 (by decide) ?_
      refine lv_ixor hx hb dX6_fewestServing_85 ?_
      refine lv_iand hx hb dX6_fewestServing_86 ?_
      obtain ⟨x9, hx9, hf⟩ := bd hf
      have hx9 := Option.some.inj hx9
      refine tp1i hx9 ?_
      obtain ⟨g10, hf⟩ := gd_some hf
      refine va_iald hx hb hE.1 (hw _ _ (wf_601 hE)) 2 0 rfl rfl (inR_in g10) dX6_fewestServing_87 ?_
      obtain ⟨z11, hz11, hf⟩ := bd hf
      refine cl_Vs (rest := [.int v5]) (kX6_startServing (l := l) (Γ := Γ) (A := A) hz11) ⟨hx, hb, hml, hown, htw⟩ hE hw hS (hw _ _ (wf_601 hE)) (q0 := 0) rfl rfl mw865 mw867 mw33 mw125 mw868 pdX6_startServing ⟨Nat.le_of_ble_eq_true rfl, Nat.le_of_ble_eq_true rfl⟩ rfl rfl hl.1 (Nat.le_of_ble_eq_true rfl) dX6_fewestServing_88 (fun H locs hw hS => ?_)
      refine va_mmin hx hb (hml.trans hl.1.symm) hown (htw _ mw869) (htw _ mw222) (htw _ mw122) (htw _ mw223) (Nat.le_of_ble_eq_true rfl) (Nat.le_of_ble_eq_true rfl) (Nat.le_refl _) (Nat.le_refl _) dX6_fewestServing_91 ?_
      obtain ⟨x12, hx12, hf⟩ := bd hf
      have hx12 := Option.some.inj hx12
      refine tp1i hx12 ?_
      refine lv_istore (lv' := [(5, .int x12), (0, .ref (ad Γ 601)), (1, .ref (ad Γ v1)), (2, .ref (ad Γ v2)), (3, .int v3), (4, .int v4), (6, .int v6)]) hx hb dX6_fewestServing_94 hl (by decide) rfl (fun ls hl => ?_)
      exact wX6_fewestServing_96 C hv1 hv2 hf hq H locs ls hw hS (lv_sub hl [1, 2, 3, 4, 5, 0, 6] rfl)

set_option maxRecDepth 100000 in
set_option maxHeartbeats 4000000 in
theorem lwX6_fewestServing_50 {p : Program} {l : Launch} {e : Env} {s : State} {m : MethodId} {args : Array Value} {below : List Frame} {meth : Method} {c : Code} {Γ : Gm} {A : Nat → Prop} {g : Gs} {v1 : Nat} {v2 : Nat} {v3 : Int32} {v4 : Int32} {v5 : Int32} {v6 : Int32} {q : ((Int32 × Int32 × Gs) ⊕ (Gs × Int32))} {fin : Gs × Int32} (C : Cx p s m args meth c yX6_fewestServing cX6_fewestServing 7 (some .int) Γ A) (hv1 : kd Γ v1 = some 2) (hv2 : kd Γ v2 = some 5) (hf : iter (fun st : Int32 × Int32 => bX6_fewestServing_50 g v1 v2 v3 v4 st.1 st.2) (v5, v6) = some q) (hq : (KC (fun st : Int32 × Int32 × Gs => Wk p l e { frames := 5, cells := 0, slots := 0, locals := 119 } s m args below meth c Γ A fin.1 (some (.int fin.2)) 32 7 [(0, .ref (ad Γ 601)), (1, .ref (ad Γ v1)), (2, .ref (ad Γ v2)), (3, .int st.1), (4, .int st.2.1)] [] st.2.2) (fun x => x = fin)) q) : Wk p l e { frames := 5, cells := 0, slots := 0, locals := 119 } s m args below meth c Γ A fin.1 (some (.int fin.2)) 50 7 [(0, .ref (ad Γ 601)), (1, .ref (ad Γ v1)), (2, .ref (ad Γ v2)), (3, .int v3), (4, .int v4), (5, .int v5), (6, .int v6)] [] g := by
  intro H locs ls hw hS hl
  refine iter_walk (P := (fun st : Int32 × Int32 => Wk p l e { frames := 5, cells := 0, slots := 0, locals := 119 } s m args below meth c Γ A fin.1 (some (.int fin.2)) 50 7 [(0, .ref (ad Γ 601)), (1, .ref (ad Γ v1)), (2, .ref (ad Γ v2)), (3, .int v3), (4, .int v4), (5, .int st.1), (6, .int st.2)] [] g)) (K := (KC (fun st : Int32 × Int32 × Gs => Wk p l e { frames := 5, cells := 0, slots := 0, locals := 119 } s m args below meth c Γ A fin.1 (some (.int fin.2)) 32 7 [(0, .ref (ad Γ 601)), (1, .ref (ad Γ v1)), (2, .ref (ad Γ v2)), (3, .int st.1), (4, .int st.2.1)] [] st.2.2) (fun x => x = fin))) (fun st q hq1 h1 h2 => ?_) hf hq H locs ls hw hS hl
  exact wX6_fewestServing_50 (v5 := st.1) (v6 := st.2) C hv1 hv2 hq1 ⟨h1, h2⟩

noncomputable def bX6_fewestServing_32 (g : Gs) (v1 : Nat) (v2 : Nat) (v3 : Int32) (v4 : Int32) : Option ((Int32 × Int32 × Gs) ⊕ (Gs × Int32)) :=
  (fX2_secretSets (g v1)).bind fun z15 => if z15 ≤ v4 then some (.inr ((g, v3))) else iter (fun st : Int32 × Int32 => bX6_fewestServing_50 g v1 v2 v3 v4 st.1 st.2) (gi (g v2) 2, 0)
set_option maxRecDepth 100000 in
set_option maxHeartbeats 4000000 in
theorem wX6_fewestServing_32 {p : Program} {l : Launch} {e : Env} {s : State} {m : MethodId} {args : Array Value} {below : List Frame} {meth : Method} {c : Code} {Γ : Gm} {A : Nat → Prop} {g : Gs} {v1 : Nat} {v2 : Nat} {v3 : Int32} {v4 : Int32} {q : ((Int32 × Int32 × Gs) ⊕ (Gs × Int32))} {fin : Gs × Int32} (C : Cx p s m args meth c yX6_fewestServing cX6_fewestServing 7 (some .int) Γ A) (hv1 : kd Γ v1 = some 2) (hv2 : kd Γ v2 = some 5) (hf : bX6_fewestServing_32 g v1 v2 v3 v4 = some q) (hq : (KC (fun st : Int32 × Int32 × Gs => Wk p l e { frames := 5, cells := 0, slots := 0, locals := 119 } s m args below meth c Γ A fin.1 (some (.int fin.2)) 32 7 [(0, .ref (ad Γ 601)), (1, .ref (ad Γ v1)), (2, .ref (ad Γ v2)), (3, .int st.1), (4, .int st.2.1)] [] st.2.2) (fun x => x = fin)) q) : Wk p l e { frames := 5, cells := 0, slots := 0, locals := 119 } s m args below meth c Γ A fin.1 (some (.int fin.2)) 32 7 [(0, .ref (ad Γ 601)), (1, .ref (ad Γ v1)), (2, .ref (ad Γ v2)), (3, .int v3), (4, .int v4)] [] g := by
  intro H locs ls hw hS hl
  unfold bX6_fewestServing_32 at hf
  obtain ⟨hx, hb, hml, hr, hown, htw, hlocks, hE⟩ := id C
  have hown : s.vm.findClass RX6 = some m.cls := hown
  refine lv_iload hx hb dX6_fewestServing_32 (lv_at hl 4 rfl) ?_
  refine lv_aload_n hx hb dX6_fewestServing_34 rfl (lv_at hl 1 rfl) ?_
  obtain ⟨z15, hz15, hf⟩ := bd hf
  refine cl_Vs (rest := [.int v4]) (kgX2_secretSets (l := l) (Γ := Γ) (A := A) (G := g) (o := v1) hv1 hz15) ⟨hx, hb, hml, hown, htw⟩ hE hw hS (hw _ _ hv1) (q0 := 0) rfl rfl mw850 mw851 mw852 mw120 mw853 pdX2_secretSets ⟨Nat.le_of_ble_eq_true rfl, Nat.le_of_ble_eq_true rfl⟩ rfl rfl hl.1 (Nat.le_of_ble_eq_true rfl) dX6_fewestServing_35 (fun H locs hw hS => ?_)
  refine lv_icmp_ge (tgt := 143) hx hb dX6_fewestServing_38 (by decide) (fun c16 => ?_) (fun c16 => ?_)
  · have hf := ifp c16 hf
    refine lv_iload_n hx hb dX6_fewestServing_143 rfl (lv_at hl 3 rfl) ?_
    obtain rfl := Option.some.inj hf
    have hq := hq.2 _ rfl
    subst hq
    exact rt_i C hw hS dX6_fewestServing_144
  · have hf := ifn c16 hf
    refine lv_aload_n hx hb dX6_fewestServing_41 rfl (lv_at hl 2 rfl) ?_
    refine va_get (ci := 5) (v := .int (gi (g v2) 2)) (C := RX5) (T := TX5) (N := 3) hx hb htw uwX5 hown hE.1 (hw _ _ hv2) 0 rfl rfl 2 (by decide) (htw _ mw230) (fun _ h9 => h9) rfl dX6_fewestServing_42 ?_
    refine lv_istore (lv' := [(5, .int (gi (g v2) 2)), (0, .ref (ad Γ 601)), (1, .ref (ad Γ v1)), (2, .ref (ad Γ v2)), (3, .int v3), (4, .int v4)]) hx hb dX6_fewestServing_45 hl (by decide) rfl (fun ls hl => ?_)
    refine lv_iconst (v := 0) hx hb dX6_fewestServing_47 (by decide) ?_
    refine lv_istore (lv' := [(6, .int 0), (5, .int (gi (g v2) 2)), (0, .ref (ad Γ 601)), (1, .ref (ad Γ v1)), (2, .ref (ad Γ v2)), (3, .int v3), (4, .int v4)]) hx hb dX6_fewestServing_48 hl (by decide) rfl (fun ls hl => ?_)
    exact lwX6_fewestServing_50 C hv1 hv2 hf hq H locs ls hw hS (lv_sub hl [2, 3, 4, 5, 6, 1, 0] rfl)

set_option maxRecDepth 100000 in
set_option maxHeartbeats 4000000 in
theorem lwX6_fewestServing_32 {p : Program} {l : Launch} {e : Env} {s : State} {m : MethodId} {args : Array Value} {below : List Frame} {meth : Method} {c : Code} {Γ : Gm} {A : Nat → Prop} {g : Gs} {v1 : Nat} {v2 : Nat} {v3 : Int32} {v4 : Int32} {q : (Gs × Int32)} {fin : Gs × Int32} (C : Cx p s m args meth c yX6_fewestServing cX6_fewestServing 7 (some .int) Γ A) (hv1 : kd Γ v1 = some 2) (hv2 : kd Γ v2 = some 5) (hf : iter (fun st : Int32 × Int32 × Gs => bX6_fewestServing_32 st.2.2 v1 v2 st.1 st.2.1) (v3, v4, g) = some q) (hq : (fun x => x = fin) q) : Wk p l e { frames := 5, cells := 0, slots := 0, locals := 119 } s m args below meth c Γ A fin.1 (some (.int fin.2)) 32 7 [(0, .ref (ad Γ 601)), (1, .ref (ad Γ v1)), (2, .ref (ad Γ v2)), (3, .int v3), (4, .int v4)] [] g := by
  intro H locs ls hw hS hl
  refine iter_walk (P := (fun st : Int32 × Int32 × Gs => Wk p l e { frames := 5, cells := 0, slots := 0, locals := 119 } s m args below meth c Γ A fin.1 (some (.int fin.2)) 32 7 [(0, .ref (ad Γ 601)), (1, .ref (ad Γ v1)), (2, .ref (ad Γ v2)), (3, .int st.1), (4, .int st.2.1)] [] st.2.2)) (K := (fun x => x = fin)) (fun st q hq1 h1 h2 => ?_) hf hq H locs ls hw hS hl
  exact wX6_fewestServing_32 (g := st.2.2) (v3 := st.1) (v4 := st.2.1) C hv1 hv2 hq1 ⟨h1, h2⟩

noncomputable def bX6_fewestServing_18 (g : Gs) (v1 : Nat) (v2 : Nat) (s0 : Int32) : Option (Gs × Int32) :=
  (some (ug g 601 (sa (g 601) 1 (upd (ga (g 601) 1) (Int32.toNatClampNeg 0) (gi (g v2) 2))))).bind fun g17 => iter (fun st : Int32 × Int32 × Gs => bX6_fewestServing_32 st.2.2 v1 v2 st.1 st.2.1) (s0, 1, g17)
set_option maxRecDepth 100000 in
set_option maxHeartbeats 4000000 in
theorem wX6_fewestServing_18 {p : Program} {l : Launch} {e : Env} {s : State} {m : MethodId} {args : Array Value} {below : List Frame} {meth : Method} {c : Code} {Γ : Gm} {A : Nat → Prop} {g : Gs} {v1 : Nat} {v2 : Nat} {s0 : Int32} {q : (Gs × Int32)} {fin : Gs × Int32} (C : Cx p s m args meth c yX6_fewestServing cX6_fewestServing 7 (some .int) Γ A) (hv1 : kd Γ v1 = some 2) (hv2 : kd Γ v2 = some 5) (hf : bX6_fewestServing_18 g v1 v2 s0 = some q) (hq : (fun x => x = fin) q) : Wk p l e { frames := 5, cells := 0, slots := 0, locals := 119 } s m args below meth c Γ A fin.1 (some (.int fin.2)) 18 7 [(0, .ref (ad Γ 601)), (1, .ref (ad Γ v1)), (2, .ref (ad Γ v2))] [.int s0] g := by
  intro H locs ls hw hS hl
  unfold bX6_fewestServing_18 at hf
  obtain ⟨hx, hb, hml, hr, hown, htw, hlocks, hE⟩ := id C
  have hown : s.vm.findClass RX6 = some m.cls := hown
  refine lv_istore_n (lv' := [(3, .int s0), (0, .ref (ad Γ 601)), (1, .ref (ad Γ v1)), (2, .ref (ad Γ v2))]) hx hb dX6_fewestServing_18 rfl hl (by decide) rfl (fun ls hl => ?_)
  refine lv_aload_n hx hb dX6_fewestServing_19 rfl (lv_at hl 1 rfl) ?_
  refine va_get (ci := 6) (v := .ref (aa Γ 601 1)) (C := RX6) (T := TX6) (N := 2) hx hb htw uwX6 hown hE.1 (hw _ _ (wf_601 hE)) 0 rfl rfl 1 (by decide) (htw _ mw383) (fun _ h9 => h9) rfl dX6_fewestServing_20 ?_
  refine lv_iconst (v := 0) hx hb dX6_fewestServing_23 (by decide) ?_
  refine lv_aload_n hx hb dX6_fewestServing_24 rfl (lv_at hl 3 rfl) ?_
  refine va_get (ci := 5) (v := .int (gi (g v2) 2)) (C := RX5) (T := TX5) (N := 3) hx hb htw uwX5 hown hE.1 (hw _ _ hv2) 0 rfl rfl 2 (by decide) (htw _ mw230) (fun _ h9 => h9) rfl dX6_fewestServing_25 ?_
  obtain ⟨g17, hg17, hf⟩ := bd hf
  have hg17 := Option.some.inj hg17
  refine wo_iastG hx hb hE hw hS (wf_601 hE) (q0 := 2) rfl (inR_in (i := 0) (n := 1024) (by decide)) (sa6_1 rfl) hg17 dX6_fewestServing_28 (fun H locs hw hS => ?_)
  refine lv_iconst (v := 1) hx hb dX6_fewestServing_29 (by decide) ?_
  refine lv_istore (lv' := [(4, .int 1), (3, .int s0), (0, .ref (ad Γ 601)), (1, .ref (ad Γ v1)), (2, .ref (ad Γ v2))]) hx hb dX6_fewestServing_30 hl (by decide) rfl (fun ls hl => ?_)
  exact lwX6_fewestServing_32 C hv1 hv2 hf hq H locs ls hw hS (lv_sub hl [2, 3, 4, 1, 0] rfl)

noncomputable def fX6_fewestServing (g : Gs) (v1 : Nat) (v2 : Nat) : Option (Gs × Int32) :=
  (fX6_measure g v1 v2).bind fun z18 => if (gi (z18 v2) 2) = 0 then bX6_fewestServing_18 z18 v1 v2 0 else bX6_fewestServing_18 z18 v1 v2 (-1)
set_option maxRecDepth 100000 in
set_option maxHeartbeats 4000000 in
theorem wX6_fewestServing_e {p : Program} {l : Launch} {e : Env} {s : State} {m : MethodId} {args : Array Value} {below : List Frame} {meth : Method} {c : Code} {Γ : Gm} {A : Nat → Prop} {g : Gs} {v1 : Nat} {v2 : Nat} {q : (Gs × Int32)} {fin : Gs × Int32} (C : Cx p s m args meth c yX6_fewestServing cX6_fewestServing 7 (some .int) Γ A) (hv1 : kd Γ v1 = some 2) (hv2 : kd Γ v2 = some 5) (hf : fX6_fewestServing g v1 v2 = some q) (hq : (fun x => x = fin) q) : Wk p l e { frames := 5, cells := 0, slots := 0, locals := 119 } s m args below meth c Γ A fin.1 (some (.int fin.2)) 0 7 [(0, .ref (ad Γ 601)), (1, .ref (ad Γ v1)), (2, .ref (ad Γ v2))] [] g := by
  intro H locs ls hw hS hl
  unfold fX6_fewestServing at hf
  obtain ⟨hx, hb, hml, hr, hown, htw, hlocks, hE⟩ := id C
  have hown : s.vm.findClass RX6 = some m.cls := hown
  refine lv_aload_n hx hb dX6_fewestServing_0 rfl (lv_at hl 0 rfl) ?_
  refine lv_aload_n hx hb dX6_fewestServing_1 rfl (lv_at hl 1 rfl) ?_
  refine lv_aload_n hx hb dX6_fewestServing_2 rfl (lv_at hl 2 rfl) ?_
  obtain ⟨z18, hz18, hf⟩ := bd hf
  refine cl_Vv (rest := []) (kX6_measure (l := l) (Γ := Γ) (A := A) hv1 hv2 hz18) ⟨hx, hb, hml, hown, htw⟩ hE hw hS (hw _ _ (wf_601 hE)) (q0 := 0) rfl rfl mw840 mw842 mw32 mw125 mw843 pdX6_measure ⟨Nat.le_of_ble_eq_true rfl, Nat.le_of_ble_eq_true rfl⟩ rfl rfl hl.1 (Nat.le_of_ble_eq_true rfl) dX6_fewestServing_3 (fun H locs hw hS => ?_)
  refine lv_aload_n hx hb dX6_fewestServing_6 rfl (lv_at hl 2 rfl) ?_
  refine va_get (ci := 5) (v := .int (gi (z18 v2) 2)) (C := RX5) (T := TX5) (N := 3) hx hb htw uwX5 hown hE.1 (hw _ _ hv2) 0 rfl rfl 2 (by decide) (htw _ mw230) (fun _ h9 => h9) rfl dX6_fewestServing_7 ?_
  refine lv_if_ne (tgt := 17) hx hb dX6_fewestServing_10 (by decide) (fun c19 => ?_) (fun c19 => ?_)
  · have hf := ifn c19 hf
    refine lv_iconst (v := (-1)) hx hb dX6_fewestServing_17 (by decide) ?_
    exact wX6_fewestServing_18 C hv1 hv2 hf hq H locs ls hw hS hl
  · have hf := ifp c19 hf
    refine lv_iconst (v := 0) hx hb dX6_fewestServing_13 (by decide) ?_
    refine lv_goto (tgt := 18) hx hb dX6_fewestServing_14 (by decide) ?_
    exact wX6_fewestServing_18 C hv1 hv2 hf hq H locs ls hw hS hl

theorem kX6_fewestServing {l : Launch} {Γ : Gm} {A : Nat → Prop} {g : Gs} {v1 : Nat} {v2 : Nat} {fin : Gs × Int32} (hv1 : kd Γ v1 = some 2) (hv2 : kd Γ v2 = some 5) (hf : fX6_fewestServing g v1 v2 = some fin) : Kt l yX6_fewestServing cX6_fewestServing 7 (some .int) 5 119 Γ A g fin.1 [.ref (ad Γ 601), .ref (ad Γ v1), .ref (ad Γ v2)] (some (.int fin.2)) :=
  kt_of (by decide) (Nat.le_of_ble_eq_true rfl) (fun p e s m args below meth c C => wX6_fewestServing_e C hv1 hv2 hf rfl)
noncomputable def bX6_startOfRest_56 (g : Gs) (v1 : Int32) (v2 : Int32) (v3 : Int32) (v4 : Int32) (v5 : Int32) : Option ((Int32 × Int32) ⊕ Int32) :=
  some (.inl (v4, v5 + 1))
set_option maxRecDepth 100000 in
set_option maxHeartbeats 4000000 in
theorem wX6_startOfRest_56 {p : Program} {l : Launch} {e : Env} {s : State} {m : MethodId} {args : Array Value} {below : List Frame} {meth : Method} {c : Code} {Γ : Gm} {A : Nat → Prop} {g : Gs} {v1 : Int32} {v2 : Int32} {v3 : Int32} {v4 : Int32} {v5 : Int32} {q : ((Int32 × Int32) ⊕ Int32)} {fin : Int32} (C : Cx p s m args meth c yX6_startOfRest cX6_startOfRest 6 (some .int) Γ A) (hf : bX6_startOfRest_56 g v1 v2 v3 v4 v5 = some q) (hq : (KC (fun st : Int32 × Int32 => Wk p l e { frames := 1, cells := 0, slots := 0, locals := 20 } s m args below meth c Γ A g (some (.int fin)) 11 6 [(0, .ref (ad Γ 601)), (1, .int v1), (2, .int v2), (3, .int v3), (4, .int st.1), (5, .int st.2)] [] g) (fun x => x = fin)) q) : Wk p l e { frames := 1, cells := 0, slots := 0, locals := 20 } s m args below meth c Γ A g (some (.int fin)) 56 6 [(0, .ref (ad Γ 601)), (1, .int v1), (2, .int v2), (3, .int v3), (4, .int v4), (5, .int v5)] [] g := by
  intro H locs ls hw hS hl
  unfold bX6_startOfRest_56 at hf
  obtain ⟨hx, hb, hml, hr, hown, htw, hlocks, hE⟩ := id C
  have hown : s.vm.findClass RX6 = some m.cls := hown
  refine lv_iinc (v := v5 + 1) (lv' := [(5, .int (v5 + 1)), (0, .ref (ad Γ 601)), (1, .int v1), (2, .int v2), (3, .int v3), (4, .int v4)]) hx hb dX6_startOfRest_56 hl (k := 5) rfl (by rfl) (by decide) rfl (fun ls hl => ?_)
  refine lv_goto (tgt := 11) hx hb dX6_startOfRest_59 (by decide) ?_
  obtain rfl := Option.some.inj hf
  exact hq.1 _ rfl H locs ls hw hS (lv_sub hl [1, 2, 3, 4, 5, 0] rfl)

noncomputable def bX6_startOfRest_11 (g : Gs) (v1 : Int32) (v2 : Int32) (v3 : Int32) (v4 : Int32) (v5 : Int32) : Option ((Int32 × Int32) ⊕ Int32) :=
  if v3 ≤ v5 then some (.inr (v4)) else if (v5 &&& (v1 ^^^ (-1))) = 0 then gd (inR v5 1024) (if v4 ≤ (ga (g 601) 1 (Int32.toNatClampNeg v5)) then bX6_startOfRest_56 g v1 v2 v3 v4 v5 else (fJ6_bitCount_0f7a4 v5).bind fun z2 => if v2 < z2 then bX6_startOfRest_56 g v1 v2 v3 v4 v5 else gd (inR v5 1024) ((some (ga (g 601) 1 (Int32.toNatClampNeg v5))).bind fun x4 => bX6_startOfRest_56 g v1 v2 v3 x4 v5)) else bX6_startOfRest_56 g v1 v2 v3 v4 v5
set_option maxRecDepth 100000 in
set_option maxHeartbeats 4000000 in
theorem wX6_startOfRest_11 {p : Program} {l : Launch} {e : Env} {s : State} {m : MethodId} {args : Array Value} {below : List Frame} {meth : Method} {c : Code} {Γ : Gm} {A : Nat → Prop} {g : Gs} {v1 : Int32} {v2 : Int32} {v3 : Int32} {v4 : Int32} {v5 : Int32} {q : ((Int32 × Int32) ⊕ Int32)} {fin : Int32} (C : Cx p s m args meth c yX6_startOfRest cX6_startOfRest 6 (some .int) Γ A) (hf : bX6_startOfRest_11 g v1 v2 v3 v4 v5 = some q) (hq : (KC (fun st : Int32 × Int32 => Wk p l e { frames := 1, cells := 0, slots := 0, locals := 20 } s m args below meth c Γ A g (some (.int fin)) 11 6 [(0, .ref (ad Γ 601)), (1, .int v1), (2, .int v2), (3, .int v3), (4, .int st.1), (5, .int st.2)] [] g) (fun x => x = fin)) q) : Wk p l e { frames := 1, cells := 0, slots := 0, locals := 20 } s m args below meth c Γ A g (some (.int fin)) 11 6 [(0, .ref (ad Γ 601)), (1, .int v1), (2, .int v2), (3, .int v3), (4, .int v4), (5, .int v5)] [] g := by
  intro H locs ls hw hS hl
  unfold bX6_startOfRest_11 at hf
  obtain ⟨hx, hb, hml, hr, hown, htw, hlocks, hE⟩ := id C
  have hown : s.vm.findClass RX6 = some m.cls := hown
  refine lv_iload hx hb dX6_startOfRest_11 (lv_at hl 5 rfl) ?_
  refine lv_iload_n hx hb dX6_startOfRest_13 rfl (lv_at hl 3 rfl) ?_
  refine lv_icmp_ge (tgt := 62) hx hb dX6_startOfRest_14 (by decide) (fun c8 => ?_) (fun c8 => ?_)
  · have hf := ifp c8 hf
    refine lv_iload hx hb dX6_startOfRest_62 (lv_at hl 4 rfl) ?_
    obtain rfl := Option.some.inj hf
    have hq := hq.2 _ rfl
    subst hq
    exact rt_i C hw hS dX6_startOfRest_64
  · have hf := ifn c8 hf
    refine lv_iload hx hb dX6_startOfRest_17 (lv_at hl 5 rfl) ?_
    refine lv_iload_n hx hb dX6_startOfRest_19 rfl (lv_at hl 1 rfl) ?_
    refine lv_iconst (v := (-1)) hx hb dX6_startOfRest_20 (by decide) ?_
    refine lv_ixor hx hb dX6_startOfRest_21 ?_
    refine lv_iand hx hb dX6_startOfRest_22 ?_
    refine lv_if_ne (tgt := 56) hx hb dX6_startOfRest_23 (by decide) (fun c7 => ?_) (fun c7 => ?_)
    · have hf := ifn c7 hf
      exact wX6_startOfRest_56 C hf hq H locs ls hw hS hl
    · have hf := ifp c7 hf
      refine lv_aload_n hx hb dX6_startOfRest_26 rfl (lv_at hl 0 rfl) ?_
      refine va_get (ci := 6) (v := .ref (aa Γ 601 1)) (C := RX6) (T := TX6) (N := 2) hx hb htw uwX6 hown hE.1 (hw _ _ (wf_601 hE)) 0 rfl rfl 1 (by decide) (htw _ mw383) (fun _ h9 => h9) rfl dX6_startOfRest_27 ?_
      refine lv_iload hx hb dX6_startOfRest_30 (lv_at hl 5 rfl) ?_
      obtain ⟨g1, hf⟩ := gd_some hf
      refine va_iald hx hb hE.1 (hw _ _ (wf_601 hE)) 2 0 rfl rfl (inR_in g1) dX6_startOfRest_32 ?_
      refine lv_iload hx hb dX6_startOfRest_33 (lv_at hl 4 rfl) ?_
      refine lv_icmp_ge (tgt := 56) hx hb dX6_startOfRest_35 (by decide) (fun c6 => ?_) (fun c6 => ?_)
      · have hf := ifp c6 hf
        exact wX6_startOfRest_56 C hf hq H locs ls hw hS hl
      · have hf := ifn c6 hf
        refine lv_iload hx hb dX6_startOfRest_38 (lv_at hl 5 rfl) ?_
        obtain ⟨z2, hz2, hf⟩ := bd hf
        refine cl_Ss (rest := []) (kJ6_bitCount_0f7a4 (l := l) (Γ := Γ) (A := A) (G := g) hz2) ⟨hx, hb, hml, hown, htw⟩ hE hw hS mw870 mw871 mw136 mw872 pdJ6_bitCount_0f7a4 ⟨Nat.le_of_ble_eq_true rfl, Nat.le_of_ble_eq_true rfl⟩ rfl rfl hl.1 (Nat.le_of_ble_eq_true rfl) dX6_startOfRest_40 (fun H locs hw hS => ?_)
        refine lv_iload_n hx hb dX6_startOfRest_43 rfl (lv_at hl 2 rfl) ?_
        refine lv_icmp_gt (tgt := 56) hx hb dX6_startOfRest_44 (by decide) (fun c5 => ?_) (fun c5 => ?_)
        · have hf := ifp c5 hf
          exact wX6_startOfRest_56 C hf hq H locs ls hw hS hl
        · have hf := ifn c5 hf
          refine lv_aload_n hx hb dX6_startOfRest_47 rfl (lv_at hl 0 rfl) ?_
          refine va_get (ci := 6) (v := .ref (aa Γ 601 1)) (C := RX6) (T := TX6) (N := 2) hx hb htw uwX6 hown hE.1 (hw _ _ (wf_601 hE)) 0 rfl rfl 1 (by decide) (htw _ mw383) (fun _ h9 => h9) rfl dX6_startOfRest_48 ?_
          refine lv_iload hx hb dX6_startOfRest_51 (lv_at hl 5 rfl) ?_
          obtain ⟨g3, hf⟩ := gd_some hf
          refine va_iald hx hb hE.1 (hw _ _ (wf_601 hE)) 2 0 rfl rfl (inR_in g3) dX6_startOfRest_53 ?_
          obtain ⟨x4, hx4, hf⟩ := bd hf
          have hx4 := Option.some.inj hx4
          refine tp1i hx4 ?_
          refine lv_istore (lv' := [(4, .int x4), (0, .ref (ad Γ 601)), (1, .int v1), (2, .int v2), (3, .int v3), (5, .int v5)]) hx hb dX6_startOfRest_54 hl (by decide) rfl (fun ls hl => ?_)
          exact wX6_startOfRest_56 C hf hq H locs ls hw hS (lv_sub hl [1, 2, 3, 4, 0, 5] rfl)

set_option maxRecDepth 100000 in
set_option maxHeartbeats 4000000 in
theorem lwX6_startOfRest_11 {p : Program} {l : Launch} {e : Env} {s : State} {m : MethodId} {args : Array Value} {below : List Frame} {meth : Method} {c : Code} {Γ : Gm} {A : Nat → Prop} {g : Gs} {v1 : Int32} {v2 : Int32} {v3 : Int32} {v4 : Int32} {v5 : Int32} {q : Int32} {fin : Int32} (C : Cx p s m args meth c yX6_startOfRest cX6_startOfRest 6 (some .int) Γ A) (hf : iter (fun st : Int32 × Int32 => bX6_startOfRest_11 g v1 v2 v3 st.1 st.2) (v4, v5) = some q) (hq : (fun x => x = fin) q) : Wk p l e { frames := 1, cells := 0, slots := 0, locals := 20 } s m args below meth c Γ A g (some (.int fin)) 11 6 [(0, .ref (ad Γ 601)), (1, .int v1), (2, .int v2), (3, .int v3), (4, .int v4), (5, .int v5)] [] g := by
  intro H locs ls hw hS hl
  refine iter_walk (P := (fun st : Int32 × Int32 => Wk p l e { frames := 1, cells := 0, slots := 0, locals := 20 } s m args below meth c Γ A g (some (.int fin)) 11 6 [(0, .ref (ad Γ 601)), (1, .int v1), (2, .int v2), (3, .int v3), (4, .int st.1), (5, .int st.2)] [] g)) (K := (fun x => x = fin)) (fun st q hq1 h1 h2 => ?_) hf hq H locs ls hw hS hl
  exact wX6_startOfRest_11 (v4 := st.1) (v5 := st.2) C hq1 ⟨h1, h2⟩

noncomputable def fX6_startOfRest (g : Gs) (v1 : Int32) (v2 : Int32) (v3 : Int32) : Option Int32 :=
  (some (ga (g 601) 1 (Int32.toNatClampNeg 0))).bind fun x9 => iter (fun st : Int32 × Int32 => bX6_startOfRest_11 g v1 v2 v3 st.1 st.2) (x9, 1)
set_option maxRecDepth 100000 in
set_option maxHeartbeats 4000000 in
theorem wX6_startOfRest_e {p : Program} {l : Launch} {e : Env} {s : State} {m : MethodId} {args : Array Value} {below : List Frame} {meth : Method} {c : Code} {Γ : Gm} {A : Nat → Prop} {g : Gs} {v1 : Int32} {v2 : Int32} {v3 : Int32} {q : Int32} {fin : Int32} (C : Cx p s m args meth c yX6_startOfRest cX6_startOfRest 6 (some .int) Γ A) (hf : fX6_startOfRest g v1 v2 v3 = some q) (hq : (fun x => x = fin) q) : Wk p l e { frames := 1, cells := 0, slots := 0, locals := 20 } s m args below meth c Γ A g (some (.int fin)) 0 6 [(0, .ref (ad Γ 601)), (1, .int v1), (2, .int v2), (3, .int v3)] [] g := by
  intro H locs ls hw hS hl
  unfold fX6_startOfRest at hf
  obtain ⟨hx, hb, hml, hr, hown, htw, hlocks, hE⟩ := id C
  have hown : s.vm.findClass RX6 = some m.cls := hown
  refine lv_aload_n hx hb dX6_startOfRest_0 rfl (lv_at hl 0 rfl) ?_
  refine va_get (ci := 6) (v := .ref (aa Γ 601 1)) (C := RX6) (T := TX6) (N := 2) hx hb htw uwX6 hown hE.1 (hw _ _ (wf_601 hE)) 0 rfl rfl 1 (by decide) (htw _ mw383) (fun _ h9 => h9) rfl dX6_startOfRest_1 ?_
  refine lv_iconst (v := 0) hx hb dX6_startOfRest_4 (by decide) ?_
  refine va_iald hx hb hE.1 (hw _ _ (wf_601 hE)) 2 0 rfl rfl (inR_in (i := 0) (n := 1024) (by decide)) dX6_startOfRest_5 ?_
  obtain ⟨x9, hx9, hf⟩ := bd hf
  have hx9 := Option.some.inj hx9
  refine tp1i hx9 ?_
  refine lv_istore (lv' := [(4, .int x9), (0, .ref (ad Γ 601)), (1, .int v1), (2, .int v2), (3, .int v3)]) hx hb dX6_startOfRest_6 hl (by decide) rfl (fun ls hl => ?_)
  refine lv_iconst (v := 1) hx hb dX6_startOfRest_8 (by decide) ?_
  refine lv_istore (lv' := [(5, .int 1), (4, .int x9), (0, .ref (ad Γ 601)), (1, .int v1), (2, .int v2), (3, .int v3)]) hx hb dX6_startOfRest_9 hl (by decide) rfl (fun ls hl => ?_)
  exact lwX6_startOfRest_11 C hf hq H locs ls hw hS (lv_sub hl [2, 3, 4, 5, 1, 0] rfl)

theorem kX6_startOfRest {l : Launch} {Γ : Gm} {A : Nat → Prop} {g : Gs} {v1 : Int32} {v2 : Int32} {v3 : Int32} {fin : Int32} (hf : fX6_startOfRest g v1 v2 v3 = some fin) : Kt l yX6_startOfRest cX6_startOfRest 6 (some .int) 1 20 Γ A g g [.ref (ad Γ 601), .int v1, .int v2, .int v3] (some (.int fin)) :=
  kt_of (by decide) (Nat.le_of_ble_eq_true rfl) (fun p e s m args below meth c C => wX6_startOfRest_e C hf rfl)
