noncomputable def bX10_fits_100 (r : Rec) (s0 : Int32) : Option (Rec × Int32) :=
  (fX10_sureOf r s0).bind fun z1 => some ((r, z1))
set_option maxRecDepth 100000 in
set_option maxHeartbeats 4000000 in
theorem wX10_fits_100 {p : Program} {l : Launch} {e : Env} {s : State} {m : MethodId} {args : Array Value} {below : List Frame} {meth : Method} {c : Code} {Γ : Gm} {A : Nat → Prop} {G : Gs} {o : Nat} {r : Rec} {s0 : Int32} {q : (Rec × Int32)} {fin : Rec × Int32} (C : Cx p s m args meth c yX10_fits cX10_fits 4 (some .int) Γ A) (hk : kd Γ o = some 10) (hf : bX10_fits_100 r s0 = some q) (hq : (fun x => x = fin) q) : Wk p l e { frames := 4, cells := 0, slots := 0, locals := 91 } s m args below meth c Γ A (ug G o fin.1) (some (.int fin.2)) 100 4 [] [.int s0, .ref (ad Γ o)] (ug G o r) := by
  intro H locs ls hw hS hl
  unfold bX10_fits_100 at hf
  obtain ⟨hx, hb, hml, hr, hown, htw, hlocks, hE⟩ := id C
  have hown : s.vm.findClass RX10 = some m.cls := hown
  obtain ⟨z1, hz1, hf⟩ := bd hf
  refine cl_Vs (rest := []) (kX10_sureOf (l := l) (Γ := Γ) (A := A) (G := G) (o := o) hk hz1) ⟨hx, hb, hml, hown, htw⟩ hE hw hS (wo_me hw hk) (q0 := 0) rfl rfl mw1790 mw1792 mw110 mw129 mw1793 pdX10_sureOf ⟨Nat.le_of_ble_eq_true rfl, Nat.le_of_ble_eq_true rfl⟩ rfl rfl hl.1 (Nat.le_of_ble_eq_true rfl) dX10_fits_100 (fun H locs hw hS => ?_)
  obtain rfl := Option.some.inj hf
  subst hq
  exact rt_i C hw hS dX10_fits_103

noncomputable def bX10_fits_89 (r : Rec) (v3 : Int32) : Option (Rec × Int32) :=
  if v3 = 1 then bX10_fits_100 r 1 else bX10_fits_100 r 0
set_option maxRecDepth 100000 in
set_option maxHeartbeats 4000000 in
theorem wX10_fits_89 {p : Program} {l : Launch} {e : Env} {s : State} {m : MethodId} {args : Array Value} {below : List Frame} {meth : Method} {c : Code} {Γ : Gm} {A : Nat → Prop} {G : Gs} {o : Nat} {r : Rec} {v3 : Int32} {q : (Rec × Int32)} {fin : Rec × Int32} (C : Cx p s m args meth c yX10_fits cX10_fits 4 (some .int) Γ A) (hk : kd Γ o = some 10) (hf : bX10_fits_89 r v3 = some q) (hq : (fun x => x = fin) q) : Wk p l e { frames := 4, cells := 0, slots := 0, locals := 91 } s m args below meth c Γ A (ug G o fin.1) (some (.int fin.2)) 89 4 [(0, .ref (ad Γ o)), (3, .int v3)] [] (ug G o r) := by
  intro H locs ls hw hS hl
  unfold bX10_fits_89 at hf
  obtain ⟨hx, hb, hml, hr, hown, htw, hlocks, hE⟩ := id C
  have hown : s.vm.findClass RX10 = some m.cls := hown
  refine lv_aload_n hx hb dX10_fits_89 rfl (lv_at hl 0 rfl) ?_
  refine lv_iload_n hx hb dX10_fits_90 rfl (lv_at hl 1 rfl) ?_
  refine lv_iconst (v := 1) hx hb dX10_fits_91 (by decide) ?_
  refine lv_icmp_ne (tgt := 99) hx hb dX10_fits_92 (by decide) (fun c2 => ?_) (fun c2 => ?_)
  · have hf := ifn c2 hf
    refine lv_iconst (v := 0) hx hb dX10_fits_99 (by decide) ?_
    exact wX10_fits_100 C hk hf hq H locs ls hw hS (lv_sub hl [] rfl)
  · have hf := ifp c2 hf
    refine lv_iconst (v := 1) hx hb dX10_fits_95 (by decide) ?_
    refine lv_goto (tgt := 100) hx hb dX10_fits_96 (by decide) ?_
    exact wX10_fits_100 C hk hf hq H locs ls hw hS (lv_sub hl [] rfl)

noncomputable def fX10_fits (r : Rec) (v1 : Int32) (v2 : Int32) (v3 : Int32) : Option (Rec × Int32) :=
  (some (si r 0 0)).bind fun r3 => (fX10_layLog r3 v1 v2).bind fun z4 => if z4.2 = 0 then some ((z4.1, (-2))) else if v3 < 10 then if v3 = 0 then some ((z4.1, gi z4.1 43)) else if v3 = 1 then bX10_fits_89 z4.1 v3 else if v3 = 2 then bX10_fits_89 z4.1 v3 else if v3 = 3 then (fX10_which z4.1).bind fun z5 => some ((z4.1, z5)) else if v3 = 4 then (fX10_ask z4.1).bind fun z6 => some ((z6.1, z6.2)) else some ((z4.1, (-2))) else if (gi z4.1 43) ≤ (v3 - 10) then some ((z4.1, (-2))) else gd (inR (v3 - 10) 120) (some ((z4.1, ga z4.1 42 (Int32.toNatClampNeg (v3 - 10)))))
set_option maxRecDepth 100000 in
set_option maxHeartbeats 4000000 in
theorem wX10_fits_e {p : Program} {l : Launch} {e : Env} {s : State} {m : MethodId} {args : Array Value} {below : List Frame} {meth : Method} {c : Code} {Γ : Gm} {A : Nat → Prop} {G : Gs} {o : Nat} {r : Rec} {v1 : Int32} {v2 : Int32} {v3 : Int32} {q : (Rec × Int32)} {fin : Rec × Int32} (C : Cx p s m args meth c yX10_fits cX10_fits 4 (some .int) Γ A) (hk : kd Γ o = some 10) (hf : fX10_fits r v1 v2 v3 = some q) (hq : (fun x => x = fin) q) : Wk p l e { frames := 4, cells := 0, slots := 0, locals := 91 } s m args below meth c Γ A (ug G o fin.1) (some (.int fin.2)) 0 4 [(0, .ref (ad Γ o)), (1, .int v1), (2, .int v2), (3, .int v3)] [] (ug G o r) := by
  intro H locs ls hw hS hl
  unfold fX10_fits at hf
  obtain ⟨hx, hb, hml, hr, hown, htw, hlocks, hE⟩ := id C
  have hown : s.vm.findClass RX10 = some m.cls := hown
  refine lv_aload_n hx hb dX10_fits_0 rfl (lv_at hl 0 rfl) ?_
  refine lv_iconst (v := 0) hx hb dX10_fits_1 (by decide) ?_
  obtain ⟨r3, hr3, hf⟩ := bd hf
  have hr3 := Option.some.inj hr3
  refine wo_put (C := RX10) (T := TX10) (N := 49) (v := .int 0) (ty := .int) hx hb htw uwX10 tyX10 tyX10_ok nmX10 hown hE hw hS hk rfl rfl 0 (by decide) (htw _ mw1243) (fun _ h9 => h9) rfl (tyX10_ok 0 (by decide)) rfl rfl (Nat.le_of_ble_eq_true rfl) (st10_0 hr3) dX10_fits_2 (fun H locs hw hS => ?_)
  refine lv_aload_n hx hb dX10_fits_5 rfl (lv_at hl 0 rfl) ?_
  refine lv_iload_n hx hb dX10_fits_6 rfl (lv_at hl 1 rfl) ?_
  refine lv_iload_n hx hb dX10_fits_7 rfl (lv_at hl 2 rfl) ?_
  obtain ⟨z4, hz4, hf⟩ := bd hf
  refine cl_Vs (rest := []) (kX10_layLog (l := l) (Γ := Γ) (A := A) (G := G) (o := o) hk hz4) ⟨hx, hb, hml, hown, htw⟩ hE hw hS (wo_me hw hk) (q0 := 0) rfl rfl mw1778 mw1780 mw107 mw129 mw1781 pdX10_layLog ⟨Nat.le_of_ble_eq_true rfl, Nat.le_of_ble_eq_true rfl⟩ rfl rfl hl.1 (Nat.le_of_ble_eq_true rfl) dX10_fits_8 (fun H locs hw hS => ?_)
  refine lv_if_ne (tgt := 17) hx hb dX10_fits_11 (by decide) (fun c15 => ?_) (fun c15 => ?_)
  · have hf := ifn c15 hf
    refine lv_iload_n hx hb dX10_fits_17 rfl (lv_at hl 3 rfl) ?_
    refine lv_bipush (v := 10) hx hb dX10_fits_18 (by decide) ?_
    refine lv_icmp_lt (tgt := 49) hx hb dX10_fits_20 (by decide) (fun c14 => ?_) (fun c14 => ?_)
    · have hf := ifp c14 hf
      refine lv_iload_n hx hb dX10_fits_49 rfl (lv_at hl 3 rfl) ?_
      by_cases c7 : v3 = 0
      · have hf := ifp c7 hf
        rw [c7]
        refine lv_tableIn (off := 34) (tgt := 84) hx hb dX10_fits_50 (by decide) (by decide) (by rfl) (by decide) ?_
        refine lv_aload_n hx hb dX10_fits_84 rfl (lv_at hl 0 rfl) ?_
        refine va_get (ci := 10) (v := .int (gi z4.1 43)) (C := RX10) (T := TX10) (N := 49) hx hb htw uwX10 hown hE.1 (wo_me hw hk) 0 rfl rfl 43 (by decide) (htw _ mw1286) (fun _ h9 => h9) rfl dX10_fits_85 ?_
        obtain rfl := Option.some.inj hf
        subst hq
        exact rt_i C hw hS dX10_fits_88
      have hf := ifn c7 hf
      by_cases c8 : v3 = 1
      · have hf := ifp c8 hf
        rw [c8]
        refine lv_tableIn (off := 39) (tgt := 89) hx hb dX10_fits_50 (by decide) (by decide) (by rfl) (by decide) ?_
        exact wX10_fits_89 C hk hf hq H locs ls hw hS (lv_sub hl [0, 3] rfl)
      have hf := ifn c8 hf
      by_cases c9 : v3 = 2
      · have hf := ifp c9 hf
        rw [c9]
        refine lv_tableIn (off := 39) (tgt := 89) hx hb dX10_fits_50 (by decide) (by decide) (by rfl) (by decide) ?_
        exact wX10_fits_89 C hk hf hq H locs ls hw hS (lv_sub hl [0, 3] rfl)
      have hf := ifn c9 hf
      by_cases c10 : v3 = 3
      · have hf := ifp c10 hf
        rw [c10]
        refine lv_tableIn (off := 54) (tgt := 104) hx hb dX10_fits_50 (by decide) (by decide) (by rfl) (by decide) ?_
        refine lv_aload_n hx hb dX10_fits_104 rfl (lv_at hl 0 rfl) ?_
        obtain ⟨z5, hz5, hf⟩ := bd hf
        refine cl_Vs (rest := []) (kX10_which (l := l) (Γ := Γ) (A := A) (G := G) (o := o) hk hz5) ⟨hx, hb, hml, hown, htw⟩ hE hw hS (wo_me hw hk) (q0 := 0) rfl rfl mw1794 mw1796 mw111 mw129 mw1797 pdX10_which ⟨Nat.le_of_ble_eq_true rfl, Nat.le_of_ble_eq_true rfl⟩ rfl rfl hl.1 (Nat.le_of_ble_eq_true rfl) dX10_fits_105 (fun H locs hw hS => ?_)
        obtain rfl := Option.some.inj hf
        subst hq
        exact rt_i C hw hS dX10_fits_108
      have hf := ifn c10 hf
      by_cases c11 : v3 = 4
      · have hf := ifp c11 hf
        rw [c11]
        refine lv_tableIn (off := 59) (tgt := 109) hx hb dX10_fits_50 (by decide) (by decide) (by rfl) (by decide) ?_
        refine lv_aload_n hx hb dX10_fits_109 rfl (lv_at hl 0 rfl) ?_
        obtain ⟨z6, hz6, hf⟩ := bd hf
        refine cl_Vs (rest := []) (kX10_ask (l := l) (Γ := Γ) (A := A) (G := G) (o := o) hk hz6) ⟨hx, hb, hml, hown, htw⟩ hE hw hS (wo_me hw hk) (q0 := 0) rfl rfl mw1798 mw1800 mw112 mw129 mw1801 pdX10_ask ⟨Nat.le_of_ble_eq_true rfl, Nat.le_of_ble_eq_true rfl⟩ rfl rfl hl.1 (Nat.le_of_ble_eq_true rfl) dX10_fits_110 (fun H locs hw hS => ?_)
        obtain rfl := Option.some.inj hf
        subst hq
        exact rt_i C hw hS dX10_fits_113
      have hf := ifn c11 hf
      refine lv_tableOut (tgt := 114) hx hb dX10_fits_50 (by have := And.intro (ts_ne (k := 0) (by decide) c7) (And.intro (ts_ne (k := 1) (by decide) c8) (And.intro (ts_ne (k := 2) (by decide) c9) (And.intro (ts_ne (k := 3) (by decide) c10) (And.intro (ts_ne (k := 4) (by decide) c11) (True.intro))))); omega) (by decide) ?_
      refine lv_bipush (v := (-2)) hx hb dX10_fits_114 (by decide) ?_
      obtain rfl := Option.some.inj hf
      subst hq
      exact rt_i C hw hS dX10_fits_116
    · have hf := ifn c14 hf
      refine lv_iload_n hx hb dX10_fits_23 rfl (lv_at hl 3 rfl) ?_
      refine lv_bipush (v := 10) hx hb dX10_fits_24 (by decide) ?_
      refine lv_isub hx hb dX10_fits_26 ?_
      refine lv_aload_n hx hb dX10_fits_27 rfl (lv_at hl 0 rfl) ?_
      refine va_get (ci := 10) (v := .int (gi z4.1 43)) (C := RX10) (T := TX10) (N := 49) hx hb htw uwX10 hown hE.1 (wo_me hw hk) 0 rfl rfl 43 (by decide) (htw _ mw1286) (fun _ h9 => h9) rfl dX10_fits_28 ?_
      refine lv_icmp_ge (tgt := 46) hx hb dX10_fits_31 (by decide) (fun c13 => ?_) (fun c13 => ?_)
      · have hf := ifp c13 hf
        refine lv_bipush (v := (-2)) hx hb dX10_fits_46 (by decide) ?_
        obtain rfl := Option.some.inj hf
        subst hq
        exact rt_i C hw hS dX10_fits_48
      · have hf := ifn c13 hf
        refine lv_aload_n hx hb dX10_fits_34 rfl (lv_at hl 0 rfl) ?_
        refine va_get (ci := 10) (v := .ref (aa Γ o 42)) (C := RX10) (T := TX10) (N := 49) hx hb htw uwX10 hown hE.1 (wo_me hw hk) 0 rfl rfl 42 (by decide) (htw _ mw1285) (fun _ h9 => h9) rfl dX10_fits_35 ?_
        refine lv_iload_n hx hb dX10_fits_38 rfl (lv_at hl 3 rfl) ?_
        refine lv_bipush (v := 10) hx hb dX10_fits_39 (by decide) ?_
        refine lv_isub hx hb dX10_fits_41 ?_
        obtain ⟨g12, hf⟩ := gd_some hf
        refine va_iald hx hb hE.1 (wo_me hw hk) 20 0 rfl rfl (inR_in g12) dX10_fits_42 ?_
        refine lv_goto (tgt := 48) hx hb dX10_fits_43 (by decide) ?_
        obtain rfl := Option.some.inj hf
        subst hq
        exact rt_i C hw hS dX10_fits_48
  · have hf := ifp c15 hf
    refine lv_bipush (v := (-2)) hx hb dX10_fits_14 (by decide) ?_
    obtain rfl := Option.some.inj hf
    subst hq
    exact rt_i C hw hS dX10_fits_16

theorem kX10_fits {l : Launch} {Γ : Gm} {A : Nat → Prop} {G : Gs} {o : Nat} {r : Rec} {v1 : Int32} {v2 : Int32} {v3 : Int32} {fin : Rec × Int32} (hk : kd Γ o = some 10) (hf : fX10_fits r v1 v2 v3 = some fin) : Kt l yX10_fits cX10_fits 4 (some .int) 4 91 Γ A (ug G o r) (ug G o fin.1) [.ref (ad Γ o), .int v1, .int v2, .int v3] (some (.int fin.2)) :=
  kt_of (by decide) (Nat.le_of_ble_eq_true rfl) (fun p e s m args below meth c C => wX10_fits_e C hk hf rfl)
theorem kgX10_fits {l : Launch} {Γ : Gm} {A : Nat → Prop} {G : Gs} {o : Nat} {v1 : Int32} {v2 : Int32} {v3 : Int32} {fin : Rec × Int32} (hk : kd Γ o = some 10) (hf : fX10_fits (G o) v1 v2 v3 = some fin) : Kt l yX10_fits cX10_fits 4 (some .int) 4 91 Γ A G (ug G o fin.1) [.ref (ad Γ o), .int v1, .int v2, .int v3] (some (.int fin.2)) := by
  have h := kX10_fits (l := l) (A := A) (G := G) (r := G o) hk hf
  rw [ug_self] at h
  exact h
noncomputable def fX10_draw (r : Rec) (v1 : Int32) : Option (Rec × Int32) :=
  (some (si r 45 (((gi r 45) * 1103515245) + 12345))).bind fun r1 => (some (((gi r1 45).toUInt32 >>> ((16 : Int32).toUInt32 &&& Int32.toUInt32 31)).toInt32)).bind fun x2 => gd (nz v1) (some ((r1, x2 - x2 / v1 * v1)))
set_option maxRecDepth 100000 in
set_option maxHeartbeats 4000000 in
theorem wX10_draw_e {p : Program} {l : Launch} {e : Env} {s : State} {m : MethodId} {args : Array Value} {below : List Frame} {meth : Method} {c : Code} {Γ : Gm} {A : Nat → Prop} {G : Gs} {o : Nat} {r : Rec} {v1 : Int32} {q : (Rec × Int32)} {fin : Rec × Int32} (C : Cx p s m args meth c yX10_draw cX10_draw 2 (some .int) Γ A) (hk : kd Γ o = some 10) (hf : fX10_draw r v1 = some q) (hq : (fun x => x = fin) q) : Wk p l e { frames := 0, cells := 0, slots := 0, locals := 0 } s m args below meth c Γ A (ug G o fin.1) (some (.int fin.2)) 0 2 [(0, .ref (ad Γ o)), (1, .int v1)] [] (ug G o r) := by
  intro H locs ls hw hS hl
  unfold fX10_draw at hf
  obtain ⟨hx, hb, hml, hr, hown, htw, hlocks, hE⟩ := id C
  have hown : s.vm.findClass RX10 = some m.cls := hown
  refine lv_aload_n hx hb dX10_draw_0 rfl (lv_at hl 0 rfl) ?_
  refine lv_aload_n hx hb dX10_draw_1 rfl (lv_at hl 0 rfl) ?_
  refine va_get (ci := 10) (v := .int (gi r 45)) (C := RX10) (T := TX10) (N := 49) hx hb htw uwX10 hown hE.1 (wo_me hw hk) 0 rfl rfl 45 (by decide) (htw _ mw1288) (fun _ h9 => h9) rfl dX10_draw_2 ?_
  refine lv_ldcw hx hb hown (htw _ mw1814) dX10_draw_5 ?_
  refine lv_imul hx hb dX10_draw_8 ?_
  refine lv_sipush (v := 12345) hx hb dX10_draw_9 (by decide) ?_
  refine lv_iadd hx hb dX10_draw_12 ?_
  obtain ⟨r1, hr1, hf⟩ := bd hf
  have hr1 := Option.some.inj hr1
  refine wo_put (C := RX10) (T := TX10) (N := 49) (v := .int (((gi r 45) * 1103515245) + 12345)) (ty := .int) hx hb htw uwX10 tyX10 tyX10_ok nmX10 hown hE hw hS hk rfl rfl 45 (by decide) (htw _ mw1288) (fun _ h9 => h9) rfl (tyX10_ok 45 (by decide)) rfl rfl (Nat.le_of_ble_eq_true rfl) (st10_45 hr1) dX10_draw_13 (fun H locs hw hS => ?_)
  refine lv_aload_n hx hb dX10_draw_16 rfl (lv_at hl 0 rfl) ?_
  refine va_get (ci := 10) (v := .int (gi r1 45)) (C := RX10) (T := TX10) (N := 49) hx hb htw uwX10 hown hE.1 (wo_me hw hk) 0 rfl rfl 45 (by decide) (htw _ mw1288) (fun _ h9 => h9) rfl dX10_draw_17 ?_
  refine lv_bipush (v := 16) hx hb dX10_draw_20 (by decide) ?_
  refine lv_iushr (v := ((gi r1 45).toUInt32 >>> ((16 : Int32).toUInt32 &&& Int32.toUInt32 31)).toInt32) hx hb dX10_draw_22 rfl ?_
  refine lv_iload_n hx hb dX10_draw_23 rfl (lv_at hl 1 rfl) ?_
  obtain ⟨x2, hx2, hf⟩ := bd hf
  have hx2 := Option.some.inj hx2
  refine tp2i hx2 ?_
  obtain ⟨g3, hf⟩ := gd_some hf
  refine lv_irem hx hb dX10_draw_24 (nz_ne g3) ?_
  obtain rfl := Option.some.inj hf
  subst hq
  exact rt_i C hw hS dX10_draw_25

theorem kX10_draw {l : Launch} {Γ : Gm} {A : Nat → Prop} {G : Gs} {o : Nat} {r : Rec} {v1 : Int32} {fin : Rec × Int32} (hk : kd Γ o = some 10) (hf : fX10_draw r v1 = some fin) : Kt l yX10_draw cX10_draw 2 (some .int) 0 0 Γ A (ug G o r) (ug G o fin.1) [.ref (ad Γ o), .int v1] (some (.int fin.2)) :=
  kt_of (by decide) (Nat.le_of_ble_eq_true rfl) (fun p e s m args below meth c C => wX10_draw_e C hk hf rfl)
theorem kgX10_draw {l : Launch} {Γ : Gm} {A : Nat → Prop} {G : Gs} {o : Nat} {v1 : Int32} {fin : Rec × Int32} (hk : kd Γ o = some 10) (hf : fX10_draw (G o) v1 = some fin) : Kt l yX10_draw cX10_draw 2 (some .int) 0 0 Γ A G (ug G o fin.1) [.ref (ad Γ o), .int v1] (some (.int fin.2)) := by
  have h := kX10_draw (l := l) (A := A) (G := G) (r := G o) hk hf
  rw [ug_self] at h
  exact h
noncomputable def bX10_drawDeed_136 (r : Rec) (s0 : Int32) (s1 : Int32) : Option Rec :=
  (fX10_takes r s1 s0).bind fun z1 => some (z1.1)
set_option maxRecDepth 100000 in
set_option maxHeartbeats 4000000 in
theorem wX10_drawDeed_136 {p : Program} {l : Launch} {e : Env} {s : State} {m : MethodId} {args : Array Value} {below : List Frame} {meth : Method} {c : Code} {Γ : Gm} {A : Nat → Prop} {G : Gs} {o : Nat} {r : Rec} {s0 : Int32} {s1 : Int32} {q : Rec} {fin : Rec} (C : Cx p s m args meth c yX10_drawDeed cX10_drawDeed 4 none Γ A) (hk : kd Γ o = some 10) (hf : bX10_drawDeed_136 r s0 s1 = some q) (hq : (fun x => x = fin) q) : Wk p l e { frames := 4, cells := 0, slots := 0, locals := 89 } s m args below meth c Γ A (ug G o fin) none 136 4 [] [.int s0, .int s1, .ref (ad Γ o)] (ug G o r) := by
  intro H locs ls hw hS hl
  unfold bX10_drawDeed_136 at hf
  obtain ⟨hx, hb, hml, hr, hown, htw, hlocks, hE⟩ := id C
  have hown : s.vm.findClass RX10 = some m.cls := hown
  obtain ⟨z1, hz1, hf⟩ := bd hf
  refine cl_Vs (rest := []) (kX10_takes (l := l) (Γ := Γ) (A := A) (G := G) (o := o) hk hz1) ⟨hx, hb, hml, hown, htw⟩ hE hw hS (wo_me hw hk) (q0 := 0) rfl rfl mw1632 mw1634 mw85 mw129 mw1635 pdX10_takes ⟨Nat.le_of_ble_eq_true rfl, Nat.le_of_ble_eq_true rfl⟩ rfl rfl hl.1 (Nat.le_of_ble_eq_true rfl) dX10_drawDeed_136 (fun H locs hw hS => ?_)
  refine lv_pop hx hb dX10_drawDeed_139 rfl ?_
  obtain rfl := Option.some.inj hf
  subst hq
  exact rt_v C hw hS dX10_drawDeed_140

noncomputable def bX10_drawDeed_56 (r : Rec) (v1 : Int32) (s0 : Int32) : Option Rec :=
  (fX10_draw r (gi r 26)).bind fun z2 => if 2 ≤ v1 then if v1 = 2 then (some (z2.2 + 1)).bind fun x7 => (some (gi z2.1 26)).bind fun x8 => gd (nz x8) ((fX10_tellsBoth z2.1 s0 z2.2 (x7 - x7 / x8 * x8)).bind fun z10 => some (z10.1)) else if v1 = 3 then (fX10_polishes z2.1 z2.2).bind fun z5 => some (z5.1) else (fX10_has (gi z2.1 31) z2.2).bind fun z3 => if z3 = 0 then bX10_drawDeed_136 z2.1 1 z2.2 else bX10_drawDeed_136 z2.1 0 z2.2 else (fX10_tells z2.1 s0 z2.2).bind fun z12 => some (z12.1)
set_option maxRecDepth 100000 in
set_option maxHeartbeats 4000000 in
theorem wX10_drawDeed_56 {p : Program} {l : Launch} {e : Env} {s : State} {m : MethodId} {args : Array Value} {below : List Frame} {meth : Method} {c : Code} {Γ : Gm} {A : Nat → Prop} {G : Gs} {o : Nat} {r : Rec} {v1 : Int32} {s0 : Int32} {q : Rec} {fin : Rec} (C : Cx p s m args meth c yX10_drawDeed cX10_drawDeed 4 none Γ A) (hk : kd Γ o = some 10) (hf : bX10_drawDeed_56 r v1 s0 = some q) (hq : (fun x => x = fin) q) : Wk p l e { frames := 4, cells := 0, slots := 0, locals := 89 } s m args below meth c Γ A (ug G o fin) none 56 4 [(0, .ref (ad Γ o)), (1, .int v1)] [.int s0] (ug G o r) := by
  intro H locs ls hw hS hl
  unfold bX10_drawDeed_56 at hf
  obtain ⟨hx, hb, hml, hr, hown, htw, hlocks, hE⟩ := id C
  have hown : s.vm.findClass RX10 = some m.cls := hown
  refine lv_istore_n (lv' := [(2, .int s0), (0, .ref (ad Γ o)), (1, .int v1)]) hx hb dX10_drawDeed_56 rfl hl (by decide) rfl (fun ls hl => ?_)
  refine lv_aload_n hx hb dX10_drawDeed_57 rfl (lv_at hl 1 rfl) ?_
  refine lv_aload_n hx hb dX10_drawDeed_58 rfl (lv_at hl 1 rfl) ?_
  refine va_get (ci := 10) (v := .int (gi r 26)) (C := RX10) (T := TX10) (N := 49) hx hb htw uwX10 hown hE.1 (wo_me hw hk) 0 rfl rfl 26 (by decide) (htw _ mw1269) (fun _ h9 => h9) rfl dX10_drawDeed_59 ?_
  obtain ⟨z2, hz2, hf⟩ := bd hf
  refine cl_Vs (rest := []) (kX10_draw (l := l) (Γ := Γ) (A := A) (G := G) (o := o) hk hz2) ⟨hx, hb, hml, hown, htw⟩ hE hw hS (wo_me hw hk) (q0 := 0) rfl rfl mw1810 mw1812 mw114 mw129 mw1813 pdX10_draw ⟨Nat.le_of_ble_eq_true rfl, Nat.le_of_ble_eq_true rfl⟩ rfl rfl hl.1 (Nat.le_of_ble_eq_true rfl) dX10_drawDeed_62 (fun H locs hw hS => ?_)
  refine lv_istore_n (lv' := [(3, .int z2.2), (2, .int s0), (0, .ref (ad Γ o)), (1, .int v1)]) hx hb dX10_drawDeed_65 rfl hl (by decide) rfl (fun ls hl => ?_)
  refine lv_iload_n hx hb dX10_drawDeed_66 rfl (lv_at hl 3 rfl) ?_
  refine lv_iconst (v := 2) hx hb dX10_drawDeed_67 (by decide) ?_
  refine lv_icmp_ge (tgt := 81) hx hb dX10_drawDeed_68 (by decide) (fun c13 => ?_) (fun c13 => ?_)
  · have hf := ifp c13 hf
    refine lv_iload_n hx hb dX10_drawDeed_81 rfl (lv_at hl 3 rfl) ?_
    refine lv_iconst (v := 2) hx hb dX10_drawDeed_82 (by decide) ?_
    refine lv_icmp_ne (tgt := 104) hx hb dX10_drawDeed_83 (by decide) (fun c11 => ?_) (fun c11 => ?_)
    · have hf := ifn c11 hf
      refine lv_iload_n hx hb dX10_drawDeed_104 rfl (lv_at hl 3 rfl) ?_
      refine lv_iconst (v := 3) hx hb dX10_drawDeed_105 (by decide) ?_
      refine lv_icmp_ne (tgt := 118) hx hb dX10_drawDeed_106 (by decide) (fun c6 => ?_) (fun c6 => ?_)
      · have hf := ifn c6 hf
        refine lv_aload_n hx hb dX10_drawDeed_118 rfl (lv_at hl 2 rfl) ?_
        refine lv_iload_n hx hb dX10_drawDeed_119 rfl (lv_at hl 0 rfl) ?_
        refine lv_aload_n hx hb dX10_drawDeed_120 rfl (lv_at hl 2 rfl) ?_
        refine va_get (ci := 10) (v := .int (gi z2.1 31)) (C := RX10) (T := TX10) (N := 49) hx hb htw uwX10 hown hE.1 (wo_me hw hk) 0 rfl rfl 31 (by decide) (htw _ mw1274) (fun _ h9 => h9) rfl dX10_drawDeed_121 ?_
        refine lv_iload_n hx hb dX10_drawDeed_124 rfl (lv_at hl 0 rfl) ?_
        obtain ⟨z3, hz3, hf⟩ := bd hf
        refine cl_Ss (rest := [.int z2.2, .ref (ad Γ o)]) (kX10_has (l := l) (Γ := Γ) (A := A) (G := (ug G o z2.1)) hz3) ⟨hx, hb, hml, hown, htw⟩ hE hw hS mw1561 mw1562 mw129 mw1563 pdX10_has ⟨Nat.le_of_ble_eq_true rfl, Nat.le_of_ble_eq_true rfl⟩ rfl rfl hl.1 (Nat.le_of_ble_eq_true rfl) dX10_drawDeed_125 (fun H locs hw hS => ?_)
        refine lv_if_ne (tgt := 135) hx hb dX10_drawDeed_128 (by decide) (fun c4 => ?_) (fun c4 => ?_)
        · have hf := ifn c4 hf
          refine lv_iconst (v := 0) hx hb dX10_drawDeed_135 (by decide) ?_
          exact wX10_drawDeed_136 C hk hf hq H locs ls hw hS (lv_sub hl [] rfl)
        · have hf := ifp c4 hf
          refine lv_iconst (v := 1) hx hb dX10_drawDeed_131 (by decide) ?_
          refine lv_goto (tgt := 136) hx hb dX10_drawDeed_132 (by decide) ?_
          exact wX10_drawDeed_136 C hk hf hq H locs ls hw hS (lv_sub hl [] rfl)
      · have hf := ifp c6 hf
        refine lv_aload_n hx hb dX10_drawDeed_109 rfl (lv_at hl 2 rfl) ?_
        refine lv_iload_n hx hb dX10_drawDeed_110 rfl (lv_at hl 0 rfl) ?_
        obtain ⟨z5, hz5, hf⟩ := bd hf
        refine cl_Vs (rest := []) (kX10_polishes (l := l) (Γ := Γ) (A := A) (G := G) (o := o) hk hz5) ⟨hx, hb, hml, hown, htw⟩ hE hw hS (wo_me hw hk) (q0 := 0) rfl rfl mw1620 mw1622 mw82 mw129 mw1623 pdX10_polishes ⟨Nat.le_of_ble_eq_true rfl, Nat.le_of_ble_eq_true rfl⟩ rfl rfl hl.1 (Nat.le_of_ble_eq_true rfl) dX10_drawDeed_111 (fun H locs hw hS => ?_)
        refine lv_pop hx hb dX10_drawDeed_114 rfl ?_
        refine lv_goto (tgt := 140) hx hb dX10_drawDeed_115 (by decide) ?_
        obtain rfl := Option.some.inj hf
        subst hq
        exact rt_v C hw hS dX10_drawDeed_140
    · have hf := ifp c11 hf
      refine lv_aload_n hx hb dX10_drawDeed_86 rfl (lv_at hl 2 rfl) ?_
      refine lv_iload_n hx hb dX10_drawDeed_87 rfl (lv_at hl 1 rfl) ?_
      refine lv_iload_n hx hb dX10_drawDeed_88 rfl (lv_at hl 0 rfl) ?_
      refine lv_iload_n hx hb dX10_drawDeed_89 rfl (lv_at hl 0 rfl) ?_
      refine lv_iconst (v := 1) hx hb dX10_drawDeed_90 (by decide) ?_
      refine lv_iadd hx hb dX10_drawDeed_91 ?_
      refine lv_aload_n hx hb dX10_drawDeed_92 rfl (lv_at hl 2 rfl) ?_
      refine va_get (ci := 10) (v := .int (gi z2.1 26)) (C := RX10) (T := TX10) (N := 49) hx hb htw uwX10 hown hE.1 (wo_me hw hk) 0 rfl rfl 26 (by decide) (htw _ mw1269) (fun _ h9 => h9) rfl dX10_drawDeed_93 ?_
      obtain ⟨x7, hx7, hf⟩ := bd hf
      have hx7 := Option.some.inj hx7
      refine tp2i hx7 ?_
      obtain ⟨x8, hx8, hf⟩ := bd hf
      have hx8 := Option.some.inj hx8
      refine tp1i hx8 ?_
      obtain ⟨g9, hf⟩ := gd_some hf
      refine lv_irem hx hb dX10_drawDeed_96 (nz_ne g9) ?_
      obtain ⟨z10, hz10, hf⟩ := bd hf
      refine cl_Vs (rest := []) (kX10_tellsBoth (l := l) (Γ := Γ) (A := A) (G := G) (o := o) hk hz10) ⟨hx, hb, hml, hown, htw⟩ hE hw hS (wo_me hw hk) (q0 := 0) rfl rfl mw1616 mw1618 mw81 mw129 mw1619 pdX10_tellsBoth ⟨Nat.le_of_ble_eq_true rfl, Nat.le_of_ble_eq_true rfl⟩ rfl rfl hl.1 (Nat.le_of_ble_eq_true rfl) dX10_drawDeed_97 (fun H locs hw hS => ?_)
      refine lv_pop hx hb dX10_drawDeed_100 rfl ?_
      refine lv_goto (tgt := 140) hx hb dX10_drawDeed_101 (by decide) ?_
      obtain rfl := Option.some.inj hf
      subst hq
      exact rt_v C hw hS dX10_drawDeed_140
  · have hf := ifn c13 hf
    refine lv_aload_n hx hb dX10_drawDeed_71 rfl (lv_at hl 2 rfl) ?_
    refine lv_iload_n hx hb dX10_drawDeed_72 rfl (lv_at hl 1 rfl) ?_
    refine lv_iload_n hx hb dX10_drawDeed_73 rfl (lv_at hl 0 rfl) ?_
    obtain ⟨z12, hz12, hf⟩ := bd hf
    refine cl_Vs (rest := []) (kX10_tells (l := l) (Γ := Γ) (A := A) (G := G) (o := o) hk hz12) ⟨hx, hb, hml, hown, htw⟩ hE hw hS (wo_me hw hk) (q0 := 0) rfl rfl mw1608 mw1610 mw79 mw129 mw1611 pdX10_tells ⟨Nat.le_of_ble_eq_true rfl, Nat.le_of_ble_eq_true rfl⟩ rfl rfl hl.1 (Nat.le_of_ble_eq_true rfl) dX10_drawDeed_74 (fun H locs hw hS => ?_)
    refine lv_pop hx hb dX10_drawDeed_77 rfl ?_
    refine lv_goto (tgt := 140) hx hb dX10_drawDeed_78 (by decide) ?_
    obtain rfl := Option.some.inj hf
    subst hq
    exact rt_v C hw hS dX10_drawDeed_140

noncomputable def fX10_drawDeed (r : Rec) : Option Rec :=
  (fX10_draw r 8).bind fun z14 => (fX10_in z14.2 4 6).bind fun z15 => if z15 = 0 then if (gi z14.1 27) ≤ 0 then some (z14.1) else if (gi z14.1 26) ≤ 0 then some (z14.1) else if 3 ≤ z14.2 then bX10_drawDeed_56 z14.1 z14.2 (-1) else (fX10_draw z14.1 (gi z14.1 27)).bind fun z16 => bX10_drawDeed_56 z16.1 z14.2 z16.2 else (fX10_goesOn z14.1).bind fun z20 => some (z20.1)
set_option maxRecDepth 100000 in
set_option maxHeartbeats 4000000 in
theorem wX10_drawDeed_e {p : Program} {l : Launch} {e : Env} {s : State} {m : MethodId} {args : Array Value} {below : List Frame} {meth : Method} {c : Code} {Γ : Gm} {A : Nat → Prop} {G : Gs} {o : Nat} {r : Rec} {q : Rec} {fin : Rec} (C : Cx p s m args meth c yX10_drawDeed cX10_drawDeed 4 none Γ A) (hk : kd Γ o = some 10) (hf : fX10_drawDeed r = some q) (hq : (fun x => x = fin) q) : Wk p l e { frames := 4, cells := 0, slots := 0, locals := 89 } s m args below meth c Γ A (ug G o fin) none 0 4 [(0, .ref (ad Γ o))] [] (ug G o r) := by
  intro H locs ls hw hS hl
  unfold fX10_drawDeed at hf
  obtain ⟨hx, hb, hml, hr, hown, htw, hlocks, hE⟩ := id C
  have hown : s.vm.findClass RX10 = some m.cls := hown
  refine lv_aload_n hx hb dX10_drawDeed_0 rfl (lv_at hl 0 rfl) ?_
  refine lv_bipush (v := 8) hx hb dX10_drawDeed_1 (by decide) ?_
  obtain ⟨z14, hz14, hf⟩ := bd hf
  refine cl_Vs (rest := []) (kX10_draw (l := l) (Γ := Γ) (A := A) (G := G) (o := o) hk hz14) ⟨hx, hb, hml, hown, htw⟩ hE hw hS (wo_me hw hk) (q0 := 0) rfl rfl mw1810 mw1812 mw114 mw129 mw1813 pdX10_draw ⟨Nat.le_of_ble_eq_true rfl, Nat.le_of_ble_eq_true rfl⟩ rfl rfl hl.1 (Nat.le_of_ble_eq_true rfl) dX10_drawDeed_3 (fun H locs hw hS => ?_)
  refine lv_istore_n (lv' := [(1, .int z14.2), (0, .ref (ad Γ o))]) hx hb dX10_drawDeed_6 rfl hl (by decide) rfl (fun ls hl => ?_)
  refine lv_iload_n hx hb dX10_drawDeed_7 rfl (lv_at hl 0 rfl) ?_
  refine lv_iconst (v := 4) hx hb dX10_drawDeed_8 (by decide) ?_
  refine lv_bipush (v := 6) hx hb dX10_drawDeed_9 (by decide) ?_
  obtain ⟨z15, hz15, hf⟩ := bd hf
  refine cl_Ss (rest := []) (kX10_in (l := l) (Γ := Γ) (A := A) (G := (ug G o z14.1)) hz15) ⟨hx, hb, hml, hown, htw⟩ hE hw hS mw1404 mw1405 mw129 mw1406 pdX10_in ⟨Nat.le_of_ble_eq_true rfl, Nat.le_of_ble_eq_true rfl⟩ rfl rfl hl.1 (Nat.le_of_ble_eq_true rfl) dX10_drawDeed_11 (fun H locs hw hS => ?_)
  refine lv_if_eq (tgt := 25) hx hb dX10_drawDeed_14 (by decide) (fun c21 => ?_) (fun c21 => ?_)
  · have hf := ifp c21 hf
    refine lv_aload_n hx hb dX10_drawDeed_25 rfl (lv_at hl 1 rfl) ?_
    refine va_get (ci := 10) (v := .int (gi z14.1 27)) (C := RX10) (T := TX10) (N := 49) hx hb htw uwX10 hown hE.1 (wo_me hw hk) 0 rfl rfl 27 (by decide) (htw _ mw1270) (fun _ h9 => h9) rfl dX10_drawDeed_26 ?_
    refine lv_if_le (tgt := 140) hx hb dX10_drawDeed_29 (by decide) (fun c19 => ?_) (fun c19 => ?_)
    · have hf := ifp c19 hf
      obtain rfl := Option.some.inj hf
      subst hq
      exact rt_v C hw hS dX10_drawDeed_140
    · have hf := ifn c19 hf
      refine lv_aload_n hx hb dX10_drawDeed_32 rfl (lv_at hl 1 rfl) ?_
      refine va_get (ci := 10) (v := .int (gi z14.1 26)) (C := RX10) (T := TX10) (N := 49) hx hb htw uwX10 hown hE.1 (wo_me hw hk) 0 rfl rfl 26 (by decide) (htw _ mw1269) (fun _ h9 => h9) rfl dX10_drawDeed_33 ?_
      refine lv_if_le (tgt := 140) hx hb dX10_drawDeed_36 (by decide) (fun c18 => ?_) (fun c18 => ?_)
      · have hf := ifp c18 hf
        obtain rfl := Option.some.inj hf
        subst hq
        exact rt_v C hw hS dX10_drawDeed_140
      · have hf := ifn c18 hf
        refine lv_iload_n hx hb dX10_drawDeed_39 rfl (lv_at hl 0 rfl) ?_
        refine lv_iconst (v := 3) hx hb dX10_drawDeed_40 (by decide) ?_
        refine lv_icmp_ge (tgt := 55) hx hb dX10_drawDeed_41 (by decide) (fun c17 => ?_) (fun c17 => ?_)
        · have hf := ifp c17 hf
          refine lv_iconst (v := (-1)) hx hb dX10_drawDeed_55 (by decide) ?_
          exact wX10_drawDeed_56 C hk hf hq H locs ls hw hS (lv_sub hl [1, 0] rfl)
        · have hf := ifn c17 hf
          refine lv_aload_n hx hb dX10_drawDeed_44 rfl (lv_at hl 1 rfl) ?_
          refine lv_aload_n hx hb dX10_drawDeed_45 rfl (lv_at hl 1 rfl) ?_
          refine va_get (ci := 10) (v := .int (gi z14.1 27)) (C := RX10) (T := TX10) (N := 49) hx hb htw uwX10 hown hE.1 (wo_me hw hk) 0 rfl rfl 27 (by decide) (htw _ mw1270) (fun _ h9 => h9) rfl dX10_drawDeed_46 ?_
          obtain ⟨z16, hz16, hf⟩ := bd hf
          refine cl_Vs (rest := []) (kX10_draw (l := l) (Γ := Γ) (A := A) (G := G) (o := o) hk hz16) ⟨hx, hb, hml, hown, htw⟩ hE hw hS (wo_me hw hk) (q0 := 0) rfl rfl mw1810 mw1812 mw114 mw129 mw1813 pdX10_draw ⟨Nat.le_of_ble_eq_true rfl, Nat.le_of_ble_eq_true rfl⟩ rfl rfl hl.1 (Nat.le_of_ble_eq_true rfl) dX10_drawDeed_49 (fun H locs hw hS => ?_)
          refine lv_goto (tgt := 56) hx hb dX10_drawDeed_52 (by decide) ?_
          exact wX10_drawDeed_56 C hk hf hq H locs ls hw hS (lv_sub hl [1, 0] rfl)
  · have hf := ifn c21 hf
    refine lv_aload_n hx hb dX10_drawDeed_17 rfl (lv_at hl 1 rfl) ?_
    obtain ⟨z20, hz20, hf⟩ := bd hf
    refine cl_Vs (rest := []) (kX10_goesOn (l := l) (Γ := Γ) (A := A) (G := G) (o := o) hk hz20) ⟨hx, hb, hml, hown, htw⟩ hE hw hS (wo_me hw hk) (q0 := 0) rfl rfl mw1624 mw1626 mw83 mw129 mw1627 pdX10_goesOn ⟨Nat.le_of_ble_eq_true rfl, Nat.le_of_ble_eq_true rfl⟩ rfl rfl hl.1 (Nat.le_of_ble_eq_true rfl) dX10_drawDeed_18 (fun H locs hw hS => ?_)
    refine lv_pop hx hb dX10_drawDeed_21 rfl ?_
    refine lv_goto (tgt := 140) hx hb dX10_drawDeed_22 (by decide) ?_
    obtain rfl := Option.some.inj hf
    subst hq
    exact rt_v C hw hS dX10_drawDeed_140

theorem kX10_drawDeed {l : Launch} {Γ : Gm} {A : Nat → Prop} {G : Gs} {o : Nat} {r : Rec} {fin : Rec} (hk : kd Γ o = some 10) (hf : fX10_drawDeed r = some fin) : Kt l yX10_drawDeed cX10_drawDeed 4 none 4 89 Γ A (ug G o r) (ug G o fin) [.ref (ad Γ o)] none :=
  kt_of (by decide) (Nat.le_of_ble_eq_true rfl) (fun p e s m args below meth c C => wX10_drawDeed_e C hk hf rfl)
theorem kgX10_drawDeed {l : Launch} {Γ : Gm} {A : Nat → Prop} {G : Gs} {o : Nat} {fin : Rec} (hk : kd Γ o = some 10) (hf : fX10_drawDeed (G o) = some fin) : Kt l yX10_drawDeed cX10_drawDeed 4 none 4 89 Γ A G (ug G o fin) [.ref (ad Γ o)] none := by
  have h := kX10_drawDeed (l := l) (A := A) (G := G) (r := G o) hk hf
  rw [ug_self] at h
  exact h
noncomputable def bX10_drawn_54 (r : Rec) (v4 : Int32) : Option (Rec × Int32) :=
  (fX10_ofState r v4).bind fun z1 => some ((r, z1))
set_option maxRecDepth 100000 in
set_option maxHeartbeats 4000000 in
theorem wX10_drawn_54 {p : Program} {l : Launch} {e : Env} {s : State} {m : MethodId} {args : Array Value} {below : List Frame} {meth : Method} {c : Code} {Γ : Gm} {A : Nat → Prop} {G : Gs} {o : Nat} {r : Rec} {v4 : Int32} {q : (Rec × Int32)} {fin : Rec × Int32} (C : Cx p s m args meth c yX10_drawn cX10_drawn 6 (some .int) Γ A) (hk : kd Γ o = some 10) (hf : bX10_drawn_54 r v4 = some q) (hq : (fun x => x = fin) q) : Wk p l e { frames := 5, cells := 0, slots := 0, locals := 112 } s m args below meth c Γ A (ug G o fin.1) (some (.int fin.2)) 54 6 [(0, .ref (ad Γ o)), (4, .int v4)] [] (ug G o r) := by
  intro H locs ls hw hS hl
  unfold bX10_drawn_54 at hf
  obtain ⟨hx, hb, hml, hr, hown, htw, hlocks, hE⟩ := id C
  have hown : s.vm.findClass RX10 = some m.cls := hown
  refine lv_aload_n hx hb dX10_drawn_54 rfl (lv_at hl 0 rfl) ?_
  refine lv_iload hx hb dX10_drawn_55 (lv_at hl 1 rfl) ?_
  obtain ⟨z1, hz1, hf⟩ := bd hf
  refine cl_Vs (rest := []) (kX10_ofState (l := l) (Γ := Γ) (A := A) (G := G) (o := o) hk hz1) ⟨hx, hb, hml, hown, htw⟩ hE hw hS (wo_me hw hk) (q0 := 0) rfl rfl mw1640 mw1642 mw86 mw129 mw1643 pdX10_ofState ⟨Nat.le_of_ble_eq_true rfl, Nat.le_of_ble_eq_true rfl⟩ rfl rfl hl.1 (Nat.le_of_ble_eq_true rfl) dX10_drawn_57 (fun H locs hw hS => ?_)
  obtain rfl := Option.some.inj hf
  subst hq
  exact rt_i C hw hS dX10_drawn_60

noncomputable def bX10_drawn_38 (r : Rec) (v3 : Int32) (v4 : Int32) (v5 : Int32) : Option ((Int32 × Rec) ⊕ (Rec × Int32)) :=
  if v3 ≤ v5 then out1 (bX10_drawn_54 r v4) else (fX10_drawDeed r).bind fun z3 => some (.inl (v5 + 1, z3))
set_option maxRecDepth 100000 in
set_option maxHeartbeats 4000000 in
theorem wX10_drawn_38 {p : Program} {l : Launch} {e : Env} {s : State} {m : MethodId} {args : Array Value} {below : List Frame} {meth : Method} {c : Code} {Γ : Gm} {A : Nat → Prop} {G : Gs} {o : Nat} {r : Rec} {v3 : Int32} {v4 : Int32} {v5 : Int32} {q : ((Int32 × Rec) ⊕ (Rec × Int32))} {fin : Rec × Int32} (C : Cx p s m args meth c yX10_drawn cX10_drawn 6 (some .int) Γ A) (hk : kd Γ o = some 10) (hf : bX10_drawn_38 r v3 v4 v5 = some q) (hq : (KC (fun st : Int32 × Rec => Wk p l e { frames := 5, cells := 0, slots := 0, locals := 112 } s m args below meth c Γ A (ug G o fin.1) (some (.int fin.2)) 38 6 [(0, .ref (ad Γ o)), (3, .int v3), (4, .int v4), (5, .int st.1)] [] (ug G o st.2)) (fun x => x = fin)) q) : Wk p l e { frames := 5, cells := 0, slots := 0, locals := 112 } s m args below meth c Γ A (ug G o fin.1) (some (.int fin.2)) 38 6 [(0, .ref (ad Γ o)), (3, .int v3), (4, .int v4), (5, .int v5)] [] (ug G o r) := by
  intro H locs ls hw hS hl
  unfold bX10_drawn_38 at hf
  obtain ⟨hx, hb, hml, hr, hown, htw, hlocks, hE⟩ := id C
  have hown : s.vm.findClass RX10 = some m.cls := hown
  refine lv_iload hx hb dX10_drawn_38 (lv_at hl 3 rfl) ?_
  refine lv_iload_n hx hb dX10_drawn_40 rfl (lv_at hl 1 rfl) ?_
  refine lv_icmp_ge (tgt := 54) hx hb dX10_drawn_41 (by decide) (fun c4 => ?_) (fun c4 => ?_)
  · have hf := ifp c4 hf
    obtain ⟨q2, hfq2, eq2⟩ := out1_some hf
    subst eq2
    have hf := hfq2
    have hq := hq.2 _ rfl
    exact wX10_drawn_54 C hk hf hq H locs ls hw hS (lv_sub hl [0, 2] rfl)
  · have hf := ifn c4 hf
    refine lv_aload_n hx hb dX10_drawn_44 rfl (lv_at hl 0 rfl) ?_
    obtain ⟨z3, hz3, hf⟩ := bd hf
    refine cl_Vv (rest := []) (kX10_drawDeed (l := l) (Γ := Γ) (A := A) (G := G) (o := o) hk hz3) ⟨hx, hb, hml, hown, htw⟩ hE hw hS (wo_me hw hk) (q0 := 0) rfl rfl mw1806 mw1808 mw113 mw129 mw1809 pdX10_drawDeed ⟨Nat.le_of_ble_eq_true rfl, Nat.le_of_ble_eq_true rfl⟩ rfl rfl hl.1 (Nat.le_of_ble_eq_true rfl) dX10_drawn_45 (fun H locs hw hS => ?_)
    refine lv_iinc (v := v5 + 1) (lv' := [(5, .int (v5 + 1)), (0, .ref (ad Γ o)), (3, .int v3), (4, .int v4)]) hx hb dX10_drawn_48 hl (k := 3) rfl (by rfl) (by decide) rfl (fun ls hl => ?_)
    refine lv_goto (tgt := 38) hx hb dX10_drawn_51 (by decide) ?_
    obtain rfl := Option.some.inj hf
    exact hq.1 _ rfl H locs ls hw hS (lv_sub hl [1, 2, 3, 0] rfl)

set_option maxRecDepth 100000 in
set_option maxHeartbeats 4000000 in
theorem lwX10_drawn_38 {p : Program} {l : Launch} {e : Env} {s : State} {m : MethodId} {args : Array Value} {below : List Frame} {meth : Method} {c : Code} {Γ : Gm} {A : Nat → Prop} {G : Gs} {o : Nat} {r : Rec} {v3 : Int32} {v4 : Int32} {v5 : Int32} {q : (Rec × Int32)} {fin : Rec × Int32} (C : Cx p s m args meth c yX10_drawn cX10_drawn 6 (some .int) Γ A) (hk : kd Γ o = some 10) (hf : iter (fun st : Int32 × Rec => bX10_drawn_38 st.2 v3 v4 st.1) (v5, r) = some q) (hq : (fun x => x = fin) q) : Wk p l e { frames := 5, cells := 0, slots := 0, locals := 112 } s m args below meth c Γ A (ug G o fin.1) (some (.int fin.2)) 38 6 [(0, .ref (ad Γ o)), (3, .int v3), (4, .int v4), (5, .int v5)] [] (ug G o r) := by
  intro H locs ls hw hS hl
  refine iter_walk (P := (fun st : Int32 × Rec => Wk p l e { frames := 5, cells := 0, slots := 0, locals := 112 } s m args below meth c Γ A (ug G o fin.1) (some (.int fin.2)) 38 6 [(0, .ref (ad Γ o)), (3, .int v3), (4, .int v4), (5, .int st.1)] [] (ug G o st.2))) (K := (fun x => x = fin)) (fun st q hq1 h1 h2 => ?_) hf hq H locs ls hw hS hl
  exact wX10_drawn_38 (r := st.2) (v5 := st.1) C hk hq1 ⟨h1, h2⟩

noncomputable def fX10_drawn (r : Rec) (v1 : Int32) (v2 : Int32) (v3 : Int32) (v4 : Int32) : Option (Rec × Int32) :=
  (some (si r 0 0)).bind fun r5 => (fX10_in v3 0 60).bind fun z6 => if z6 = 0 then some ((r5, (-2))) else (fX10_hand r5 v1).bind fun z7 => if z7.2 = 0 then some ((z7.1, (-2))) else (some (si z7.1 45 v2)).bind fun r8 => (fX10_begin r8).bind fun z9 => iter (fun st : Int32 × Rec => bX10_drawn_38 st.2 v3 v4 st.1) (0, z9)
set_option maxRecDepth 100000 in
set_option maxHeartbeats 4000000 in
theorem wX10_drawn_e {p : Program} {l : Launch} {e : Env} {s : State} {m : MethodId} {args : Array Value} {below : List Frame} {meth : Method} {c : Code} {Γ : Gm} {A : Nat → Prop} {G : Gs} {o : Nat} {r : Rec} {v1 : Int32} {v2 : Int32} {v3 : Int32} {v4 : Int32} {q : (Rec × Int32)} {fin : Rec × Int32} (C : Cx p s m args meth c yX10_drawn cX10_drawn 6 (some .int) Γ A) (hk : kd Γ o = some 10) (hf : fX10_drawn r v1 v2 v3 v4 = some q) (hq : (fun x => x = fin) q) : Wk p l e { frames := 5, cells := 0, slots := 0, locals := 112 } s m args below meth c Γ A (ug G o fin.1) (some (.int fin.2)) 0 6 [(0, .ref (ad Γ o)), (1, .int v1), (2, .int v2), (3, .int v3), (4, .int v4)] [] (ug G o r) := by
  intro H locs ls hw hS hl
  unfold fX10_drawn at hf
  obtain ⟨hx, hb, hml, hr, hown, htw, hlocks, hE⟩ := id C
  have hown : s.vm.findClass RX10 = some m.cls := hown
  refine lv_aload_n hx hb dX10_drawn_0 rfl (lv_at hl 0 rfl) ?_
  refine lv_iconst (v := 0) hx hb dX10_drawn_1 (by decide) ?_
  obtain ⟨r5, hr5, hf⟩ := bd hf
  have hr5 := Option.some.inj hr5
  refine wo_put (C := RX10) (T := TX10) (N := 49) (v := .int 0) (ty := .int) hx hb htw uwX10 tyX10 tyX10_ok nmX10 hown hE hw hS hk rfl rfl 0 (by decide) (htw _ mw1243) (fun _ h9 => h9) rfl (tyX10_ok 0 (by decide)) rfl rfl (Nat.le_of_ble_eq_true rfl) (st10_0 hr5) dX10_drawn_2 (fun H locs hw hS => ?_)
  refine lv_iload_n hx hb dX10_drawn_5 rfl (lv_at hl 3 rfl) ?_
  refine lv_iconst (v := 0) hx hb dX10_drawn_6 (by decide) ?_
  refine lv_bipush (v := 60) hx hb dX10_drawn_7 (by decide) ?_
  obtain ⟨z6, hz6, hf⟩ := bd hf
  refine cl_Ss (rest := []) (kX10_in (l := l) (Γ := Γ) (A := A) (G := (ug G o r5)) hz6) ⟨hx, hb, hml, hown, htw⟩ hE hw hS mw1404 mw1405 mw129 mw1406 pdX10_in ⟨Nat.le_of_ble_eq_true rfl, Nat.le_of_ble_eq_true rfl⟩ rfl rfl hl.1 (Nat.le_of_ble_eq_true rfl) dX10_drawn_9 (fun H locs hw hS => ?_)
  refine lv_if_eq (tgt := 23) hx hb dX10_drawn_12 (by decide) (fun c11 => ?_) (fun c11 => ?_)
  · have hf := ifp c11 hf
    refine lv_bipush (v := (-2)) hx hb dX10_drawn_23 (by decide) ?_
    obtain rfl := Option.some.inj hf
    subst hq
    exact rt_i C hw hS dX10_drawn_25
  · have hf := ifn c11 hf
    refine lv_aload_n hx hb dX10_drawn_15 rfl (lv_at hl 0 rfl) ?_
    refine lv_iload_n hx hb dX10_drawn_16 rfl (lv_at hl 1 rfl) ?_
    obtain ⟨z7, hz7, hf⟩ := bd hf
    refine cl_Vs (rest := []) (kX10_hand (l := l) (Γ := Γ) (A := A) (G := G) (o := o) hk hz7) ⟨hx, hb, hml, hown, htw⟩ hE hw hS (wo_me hw hk) (q0 := 0) rfl rfl mw1537 mw1539 mw65 mw129 mw1540 pdX10_hand ⟨Nat.le_of_ble_eq_true rfl, Nat.le_of_ble_eq_true rfl⟩ rfl rfl hl.1 (Nat.le_of_ble_eq_true rfl) dX10_drawn_17 (fun H locs hw hS => ?_)
    refine lv_if_ne (tgt := 26) hx hb dX10_drawn_20 (by decide) (fun c10 => ?_) (fun c10 => ?_)
    · have hf := ifn c10 hf
      refine lv_aload_n hx hb dX10_drawn_26 rfl (lv_at hl 0 rfl) ?_
      refine lv_iload_n hx hb dX10_drawn_27 rfl (lv_at hl 2 rfl) ?_
      obtain ⟨r8, hr8, hf⟩ := bd hf
      have hr8 := Option.some.inj hr8
      refine wo_put (C := RX10) (T := TX10) (N := 49) (v := .int v2) (ty := .int) hx hb htw uwX10 tyX10 tyX10_ok nmX10 hown hE hw hS hk rfl rfl 45 (by decide) (htw _ mw1288) (fun _ h9 => h9) rfl (tyX10_ok 45 (by decide)) rfl rfl (Nat.le_of_ble_eq_true rfl) (st10_45 hr8) dX10_drawn_28 (fun H locs hw hS => ?_)
      refine lv_aload_n hx hb dX10_drawn_31 rfl (lv_at hl 0 rfl) ?_
      obtain ⟨z9, hz9, hf⟩ := bd hf
      refine cl_Vv (rest := []) (kX10_begin (l := l) (Γ := Γ) (A := A) (G := G) (o := o) hk hz9) ⟨hx, hb, hml, hown, htw⟩ hE hw hS (wo_me hw hk) (q0 := 0) rfl rfl mw1596 mw1598 mw76 mw129 mw1599 pdX10_begin ⟨Nat.le_of_ble_eq_true rfl, Nat.le_of_ble_eq_true rfl⟩ rfl rfl hl.1 (Nat.le_of_ble_eq_true rfl) dX10_drawn_32 (fun H locs hw hS => ?_)
      refine lv_iconst (v := 0) hx hb dX10_drawn_35 (by decide) ?_
      refine lv_istore (lv' := [(5, .int 0), (0, .ref (ad Γ o)), (1, .int v1), (2, .int v2), (3, .int v3), (4, .int v4)]) hx hb dX10_drawn_36 hl (by decide) rfl (fun ls hl => ?_)
      exact lwX10_drawn_38 C hk hf hq H locs ls hw hS (lv_sub hl [1, 4, 5, 0] rfl)
    · have hf := ifp c10 hf
      refine lv_bipush (v := (-2)) hx hb dX10_drawn_23 (by decide) ?_
      obtain rfl := Option.some.inj hf
      subst hq
      exact rt_i C hw hS dX10_drawn_25

theorem kX10_drawn {l : Launch} {Γ : Gm} {A : Nat → Prop} {G : Gs} {o : Nat} {r : Rec} {v1 : Int32} {v2 : Int32} {v3 : Int32} {v4 : Int32} {fin : Rec × Int32} (hk : kd Γ o = some 10) (hf : fX10_drawn r v1 v2 v3 v4 = some fin) : Kt l yX10_drawn cX10_drawn 6 (some .int) 5 112 Γ A (ug G o r) (ug G o fin.1) [.ref (ad Γ o), .int v1, .int v2, .int v3, .int v4] (some (.int fin.2)) :=
  kt_of (by decide) (Nat.le_of_ble_eq_true rfl) (fun p e s m args below meth c C => wX10_drawn_e C hk hf rfl)
theorem kgX10_drawn {l : Launch} {Γ : Gm} {A : Nat → Prop} {G : Gs} {o : Nat} {v1 : Int32} {v2 : Int32} {v3 : Int32} {v4 : Int32} {fin : Rec × Int32} (hk : kd Γ o = some 10) (hf : fX10_drawn (G o) v1 v2 v3 v4 = some fin) : Kt l yX10_drawn cX10_drawn 6 (some .int) 5 112 Γ A G (ug G o fin.1) [.ref (ad Γ o), .int v1, .int v2, .int v3, .int v4] (some (.int fin.2)) := by
  have h := kX10_drawn (l := l) (A := A) (G := G) (r := G o) hk hf
  rw [ug_self] at h
  exact h
noncomputable def bX10_lasting_103 (r : Rec) (v4 : Int32) (v5 : Int32) (v6 : Int32) : Option (Rec × Int32) :=
  if v4 = 0 then some ((r, v5)) else some ((r, v6))
set_option maxRecDepth 100000 in
set_option maxHeartbeats 4000000 in
theorem wX10_lasting_103 {p : Program} {l : Launch} {e : Env} {s : State} {m : MethodId} {args : Array Value} {below : List Frame} {meth : Method} {c : Code} {Γ : Gm} {A : Nat → Prop} {G : Gs} {o : Nat} {r : Rec} {v4 : Int32} {v5 : Int32} {v6 : Int32} {q : (Rec × Int32)} {fin : Rec × Int32} (C : Cx p s m args meth c yX10_lasting cX10_lasting 9 (some .int) Γ A) (hk : kd Γ o = some 10) (hf : bX10_lasting_103 r v4 v5 v6 = some q) (hq : (fun x => x = fin) q) : Wk p l e { frames := 3, cells := 0, slots := 0, locals := 66 } s m args below meth c Γ A (ug G o fin.1) (some (.int fin.2)) 103 9 [(4, .int v4), (5, .int v5), (6, .int v6)] [] (ug G o r) := by
  intro H locs ls hw hS hl
  unfold bX10_lasting_103 at hf
  obtain ⟨hx, hb, hml, hr, hown, htw, hlocks, hE⟩ := id C
  have hown : s.vm.findClass RX10 = some m.cls := hown
  refine lv_iload hx hb dX10_lasting_103 (lv_at hl 0 rfl) ?_
  refine lv_if_eq (tgt := 113) hx hb dX10_lasting_105 (by decide) (fun c1 => ?_) (fun c1 => ?_)
  · have hf := ifp c1 hf
    refine lv_iload hx hb dX10_lasting_113 (lv_at hl 1 rfl) ?_
    obtain rfl := Option.some.inj hf
    subst hq
    exact rt_i C hw hS dX10_lasting_115
  · have hf := ifn c1 hf
    refine lv_iload hx hb dX10_lasting_108 (lv_at hl 2 rfl) ?_
    refine lv_goto (tgt := 115) hx hb dX10_lasting_110 (by decide) ?_
    obtain rfl := Option.some.inj hf
    subst hq
    exact rt_i C hw hS dX10_lasting_115

noncomputable def bX10_lasting_86 (r : Rec) (v2 : Int32) (v3 : Int32) (v4 : Int32) (v6 : Int32) (v7 : Int32) (v8 : Int32) (s0 : Int32) : Option ((Int32 × Int32 × Int32) ⊕ (Rec × Int32)) :=
  (fX10_greater v6 v8).bind fun z2 => some (.inl (s0, z2, v7 + 1))
set_option maxRecDepth 100000 in
set_option maxHeartbeats 4000000 in
theorem wX10_lasting_86 {p : Program} {l : Launch} {e : Env} {s : State} {m : MethodId} {args : Array Value} {below : List Frame} {meth : Method} {c : Code} {Γ : Gm} {A : Nat → Prop} {G : Gs} {o : Nat} {r : Rec} {v2 : Int32} {v3 : Int32} {v4 : Int32} {v6 : Int32} {v7 : Int32} {v8 : Int32} {s0 : Int32} {q : ((Int32 × Int32 × Int32) ⊕ (Rec × Int32))} {fin : Rec × Int32} (C : Cx p s m args meth c yX10_lasting cX10_lasting 9 (some .int) Γ A) (hk : kd Γ o = some 10) (hf : bX10_lasting_86 r v2 v3 v4 v6 v7 v8 s0 = some q) (hq : (KC (fun st : Int32 × Int32 × Int32 => Wk p l e { frames := 3, cells := 0, slots := 0, locals := 66 } s m args below meth c Γ A (ug G o fin.1) (some (.int fin.2)) 42 9 [(0, .ref (ad Γ o)), (2, .int v2), (3, .int v3), (4, .int v4), (5, .int st.1), (6, .int st.2.1), (7, .int st.2.2)] [] (ug G o r)) (fun x => x = fin)) q) : Wk p l e { frames := 3, cells := 0, slots := 0, locals := 66 } s m args below meth c Γ A (ug G o fin.1) (some (.int fin.2)) 86 9 [(0, .ref (ad Γ o)), (2, .int v2), (3, .int v3), (4, .int v4), (6, .int v6), (7, .int v7), (8, .int v8)] [.int s0] (ug G o r) := by
  intro H locs ls hw hS hl
  unfold bX10_lasting_86 at hf
  obtain ⟨hx, hb, hml, hr, hown, htw, hlocks, hE⟩ := id C
  have hown : s.vm.findClass RX10 = some m.cls := hown
  refine lv_istore (lv' := [(5, .int s0), (0, .ref (ad Γ o)), (2, .int v2), (3, .int v3), (4, .int v4), (6, .int v6), (7, .int v7), (8, .int v8)]) hx hb dX10_lasting_86 hl (by decide) rfl (fun ls hl => ?_)
  refine lv_iload hx hb dX10_lasting_88 (lv_at hl 5 rfl) ?_
  refine lv_iload hx hb dX10_lasting_90 (lv_at hl 7 rfl) ?_
  obtain ⟨z2, hz2, hf⟩ := bd hf
  refine cl_Ss (rest := []) (kX10_greater (l := l) (Γ := Γ) (A := A) (G := (ug G o r)) hz2) ⟨hx, hb, hml, hown, htw⟩ hE hw hS mw1467 mw1468 mw129 mw1469 pdX10_greater ⟨Nat.le_of_ble_eq_true rfl, Nat.le_of_ble_eq_true rfl⟩ rfl rfl hl.1 (Nat.le_of_ble_eq_true rfl) dX10_lasting_92 (fun H locs hw hS => ?_)
  refine lv_istore (lv' := [(6, .int z2), (5, .int s0), (0, .ref (ad Γ o)), (2, .int v2), (3, .int v3), (4, .int v4), (7, .int v7), (8, .int v8)]) hx hb dX10_lasting_95 hl (by decide) rfl (fun ls hl => ?_)
  refine lv_iinc (v := v7 + 1) (lv' := [(7, .int (v7 + 1)), (6, .int z2), (5, .int s0), (0, .ref (ad Γ o)), (2, .int v2), (3, .int v3), (4, .int v4), (8, .int v8)]) hx hb dX10_lasting_97 hl (k := 6) rfl (by rfl) (by decide) rfl (fun ls hl => ?_)
  refine lv_goto (tgt := 42) hx hb dX10_lasting_100 (by decide) ?_
  obtain rfl := Option.some.inj hf
  exact hq.1 _ rfl H locs ls hw hS (lv_sub hl [3, 4, 5, 6, 2, 1, 0] rfl)

noncomputable def bX10_lasting_42 (r : Rec) (v2 : Int32) (v3 : Int32) (v4 : Int32) (v5 : Int32) (v6 : Int32) (v7 : Int32) : Option ((Int32 × Int32 × Int32) ⊕ (Rec × Int32)) :=
  if (gi r 27) ≤ v7 then out1 (bX10_lasting_103 r v4 v5 v6) else (fX10_worthNow r v7 v2).bind fun z4 => (fX10_wear r v2).bind fun z5 => (fX10_greater 0 (z4 - (z5 * v3))).bind fun z6 => if z6 ≤ v6 then bX10_lasting_86 r v2 v3 v4 v6 v7 z6 v5 else bX10_lasting_86 r v2 v3 v4 v6 v7 z6 v7
set_option maxRecDepth 100000 in
set_option maxHeartbeats 4000000 in
theorem wX10_lasting_42 {p : Program} {l : Launch} {e : Env} {s : State} {m : MethodId} {args : Array Value} {below : List Frame} {meth : Method} {c : Code} {Γ : Gm} {A : Nat → Prop} {G : Gs} {o : Nat} {r : Rec} {v2 : Int32} {v3 : Int32} {v4 : Int32} {v5 : Int32} {v6 : Int32} {v7 : Int32} {q : ((Int32 × Int32 × Int32) ⊕ (Rec × Int32))} {fin : Rec × Int32} (C : Cx p s m args meth c yX10_lasting cX10_lasting 9 (some .int) Γ A) (hk : kd Γ o = some 10) (hf : bX10_lasting_42 r v2 v3 v4 v5 v6 v7 = some q) (hq : (KC (fun st : Int32 × Int32 × Int32 => Wk p l e { frames := 3, cells := 0, slots := 0, locals := 66 } s m args below meth c Γ A (ug G o fin.1) (some (.int fin.2)) 42 9 [(0, .ref (ad Γ o)), (2, .int v2), (3, .int v3), (4, .int v4), (5, .int st.1), (6, .int st.2.1), (7, .int st.2.2)] [] (ug G o r)) (fun x => x = fin)) q) : Wk p l e { frames := 3, cells := 0, slots := 0, locals := 66 } s m args below meth c Γ A (ug G o fin.1) (some (.int fin.2)) 42 9 [(0, .ref (ad Γ o)), (2, .int v2), (3, .int v3), (4, .int v4), (5, .int v5), (6, .int v6), (7, .int v7)] [] (ug G o r) := by
  intro H locs ls hw hS hl
  unfold bX10_lasting_42 at hf
  obtain ⟨hx, hb, hml, hr, hown, htw, hlocks, hE⟩ := id C
  have hown : s.vm.findClass RX10 = some m.cls := hown
  refine lv_iload hx hb dX10_lasting_42 (lv_at hl 6 rfl) ?_
  refine lv_aload_n hx hb dX10_lasting_44 rfl (lv_at hl 0 rfl) ?_
  refine va_get (ci := 10) (v := .int (gi r 27)) (C := RX10) (T := TX10) (N := 49) hx hb htw uwX10 hown hE.1 (wo_me hw hk) 0 rfl rfl 27 (by decide) (htw _ mw1270) (fun _ h9 => h9) rfl dX10_lasting_45 ?_
  refine lv_icmp_ge (tgt := 103) hx hb dX10_lasting_48 (by decide) (fun c8 => ?_) (fun c8 => ?_)
  · have hf := ifp c8 hf
    obtain ⟨q3, hfq3, eq3⟩ := out1_some hf
    subst eq3
    have hf := hfq3
    have hq := hq.2 _ rfl
    exact wX10_lasting_103 C hk hf hq H locs ls hw hS (lv_sub hl [3, 4, 5] rfl)
  · have hf := ifn c8 hf
    refine lv_iconst (v := 0) hx hb dX10_lasting_51 (by decide) ?_
    refine lv_aload_n hx hb dX10_lasting_52 rfl (lv_at hl 0 rfl) ?_
    refine lv_iload hx hb dX10_lasting_53 (lv_at hl 6 rfl) ?_
    refine lv_iload_n hx hb dX10_lasting_55 rfl (lv_at hl 1 rfl) ?_
    obtain ⟨z4, hz4, hf⟩ := bd hf
    refine cl_Vs (rest := [.int 0]) (kX10_worthNow (l := l) (Γ := Γ) (A := A) (G := G) (o := o) hk hz4) ⟨hx, hb, hml, hown, htw⟩ hE hw hS (wo_me hw hk) (q0 := 0) rfl rfl mw1557 mw1559 mw69 mw129 mw1560 pdX10_worthNow ⟨Nat.le_of_ble_eq_true rfl, Nat.le_of_ble_eq_true rfl⟩ rfl rfl hl.1 (Nat.le_of_ble_eq_true rfl) dX10_lasting_56 (fun H locs hw hS => ?_)
    refine lv_aload_n hx hb dX10_lasting_59 rfl (lv_at hl 0 rfl) ?_
    refine lv_iload_n hx hb dX10_lasting_60 rfl (lv_at hl 1 rfl) ?_
    obtain ⟨z5, hz5, hf⟩ := bd hf
    refine cl_Vs (rest := [.int z4, .int 0]) (kX10_wear (l := l) (Γ := Γ) (A := A) (G := G) (o := o) hk hz5) ⟨hx, hb, hml, hown, htw⟩ hE hw hS (wo_me hw hk) (q0 := 0) rfl rfl mw1628 mw1630 mw84 mw129 mw1631 pdX10_wear ⟨Nat.le_of_ble_eq_true rfl, Nat.le_of_ble_eq_true rfl⟩ rfl rfl hl.1 (Nat.le_of_ble_eq_true rfl) dX10_lasting_61 (fun H locs hw hS => ?_)
    refine lv_iload_n hx hb dX10_lasting_64 rfl (lv_at hl 2 rfl) ?_
    refine lv_imul hx hb dX10_lasting_65 ?_
    refine lv_isub hx hb dX10_lasting_66 ?_
    obtain ⟨z6, hz6, hf⟩ := bd hf
    refine cl_Ss (rest := []) (kX10_greater (l := l) (Γ := Γ) (A := A) (G := (ug G o r)) hz6) ⟨hx, hb, hml, hown, htw⟩ hE hw hS mw1467 mw1468 mw129 mw1469 pdX10_greater ⟨Nat.le_of_ble_eq_true rfl, Nat.le_of_ble_eq_true rfl⟩ rfl rfl hl.1 (Nat.le_of_ble_eq_true rfl) dX10_lasting_67 (fun H locs hw hS => ?_)
    refine lv_istore (lv' := [(8, .int z6), (0, .ref (ad Γ o)), (2, .int v2), (3, .int v3), (4, .int v4), (5, .int v5), (6, .int v6), (7, .int v7)]) hx hb dX10_lasting_70 hl (by decide) rfl (fun ls hl => ?_)
    refine lv_iload hx hb dX10_lasting_72 (lv_at hl 0 rfl) ?_
    refine lv_iload hx hb dX10_lasting_74 (lv_at hl 6 rfl) ?_
    refine lv_icmp_le (tgt := 84) hx hb dX10_lasting_76 (by decide) (fun c7 => ?_) (fun c7 => ?_)
    · have hf := ifp c7 hf
      refine lv_iload hx hb dX10_lasting_84 (lv_at hl 5 rfl) ?_
      exact wX10_lasting_86 C hk hf hq H locs ls hw hS (lv_sub hl [1, 2, 3, 4, 6, 7, 0] rfl)
    · have hf := ifn c7 hf
      refine lv_iload hx hb dX10_lasting_79 (lv_at hl 7 rfl) ?_
      refine lv_goto (tgt := 86) hx hb dX10_lasting_81 (by decide) ?_
      exact wX10_lasting_86 C hk hf hq H locs ls hw hS (lv_sub hl [1, 2, 3, 4, 6, 7, 0] rfl)

set_option maxRecDepth 100000 in
set_option maxHeartbeats 4000000 in
theorem lwX10_lasting_42 {p : Program} {l : Launch} {e : Env} {s : State} {m : MethodId} {args : Array Value} {below : List Frame} {meth : Method} {c : Code} {Γ : Gm} {A : Nat → Prop} {G : Gs} {o : Nat} {r : Rec} {v2 : Int32} {v3 : Int32} {v4 : Int32} {v5 : Int32} {v6 : Int32} {v7 : Int32} {q : (Rec × Int32)} {fin : Rec × Int32} (C : Cx p s m args meth c yX10_lasting cX10_lasting 9 (some .int) Γ A) (hk : kd Γ o = some 10) (hf : iter (fun st : Int32 × Int32 × Int32 => bX10_lasting_42 r v2 v3 v4 st.1 st.2.1 st.2.2) (v5, v6, v7) = some q) (hq : (fun x => x = fin) q) : Wk p l e { frames := 3, cells := 0, slots := 0, locals := 66 } s m args below meth c Γ A (ug G o fin.1) (some (.int fin.2)) 42 9 [(0, .ref (ad Γ o)), (2, .int v2), (3, .int v3), (4, .int v4), (5, .int v5), (6, .int v6), (7, .int v7)] [] (ug G o r) := by
  intro H locs ls hw hS hl
  refine iter_walk (P := (fun st : Int32 × Int32 × Int32 => Wk p l e { frames := 3, cells := 0, slots := 0, locals := 66 } s m args below meth c Γ A (ug G o fin.1) (some (.int fin.2)) 42 9 [(0, .ref (ad Γ o)), (2, .int v2), (3, .int v3), (4, .int v4), (5, .int st.1), (6, .int st.2.1), (7, .int st.2.2)] [] (ug G o r))) (K := (fun x => x = fin)) (fun st q hq1 h1 h2 => ?_) hf hq H locs ls hw hS hl
  exact wX10_lasting_42 (v5 := st.1) (v6 := st.2.1) (v7 := st.2.2) C hk hq1 ⟨h1, h2⟩

noncomputable def fX10_lasting (r : Rec) (v1 : Int32) (v2 : Int32) (v3 : Int32) (v4 : Int32) : Option (Rec × Int32) :=
  (some (si r 0 0)).bind fun r9 => (fX10_in v3 0 60).bind fun z10 => if z10 = 0 then some ((r9, (-1))) else (fX10_hand r9 v1).bind fun z11 => if z11.2 = 0 then some ((z11.1, (-1))) else (fX10_isPiece z11.1 v2).bind fun z12 => if z12 = 0 then some ((z11.1, (-1))) else iter (fun st : Int32 × Int32 × Int32 => bX10_lasting_42 z11.1 v2 v3 v4 st.1 st.2.1 st.2.2) ((-1), (-1), 0)
set_option maxRecDepth 100000 in
set_option maxHeartbeats 4000000 in
theorem wX10_lasting_e {p : Program} {l : Launch} {e : Env} {s : State} {m : MethodId} {args : Array Value} {below : List Frame} {meth : Method} {c : Code} {Γ : Gm} {A : Nat → Prop} {G : Gs} {o : Nat} {r : Rec} {v1 : Int32} {v2 : Int32} {v3 : Int32} {v4 : Int32} {q : (Rec × Int32)} {fin : Rec × Int32} (C : Cx p s m args meth c yX10_lasting cX10_lasting 9 (some .int) Γ A) (hk : kd Γ o = some 10) (hf : fX10_lasting r v1 v2 v3 v4 = some q) (hq : (fun x => x = fin) q) : Wk p l e { frames := 3, cells := 0, slots := 0, locals := 66 } s m args below meth c Γ A (ug G o fin.1) (some (.int fin.2)) 0 9 [(0, .ref (ad Γ o)), (1, .int v1), (2, .int v2), (3, .int v3), (4, .int v4)] [] (ug G o r) := by
  intro H locs ls hw hS hl
  unfold fX10_lasting at hf
  obtain ⟨hx, hb, hml, hr, hown, htw, hlocks, hE⟩ := id C
  have hown : s.vm.findClass RX10 = some m.cls := hown
  refine lv_aload_n hx hb dX10_lasting_0 rfl (lv_at hl 0 rfl) ?_
  refine lv_iconst (v := 0) hx hb dX10_lasting_1 (by decide) ?_
  obtain ⟨r9, hr9, hf⟩ := bd hf
  have hr9 := Option.some.inj hr9
  refine wo_put (C := RX10) (T := TX10) (N := 49) (v := .int 0) (ty := .int) hx hb htw uwX10 tyX10 tyX10_ok nmX10 hown hE hw hS hk rfl rfl 0 (by decide) (htw _ mw1243) (fun _ h9 => h9) rfl (tyX10_ok 0 (by decide)) rfl rfl (Nat.le_of_ble_eq_true rfl) (st10_0 hr9) dX10_lasting_2 (fun H locs hw hS => ?_)
  refine lv_iload_n hx hb dX10_lasting_5 rfl (lv_at hl 3 rfl) ?_
  refine lv_iconst (v := 0) hx hb dX10_lasting_6 (by decide) ?_
  refine lv_bipush (v := 60) hx hb dX10_lasting_7 (by decide) ?_
  obtain ⟨z10, hz10, hf⟩ := bd hf
  refine cl_Ss (rest := []) (kX10_in (l := l) (Γ := Γ) (A := A) (G := (ug G o r9)) hz10) ⟨hx, hb, hml, hown, htw⟩ hE hw hS mw1404 mw1405 mw129 mw1406 pdX10_in ⟨Nat.le_of_ble_eq_true rfl, Nat.le_of_ble_eq_true rfl⟩ rfl rfl hl.1 (Nat.le_of_ble_eq_true rfl) dX10_lasting_9 (fun H locs hw hS => ?_)
  refine lv_if_eq (tgt := 31) hx hb dX10_lasting_12 (by decide) (fun c15 => ?_) (fun c15 => ?_)
  · have hf := ifp c15 hf
    refine lv_iconst (v := (-1)) hx hb dX10_lasting_31 (by decide) ?_
    obtain rfl := Option.some.inj hf
    subst hq
    exact rt_i C hw hS dX10_lasting_32
  · have hf := ifn c15 hf
    refine lv_aload_n hx hb dX10_lasting_15 rfl (lv_at hl 0 rfl) ?_
    refine lv_iload_n hx hb dX10_lasting_16 rfl (lv_at hl 1 rfl) ?_
    obtain ⟨z11, hz11, hf⟩ := bd hf
    refine cl_Vs (rest := []) (kX10_hand (l := l) (Γ := Γ) (A := A) (G := G) (o := o) hk hz11) ⟨hx, hb, hml, hown, htw⟩ hE hw hS (wo_me hw hk) (q0 := 0) rfl rfl mw1537 mw1539 mw65 mw129 mw1540 pdX10_hand ⟨Nat.le_of_ble_eq_true rfl, Nat.le_of_ble_eq_true rfl⟩ rfl rfl hl.1 (Nat.le_of_ble_eq_true rfl) dX10_lasting_17 (fun H locs hw hS => ?_)
    refine lv_if_eq (tgt := 31) hx hb dX10_lasting_20 (by decide) (fun c14 => ?_) (fun c14 => ?_)
    · have hf := ifp c14 hf
      refine lv_iconst (v := (-1)) hx hb dX10_lasting_31 (by decide) ?_
      obtain rfl := Option.some.inj hf
      subst hq
      exact rt_i C hw hS dX10_lasting_32
    · have hf := ifn c14 hf
      refine lv_aload_n hx hb dX10_lasting_23 rfl (lv_at hl 0 rfl) ?_
      refine lv_iload_n hx hb dX10_lasting_24 rfl (lv_at hl 2 rfl) ?_
      obtain ⟨z12, hz12, hf⟩ := bd hf
      refine cl_Vs (rest := []) (kX10_isPiece (l := l) (Γ := Γ) (A := A) (G := G) (o := o) hk hz12) ⟨hx, hb, hml, hown, htw⟩ hE hw hS (wo_me hw hk) (q0 := 0) rfl rfl mw1553 mw1555 mw68 mw129 mw1556 pdX10_isPiece ⟨Nat.le_of_ble_eq_true rfl, Nat.le_of_ble_eq_true rfl⟩ rfl rfl hl.1 (Nat.le_of_ble_eq_true rfl) dX10_lasting_25 (fun H locs hw hS => ?_)
      refine lv_if_ne (tgt := 33) hx hb dX10_lasting_28 (by decide) (fun c13 => ?_) (fun c13 => ?_)
      · have hf := ifn c13 hf
        refine lv_iconst (v := (-1)) hx hb dX10_lasting_33 (by decide) ?_
        refine lv_istore (lv' := [(5, .int (-1)), (0, .ref (ad Γ o)), (1, .int v1), (2, .int v2), (3, .int v3), (4, .int v4)]) hx hb dX10_lasting_34 hl (by decide) rfl (fun ls hl => ?_)
        refine lv_iconst (v := (-1)) hx hb dX10_lasting_36 (by decide) ?_
        refine lv_istore (lv' := [(6, .int (-1)), (5, .int (-1)), (0, .ref (ad Γ o)), (1, .int v1), (2, .int v2), (3, .int v3), (4, .int v4)]) hx hb dX10_lasting_37 hl (by decide) rfl (fun ls hl => ?_)
        refine lv_iconst (v := 0) hx hb dX10_lasting_39 (by decide) ?_
        refine lv_istore (lv' := [(7, .int 0), (6, .int (-1)), (5, .int (-1)), (0, .ref (ad Γ o)), (1, .int v1), (2, .int v2), (3, .int v3), (4, .int v4)]) hx hb dX10_lasting_40 hl (by decide) rfl (fun ls hl => ?_)
        exact lwX10_lasting_42 C hk hf hq H locs ls hw hS (lv_sub hl [3, 5, 6, 7, 2, 1, 0] rfl)
      · have hf := ifp c13 hf
        refine lv_iconst (v := (-1)) hx hb dX10_lasting_31 (by decide) ?_
        obtain rfl := Option.some.inj hf
        subst hq
        exact rt_i C hw hS dX10_lasting_32

theorem kX10_lasting {l : Launch} {Γ : Gm} {A : Nat → Prop} {G : Gs} {o : Nat} {r : Rec} {v1 : Int32} {v2 : Int32} {v3 : Int32} {v4 : Int32} {fin : Rec × Int32} (hk : kd Γ o = some 10) (hf : fX10_lasting r v1 v2 v3 v4 = some fin) : Kt l yX10_lasting cX10_lasting 9 (some .int) 3 66 Γ A (ug G o r) (ug G o fin.1) [.ref (ad Γ o), .int v1, .int v2, .int v3, .int v4] (some (.int fin.2)) :=
  kt_of (by decide) (Nat.le_of_ble_eq_true rfl) (fun p e s m args below meth c C => wX10_lasting_e C hk hf rfl)
theorem kgX10_lasting {l : Launch} {Γ : Gm} {A : Nat → Prop} {G : Gs} {o : Nat} {v1 : Int32} {v2 : Int32} {v3 : Int32} {v4 : Int32} {fin : Rec × Int32} (hk : kd Γ o = some 10) (hf : fX10_lasting (G o) v1 v2 v3 v4 = some fin) : Kt l yX10_lasting cX10_lasting 9 (some .int) 3 66 Γ A G (ug G o fin.1) [.ref (ad Γ o), .int v1, .int v2, .int v3, .int v4] (some (.int fin.2)) := by
  have h := kX10_lasting (l := l) (A := A) (G := G) (r := G o) hk hf
  rw [ug_self] at h
  exact h
noncomputable def bX10_lit_122 (r : Rec) (v2 : Int32) (v3 : Int32) (v4 : Int32) (v5 : Int32) : Option ((Int32 × Int32) ⊕ (Rec × Int32)) :=
  some (.inl (v3 + v5, v4 + 1))
set_option maxRecDepth 100000 in
set_option maxHeartbeats 4000000 in
theorem wX10_lit_122 {p : Program} {l : Launch} {e : Env} {s : State} {m : MethodId} {args : Array Value} {below : List Frame} {meth : Method} {c : Code} {Γ : Gm} {A : Nat → Prop} {G : Gs} {o : Nat} {r : Rec} {v2 : Int32} {v3 : Int32} {v4 : Int32} {v5 : Int32} {q : ((Int32 × Int32) ⊕ (Rec × Int32))} {fin : Rec × Int32} (C : Cx p s m args meth c yX10_lit cX10_lit 9 (some .int) Γ A) (hk : kd Γ o = some 10) (hf : bX10_lit_122 r v2 v3 v4 v5 = some q) (hq : (KC (fun st : Int32 × Int32 => Wk p l e { frames := 3, cells := 0, slots := 0, locals := 66 } s m args below meth c Γ A (ug G o fin.1) (some (.int fin.2)) 30 9 [(0, .ref (ad Γ o)), (2, .int v2), (3, .int st.1), (4, .int st.2)] [] (ug G o r)) (fun x => x = fin)) q) : Wk p l e { frames := 3, cells := 0, slots := 0, locals := 66 } s m args below meth c Γ A (ug G o fin.1) (some (.int fin.2)) 122 9 [(0, .ref (ad Γ o)), (2, .int v2), (3, .int v3), (4, .int v4), (5, .int v5)] [] (ug G o r) := by
  intro H locs ls hw hS hl
  unfold bX10_lit_122 at hf
  obtain ⟨hx, hb, hml, hr, hown, htw, hlocks, hE⟩ := id C
  have hown : s.vm.findClass RX10 = some m.cls := hown
  refine lv_iload_n hx hb dX10_lit_122 rfl (lv_at hl 2 rfl) ?_
  refine lv_iload hx hb dX10_lit_123 (lv_at hl 4 rfl) ?_
  refine lv_iadd hx hb dX10_lit_125 ?_
  refine lv_istore_n (lv' := [(3, .int (v3 + v5)), (0, .ref (ad Γ o)), (2, .int v2), (4, .int v4), (5, .int v5)]) hx hb dX10_lit_126 rfl hl (by decide) rfl (fun ls hl => ?_)
  refine lv_iinc (v := v4 + 1) (lv' := [(4, .int (v4 + 1)), (3, .int (v3 + v5)), (0, .ref (ad Γ o)), (2, .int v2), (5, .int v5)]) hx hb dX10_lit_127 hl (k := 3) rfl (by rfl) (by decide) rfl (fun ls hl => ?_)
  refine lv_goto (tgt := 30) hx hb dX10_lit_130 (by decide) ?_
  obtain rfl := Option.some.inj hf
  exact hq.1 _ rfl H locs ls hw hS (lv_sub hl [2, 3, 1, 0] rfl)

noncomputable def bX10_lit_105 (r : Rec) (v2 : Int32) (v3 : Int32) (v4 : Int32) (v5 : Int32) (v6 : Int32) (s0 : Int32) : Option ((Int32 × Int32) ⊕ ((Int32 × Int32) ⊕ (Rec × Int32))) :=
  (fX10_greater v5 s0).bind fun z1 => some (.inl (z1, v6 + 1))
set_option maxRecDepth 100000 in
set_option maxHeartbeats 4000000 in
theorem wX10_lit_105 {p : Program} {l : Launch} {e : Env} {s : State} {m : MethodId} {args : Array Value} {below : List Frame} {meth : Method} {c : Code} {Γ : Gm} {A : Nat → Prop} {G : Gs} {o : Nat} {r : Rec} {v2 : Int32} {v3 : Int32} {v4 : Int32} {v5 : Int32} {v6 : Int32} {s0 : Int32} {q : ((Int32 × Int32) ⊕ ((Int32 × Int32) ⊕ (Rec × Int32)))} {fin : Rec × Int32} (C : Cx p s m args meth c yX10_lit cX10_lit 9 (some .int) Γ A) (hk : kd Γ o = some 10) (hf : bX10_lit_105 r v2 v3 v4 v5 v6 s0 = some q) (hq : (KC (fun st : Int32 × Int32 => Wk p l e { frames := 3, cells := 0, slots := 0, locals := 66 } s m args below meth c Γ A (ug G o fin.1) (some (.int fin.2)) 45 9 [(0, .ref (ad Γ o)), (2, .int v2), (3, .int v3), (4, .int v4), (5, .int st.1), (6, .int st.2)] [] (ug G o r)) (KC (fun st : Int32 × Int32 => Wk p l e { frames := 3, cells := 0, slots := 0, locals := 66 } s m args below meth c Γ A (ug G o fin.1) (some (.int fin.2)) 30 9 [(0, .ref (ad Γ o)), (2, .int v2), (3, .int st.1), (4, .int st.2)] [] (ug G o r)) (fun x => x = fin))) q) : Wk p l e { frames := 3, cells := 0, slots := 0, locals := 66 } s m args below meth c Γ A (ug G o fin.1) (some (.int fin.2)) 105 9 [(0, .ref (ad Γ o)), (2, .int v2), (3, .int v3), (4, .int v4), (5, .int v5), (6, .int v6)] [.int s0] (ug G o r) := by
  intro H locs ls hw hS hl
  unfold bX10_lit_105 at hf
  obtain ⟨hx, hb, hml, hr, hown, htw, hlocks, hE⟩ := id C
  have hown : s.vm.findClass RX10 = some m.cls := hown
  refine lv_istore (lv' := [(8, .int s0), (0, .ref (ad Γ o)), (2, .int v2), (3, .int v3), (4, .int v4), (5, .int v5), (6, .int v6)]) hx hb dX10_lit_105 hl (by decide) rfl (fun ls hl => ?_)
  refine lv_iload hx hb dX10_lit_107 (lv_at hl 5 rfl) ?_
  refine lv_iload hx hb dX10_lit_109 (lv_at hl 0 rfl) ?_
  obtain ⟨z1, hz1, hf⟩ := bd hf
  refine cl_Ss (rest := []) (kX10_greater (l := l) (Γ := Γ) (A := A) (G := (ug G o r)) hz1) ⟨hx, hb, hml, hown, htw⟩ hE hw hS mw1467 mw1468 mw129 mw1469 pdX10_greater ⟨Nat.le_of_ble_eq_true rfl, Nat.le_of_ble_eq_true rfl⟩ rfl rfl hl.1 (Nat.le_of_ble_eq_true rfl) dX10_lit_111 (fun H locs hw hS => ?_)
  refine lv_istore (lv' := [(5, .int z1), (8, .int s0), (0, .ref (ad Γ o)), (2, .int v2), (3, .int v3), (4, .int v4), (6, .int v6)]) hx hb dX10_lit_114 hl (by decide) rfl (fun ls hl => ?_)
  refine lv_iinc (v := v6 + 1) (lv' := [(6, .int (v6 + 1)), (5, .int z1), (8, .int s0), (0, .ref (ad Γ o)), (2, .int v2), (3, .int v3), (4, .int v4)]) hx hb dX10_lit_116 hl (k := 6) rfl (by rfl) (by decide) rfl (fun ls hl => ?_)
  refine lv_goto (tgt := 45) hx hb dX10_lit_119 (by decide) ?_
  obtain rfl := Option.some.inj hf
  exact hq.1 _ rfl H locs ls hw hS (lv_sub hl [3, 4, 5, 6, 1, 0] rfl)

noncomputable def bX10_lit_45 (r : Rec) (v2 : Int32) (v3 : Int32) (v4 : Int32) (v5 : Int32) (v6 : Int32) : Option ((Int32 × Int32) ⊕ ((Int32 × Int32) ⊕ (Rec × Int32))) :=
  if (gi r 26) ≤ v6 then out1 (bX10_lit_122 r v2 v3 v4 v5) else (fX10_worthNow r v4 v6).bind fun z3 => if 0 ≤ (z3 - v2) then (fX10_wear r v6).bind fun z4 => if z4 = 0 then bX10_lit_105 r v2 v3 v4 v5 v6 60 else (fX10_wear r v6).bind fun z5 => gd (nz z5) ((fX10_lesser 60 (((z3 - v2) / z5) + 1)).bind fun z7 => bX10_lit_105 r v2 v3 v4 v5 v6 z7) else bX10_lit_105 r v2 v3 v4 v5 v6 0
set_option maxRecDepth 100000 in
set_option maxHeartbeats 4000000 in
theorem wX10_lit_45 {p : Program} {l : Launch} {e : Env} {s : State} {m : MethodId} {args : Array Value} {below : List Frame} {meth : Method} {c : Code} {Γ : Gm} {A : Nat → Prop} {G : Gs} {o : Nat} {r : Rec} {v2 : Int32} {v3 : Int32} {v4 : Int32} {v5 : Int32} {v6 : Int32} {q : ((Int32 × Int32) ⊕ ((Int32 × Int32) ⊕ (Rec × Int32)))} {fin : Rec × Int32} (C : Cx p s m args meth c yX10_lit cX10_lit 9 (some .int) Γ A) (hk : kd Γ o = some 10) (hf : bX10_lit_45 r v2 v3 v4 v5 v6 = some q) (hq : (KC (fun st : Int32 × Int32 => Wk p l e { frames := 3, cells := 0, slots := 0, locals := 66 } s m args below meth c Γ A (ug G o fin.1) (some (.int fin.2)) 45 9 [(0, .ref (ad Γ o)), (2, .int v2), (3, .int v3), (4, .int v4), (5, .int st.1), (6, .int st.2)] [] (ug G o r)) (KC (fun st : Int32 × Int32 => Wk p l e { frames := 3, cells := 0, slots := 0, locals := 66 } s m args below meth c Γ A (ug G o fin.1) (some (.int fin.2)) 30 9 [(0, .ref (ad Γ o)), (2, .int v2), (3, .int st.1), (4, .int st.2)] [] (ug G o r)) (fun x => x = fin))) q) : Wk p l e { frames := 3, cells := 0, slots := 0, locals := 66 } s m args below meth c Γ A (ug G o fin.1) (some (.int fin.2)) 45 9 [(0, .ref (ad Γ o)), (2, .int v2), (3, .int v3), (4, .int v4), (5, .int v5), (6, .int v6)] [] (ug G o r) := by
  intro H locs ls hw hS hl
  unfold bX10_lit_45 at hf
  obtain ⟨hx, hb, hml, hr, hown, htw, hlocks, hE⟩ := id C
  have hown : s.vm.findClass RX10 = some m.cls := hown
  refine lv_iload hx hb dX10_lit_45 (lv_at hl 5 rfl) ?_
  refine lv_aload_n hx hb dX10_lit_47 rfl (lv_at hl 0 rfl) ?_
  refine va_get (ci := 10) (v := .int (gi r 26)) (C := RX10) (T := TX10) (N := 49) hx hb htw uwX10 hown hE.1 (wo_me hw hk) 0 rfl rfl 26 (by decide) (htw _ mw1269) (fun _ h9 => h9) rfl dX10_lit_48 ?_
  refine lv_icmp_ge (tgt := 122) hx hb dX10_lit_51 (by decide) (fun c10 => ?_) (fun c10 => ?_)
  · have hf := ifp c10 hf
    obtain ⟨q2, hfq2, eq2⟩ := out1_some hf
    subst eq2
    have hf := hfq2
    have hq := hq.2 _ rfl
    exact wX10_lit_122 C hk hf hq H locs ls hw hS (lv_sub hl [0, 1, 2, 3, 4] rfl)
  · have hf := ifn c10 hf
    refine lv_aload_n hx hb dX10_lit_54 rfl (lv_at hl 0 rfl) ?_
    refine lv_iload hx hb dX10_lit_55 (lv_at hl 3 rfl) ?_
    refine lv_iload hx hb dX10_lit_57 (lv_at hl 5 rfl) ?_
    obtain ⟨z3, hz3, hf⟩ := bd hf
    refine cl_Vs (rest := []) (kX10_worthNow (l := l) (Γ := Γ) (A := A) (G := G) (o := o) hk hz3) ⟨hx, hb, hml, hown, htw⟩ hE hw hS (wo_me hw hk) (q0 := 0) rfl rfl mw1557 mw1559 mw69 mw129 mw1560 pdX10_worthNow ⟨Nat.le_of_ble_eq_true rfl, Nat.le_of_ble_eq_true rfl⟩ rfl rfl hl.1 (Nat.le_of_ble_eq_true rfl) dX10_lit_59 (fun H locs hw hS => ?_)
    refine lv_iload_n hx hb dX10_lit_62 rfl (lv_at hl 1 rfl) ?_
    refine lv_isub hx hb dX10_lit_63 ?_
    refine lv_istore (lv' := [(7, .int (z3 - v2)), (0, .ref (ad Γ o)), (2, .int v2), (3, .int v3), (4, .int v4), (5, .int v5), (6, .int v6)]) hx hb dX10_lit_64 hl (by decide) rfl (fun ls hl => ?_)
    refine lv_iload hx hb dX10_lit_66 (lv_at hl 0 rfl) ?_
    refine lv_if_ge (tgt := 75) hx hb dX10_lit_68 (by decide) (fun c9 => ?_) (fun c9 => ?_)
    · have hf := ifp c9 hf
      refine lv_aload_n hx hb dX10_lit_75 rfl (lv_at hl 1 rfl) ?_
      refine lv_iload hx hb dX10_lit_76 (lv_at hl 6 rfl) ?_
      obtain ⟨z4, hz4, hf⟩ := bd hf
      refine cl_Vs (rest := []) (kX10_wear (l := l) (Γ := Γ) (A := A) (G := G) (o := o) hk hz4) ⟨hx, hb, hml, hown, htw⟩ hE hw hS (wo_me hw hk) (q0 := 0) rfl rfl mw1628 mw1630 mw84 mw129 mw1631 pdX10_wear ⟨Nat.le_of_ble_eq_true rfl, Nat.le_of_ble_eq_true rfl⟩ rfl rfl hl.1 (Nat.le_of_ble_eq_true rfl) dX10_lit_78 (fun H locs hw hS => ?_)
      refine lv_if_ne (tgt := 89) hx hb dX10_lit_81 (by decide) (fun c8 => ?_) (fun c8 => ?_)
      · have hf := ifn c8 hf
        refine lv_bipush (v := 60) hx hb dX10_lit_89 (by decide) ?_
        refine lv_iload hx hb dX10_lit_91 (lv_at hl 0 rfl) ?_
        refine lv_aload_n hx hb dX10_lit_93 rfl (lv_at hl 1 rfl) ?_
        refine lv_iload hx hb dX10_lit_94 (lv_at hl 6 rfl) ?_
        obtain ⟨z5, hz5, hf⟩ := bd hf
        refine cl_Vs (rest := [.int (z3 - v2), .int 60]) (kX10_wear (l := l) (Γ := Γ) (A := A) (G := G) (o := o) hk hz5) ⟨hx, hb, hml, hown, htw⟩ hE hw hS (wo_me hw hk) (q0 := 0) rfl rfl mw1628 mw1630 mw84 mw129 mw1631 pdX10_wear ⟨Nat.le_of_ble_eq_true rfl, Nat.le_of_ble_eq_true rfl⟩ rfl rfl hl.1 (Nat.le_of_ble_eq_true rfl) dX10_lit_96 (fun H locs hw hS => ?_)
        obtain ⟨g6, hf⟩ := gd_some hf
        refine lv_idiv hx hb dX10_lit_99 (nz_ne g6) ?_
        refine lv_iconst (v := 1) hx hb dX10_lit_100 (by decide) ?_
        refine lv_iadd hx hb dX10_lit_101 ?_
        obtain ⟨z7, hz7, hf⟩ := bd hf
        refine cl_Ss (rest := []) (kX10_lesser (l := l) (Γ := Γ) (A := A) (G := (ug G o r)) hz7) ⟨hx, hb, hml, hown, htw⟩ hE hw hS mw1681 mw1682 mw129 mw1683 pdX10_lesser ⟨Nat.le_of_ble_eq_true rfl, Nat.le_of_ble_eq_true rfl⟩ rfl rfl hl.1 (Nat.le_of_ble_eq_true rfl) dX10_lit_102 (fun H locs hw hS => ?_)
        exact wX10_lit_105 C hk hf hq H locs ls hw hS (lv_sub hl [1, 2, 3, 4, 5, 6] rfl)
      · have hf := ifp c8 hf
        refine lv_bipush (v := 60) hx hb dX10_lit_84 (by decide) ?_
        refine lv_goto (tgt := 105) hx hb dX10_lit_86 (by decide) ?_
        exact wX10_lit_105 C hk hf hq H locs ls hw hS (lv_sub hl [1, 2, 3, 4, 5, 6] rfl)
    · have hf := ifn c9 hf
      refine lv_iconst (v := 0) hx hb dX10_lit_71 (by decide) ?_
      refine lv_goto (tgt := 105) hx hb dX10_lit_72 (by decide) ?_
      exact wX10_lit_105 C hk hf hq H locs ls hw hS (lv_sub hl [1, 2, 3, 4, 5, 6] rfl)

set_option maxRecDepth 100000 in
set_option maxHeartbeats 4000000 in
theorem lwX10_lit_45 {p : Program} {l : Launch} {e : Env} {s : State} {m : MethodId} {args : Array Value} {below : List Frame} {meth : Method} {c : Code} {Γ : Gm} {A : Nat → Prop} {G : Gs} {o : Nat} {r : Rec} {v2 : Int32} {v3 : Int32} {v4 : Int32} {v5 : Int32} {v6 : Int32} {q : ((Int32 × Int32) ⊕ (Rec × Int32))} {fin : Rec × Int32} (C : Cx p s m args meth c yX10_lit cX10_lit 9 (some .int) Γ A) (hk : kd Γ o = some 10) (hf : iter (fun st : Int32 × Int32 => bX10_lit_45 r v2 v3 v4 st.1 st.2) (v5, v6) = some q) (hq : (KC (fun st : Int32 × Int32 => Wk p l e { frames := 3, cells := 0, slots := 0, locals := 66 } s m args below meth c Γ A (ug G o fin.1) (some (.int fin.2)) 30 9 [(0, .ref (ad Γ o)), (2, .int v2), (3, .int st.1), (4, .int st.2)] [] (ug G o r)) (fun x => x = fin)) q) : Wk p l e { frames := 3, cells := 0, slots := 0, locals := 66 } s m args below meth c Γ A (ug G o fin.1) (some (.int fin.2)) 45 9 [(0, .ref (ad Γ o)), (2, .int v2), (3, .int v3), (4, .int v4), (5, .int v5), (6, .int v6)] [] (ug G o r) := by
  intro H locs ls hw hS hl
  refine iter_walk (P := (fun st : Int32 × Int32 => Wk p l e { frames := 3, cells := 0, slots := 0, locals := 66 } s m args below meth c Γ A (ug G o fin.1) (some (.int fin.2)) 45 9 [(0, .ref (ad Γ o)), (2, .int v2), (3, .int v3), (4, .int v4), (5, .int st.1), (6, .int st.2)] [] (ug G o r))) (K := (KC (fun st : Int32 × Int32 => Wk p l e { frames := 3, cells := 0, slots := 0, locals := 66 } s m args below meth c Γ A (ug G o fin.1) (some (.int fin.2)) 30 9 [(0, .ref (ad Γ o)), (2, .int v2), (3, .int st.1), (4, .int st.2)] [] (ug G o r)) (fun x => x = fin))) (fun st q hq1 h1 h2 => ?_) hf hq H locs ls hw hS hl
  exact wX10_lit_45 (v5 := st.1) (v6 := st.2) C hk hq1 ⟨h1, h2⟩

noncomputable def bX10_lit_30 (r : Rec) (v2 : Int32) (v3 : Int32) (v4 : Int32) : Option ((Int32 × Int32) ⊕ (Rec × Int32)) :=
  if (gi r 27) ≤ v4 then some (.inr ((r, v3))) else iter (fun st : Int32 × Int32 => bX10_lit_45 r v2 v3 v4 st.1 st.2) (0, 0)
set_option maxRecDepth 100000 in
set_option maxHeartbeats 4000000 in
theorem wX10_lit_30 {p : Program} {l : Launch} {e : Env} {s : State} {m : MethodId} {args : Array Value} {below : List Frame} {meth : Method} {c : Code} {Γ : Gm} {A : Nat → Prop} {G : Gs} {o : Nat} {r : Rec} {v2 : Int32} {v3 : Int32} {v4 : Int32} {q : ((Int32 × Int32) ⊕ (Rec × Int32))} {fin : Rec × Int32} (C : Cx p s m args meth c yX10_lit cX10_lit 9 (some .int) Γ A) (hk : kd Γ o = some 10) (hf : bX10_lit_30 r v2 v3 v4 = some q) (hq : (KC (fun st : Int32 × Int32 => Wk p l e { frames := 3, cells := 0, slots := 0, locals := 66 } s m args below meth c Γ A (ug G o fin.1) (some (.int fin.2)) 30 9 [(0, .ref (ad Γ o)), (2, .int v2), (3, .int st.1), (4, .int st.2)] [] (ug G o r)) (fun x => x = fin)) q) : Wk p l e { frames := 3, cells := 0, slots := 0, locals := 66 } s m args below meth c Γ A (ug G o fin.1) (some (.int fin.2)) 30 9 [(0, .ref (ad Γ o)), (2, .int v2), (3, .int v3), (4, .int v4)] [] (ug G o r) := by
  intro H locs ls hw hS hl
  unfold bX10_lit_30 at hf
  obtain ⟨hx, hb, hml, hr, hown, htw, hlocks, hE⟩ := id C
  have hown : s.vm.findClass RX10 = some m.cls := hown
  refine lv_iload hx hb dX10_lit_30 (lv_at hl 3 rfl) ?_
  refine lv_aload_n hx hb dX10_lit_32 rfl (lv_at hl 0 rfl) ?_
  refine va_get (ci := 10) (v := .int (gi r 27)) (C := RX10) (T := TX10) (N := 49) hx hb htw uwX10 hown hE.1 (wo_me hw hk) 0 rfl rfl 27 (by decide) (htw _ mw1270) (fun _ h9 => h9) rfl dX10_lit_33 ?_
  refine lv_icmp_ge (tgt := 133) hx hb dX10_lit_36 (by decide) (fun c11 => ?_) (fun c11 => ?_)
  · have hf := ifp c11 hf
    refine lv_iload_n hx hb dX10_lit_133 rfl (lv_at hl 2 rfl) ?_
    obtain rfl := Option.some.inj hf
    have hq := hq.2 _ rfl
    subst hq
    exact rt_i C hw hS dX10_lit_134
  · have hf := ifn c11 hf
    refine lv_iconst (v := 0) hx hb dX10_lit_39 (by decide) ?_
    refine lv_istore (lv' := [(5, .int 0), (0, .ref (ad Γ o)), (2, .int v2), (3, .int v3), (4, .int v4)]) hx hb dX10_lit_40 hl (by decide) rfl (fun ls hl => ?_)
    refine lv_iconst (v := 0) hx hb dX10_lit_42 (by decide) ?_
    refine lv_istore (lv' := [(6, .int 0), (5, .int 0), (0, .ref (ad Γ o)), (2, .int v2), (3, .int v3), (4, .int v4)]) hx hb dX10_lit_43 hl (by decide) rfl (fun ls hl => ?_)
    exact lwX10_lit_45 C hk hf hq H locs ls hw hS (lv_sub hl [2, 3, 4, 5, 1, 0] rfl)

set_option maxRecDepth 100000 in
set_option maxHeartbeats 4000000 in
theorem lwX10_lit_30 {p : Program} {l : Launch} {e : Env} {s : State} {m : MethodId} {args : Array Value} {below : List Frame} {meth : Method} {c : Code} {Γ : Gm} {A : Nat → Prop} {G : Gs} {o : Nat} {r : Rec} {v2 : Int32} {v3 : Int32} {v4 : Int32} {q : (Rec × Int32)} {fin : Rec × Int32} (C : Cx p s m args meth c yX10_lit cX10_lit 9 (some .int) Γ A) (hk : kd Γ o = some 10) (hf : iter (fun st : Int32 × Int32 => bX10_lit_30 r v2 st.1 st.2) (v3, v4) = some q) (hq : (fun x => x = fin) q) : Wk p l e { frames := 3, cells := 0, slots := 0, locals := 66 } s m args below meth c Γ A (ug G o fin.1) (some (.int fin.2)) 30 9 [(0, .ref (ad Γ o)), (2, .int v2), (3, .int v3), (4, .int v4)] [] (ug G o r) := by
  intro H locs ls hw hS hl
  refine iter_walk (P := (fun st : Int32 × Int32 => Wk p l e { frames := 3, cells := 0, slots := 0, locals := 66 } s m args below meth c Γ A (ug G o fin.1) (some (.int fin.2)) 30 9 [(0, .ref (ad Γ o)), (2, .int v2), (3, .int st.1), (4, .int st.2)] [] (ug G o r))) (K := (fun x => x = fin)) (fun st q hq1 h1 h2 => ?_) hf hq H locs ls hw hS hl
  exact wX10_lit_30 (v3 := st.1) (v4 := st.2) C hk hq1 ⟨h1, h2⟩

noncomputable def fX10_lit (r : Rec) (v1 : Int32) (v2 : Int32) : Option (Rec × Int32) :=
  (some (si r 0 0)).bind fun r12 => (fX10_in v2 1 60).bind fun z13 => if z13 = 0 then some ((r12, (-1))) else (fX10_hand r12 v1).bind fun z14 => if z14.2 = 0 then some ((z14.1, (-1))) else iter (fun st : Int32 × Int32 => bX10_lit_30 z14.1 v2 st.1 st.2) (0, 0)
set_option maxRecDepth 100000 in
set_option maxHeartbeats 4000000 in
theorem wX10_lit_e {p : Program} {l : Launch} {e : Env} {s : State} {m : MethodId} {args : Array Value} {below : List Frame} {meth : Method} {c : Code} {Γ : Gm} {A : Nat → Prop} {G : Gs} {o : Nat} {r : Rec} {v1 : Int32} {v2 : Int32} {q : (Rec × Int32)} {fin : Rec × Int32} (C : Cx p s m args meth c yX10_lit cX10_lit 9 (some .int) Γ A) (hk : kd Γ o = some 10) (hf : fX10_lit r v1 v2 = some q) (hq : (fun x => x = fin) q) : Wk p l e { frames := 3, cells := 0, slots := 0, locals := 66 } s m args below meth c Γ A (ug G o fin.1) (some (.int fin.2)) 0 9 [(0, .ref (ad Γ o)), (1, .int v1), (2, .int v2)] [] (ug G o r) := by
  intro H locs ls hw hS hl
  unfold fX10_lit at hf
  obtain ⟨hx, hb, hml, hr, hown, htw, hlocks, hE⟩ := id C
  have hown : s.vm.findClass RX10 = some m.cls := hown
  refine lv_aload_n hx hb dX10_lit_0 rfl (lv_at hl 0 rfl) ?_
  refine lv_iconst (v := 0) hx hb dX10_lit_1 (by decide) ?_
  obtain ⟨r12, hr12, hf⟩ := bd hf
  have hr12 := Option.some.inj hr12
  refine wo_put (C := RX10) (T := TX10) (N := 49) (v := .int 0) (ty := .int) hx hb htw uwX10 tyX10 tyX10_ok nmX10 hown hE hw hS hk rfl rfl 0 (by decide) (htw _ mw1243) (fun _ h9 => h9) rfl (tyX10_ok 0 (by decide)) rfl rfl (Nat.le_of_ble_eq_true rfl) (st10_0 hr12) dX10_lit_2 (fun H locs hw hS => ?_)
  refine lv_iload_n hx hb dX10_lit_5 rfl (lv_at hl 2 rfl) ?_
  refine lv_iconst (v := 1) hx hb dX10_lit_6 (by decide) ?_
  refine lv_bipush (v := 60) hx hb dX10_lit_7 (by decide) ?_
  obtain ⟨z13, hz13, hf⟩ := bd hf
  refine cl_Ss (rest := []) (kX10_in (l := l) (Γ := Γ) (A := A) (G := (ug G o r12)) hz13) ⟨hx, hb, hml, hown, htw⟩ hE hw hS mw1404 mw1405 mw129 mw1406 pdX10_in ⟨Nat.le_of_ble_eq_true rfl, Nat.le_of_ble_eq_true rfl⟩ rfl rfl hl.1 (Nat.le_of_ble_eq_true rfl) dX10_lit_9 (fun H locs hw hS => ?_)
  refine lv_if_eq (tgt := 23) hx hb dX10_lit_12 (by decide) (fun c16 => ?_) (fun c16 => ?_)
  · have hf := ifp c16 hf
    refine lv_iconst (v := (-1)) hx hb dX10_lit_23 (by decide) ?_
    obtain rfl := Option.some.inj hf
    subst hq
    exact rt_i C hw hS dX10_lit_24
  · have hf := ifn c16 hf
    refine lv_aload_n hx hb dX10_lit_15 rfl (lv_at hl 0 rfl) ?_
    refine lv_iload_n hx hb dX10_lit_16 rfl (lv_at hl 1 rfl) ?_
    obtain ⟨z14, hz14, hf⟩ := bd hf
    refine cl_Vs (rest := []) (kX10_hand (l := l) (Γ := Γ) (A := A) (G := G) (o := o) hk hz14) ⟨hx, hb, hml, hown, htw⟩ hE hw hS (wo_me hw hk) (q0 := 0) rfl rfl mw1537 mw1539 mw65 mw129 mw1540 pdX10_hand ⟨Nat.le_of_ble_eq_true rfl, Nat.le_of_ble_eq_true rfl⟩ rfl rfl hl.1 (Nat.le_of_ble_eq_true rfl) dX10_lit_17 (fun H locs hw hS => ?_)
    refine lv_if_ne (tgt := 25) hx hb dX10_lit_20 (by decide) (fun c15 => ?_) (fun c15 => ?_)
    · have hf := ifn c15 hf
      refine lv_iconst (v := 0) hx hb dX10_lit_25 (by decide) ?_
      refine lv_istore_n (lv' := [(3, .int 0), (0, .ref (ad Γ o)), (1, .int v1), (2, .int v2)]) hx hb dX10_lit_26 rfl hl (by decide) rfl (fun ls hl => ?_)
      refine lv_iconst (v := 0) hx hb dX10_lit_27 (by decide) ?_
      refine lv_istore (lv' := [(4, .int 0), (3, .int 0), (0, .ref (ad Γ o)), (1, .int v1), (2, .int v2)]) hx hb dX10_lit_28 hl (by decide) rfl (fun ls hl => ?_)
      exact lwX10_lit_30 C hk hf hq H locs ls hw hS (lv_sub hl [2, 4, 1, 0] rfl)
    · have hf := ifp c15 hf
      refine lv_iconst (v := (-1)) hx hb dX10_lit_23 (by decide) ?_
      obtain rfl := Option.some.inj hf
      subst hq
      exact rt_i C hw hS dX10_lit_24

theorem kX10_lit {l : Launch} {Γ : Gm} {A : Nat → Prop} {G : Gs} {o : Nat} {r : Rec} {v1 : Int32} {v2 : Int32} {fin : Rec × Int32} (hk : kd Γ o = some 10) (hf : fX10_lit r v1 v2 = some fin) : Kt l yX10_lit cX10_lit 9 (some .int) 3 66 Γ A (ug G o r) (ug G o fin.1) [.ref (ad Γ o), .int v1, .int v2] (some (.int fin.2)) :=
  kt_of (by decide) (Nat.le_of_ble_eq_true rfl) (fun p e s m args below meth c C => wX10_lit_e C hk hf rfl)
theorem kgX10_lit {l : Launch} {Γ : Gm} {A : Nat → Prop} {G : Gs} {o : Nat} {v1 : Int32} {v2 : Int32} {fin : Rec × Int32} (hk : kd Γ o = some 10) (hf : fX10_lit (G o) v1 v2 = some fin) : Kt l yX10_lit cX10_lit 9 (some .int) 3 66 Γ A G (ug G o fin.1) [.ref (ad Γ o), .int v1, .int v2] (some (.int fin.2)) := by
  have h := kX10_lit (l := l) (A := A) (G := G) (r := G o) hk hf
  rw [ug_self] at h
  exact h
noncomputable def bX10_dusky_150 (r : Rec) (v3 : Int32) (v4 : Int32) (v5 : Int32) : Option (Rec × Int32) :=
  if v3 = 0 then some ((r, v4)) else some ((r, v5))
set_option maxRecDepth 100000 in
set_option maxHeartbeats 4000000 in
theorem wX10_dusky_150 {p : Program} {l : Launch} {e : Env} {s : State} {m : MethodId} {args : Array Value} {below : List Frame} {meth : Method} {c : Code} {Γ : Gm} {A : Nat → Prop} {G : Gs} {o : Nat} {r : Rec} {v3 : Int32} {v4 : Int32} {v5 : Int32} {q : (Rec × Int32)} {fin : Rec × Int32} (C : Cx p s m args meth c yX10_dusky cX10_dusky 9 (some .int) Γ A) (hk : kd Γ o = some 10) (hf : bX10_dusky_150 r v3 v4 v5 = some q) (hq : (fun x => x = fin) q) : Wk p l e { frames := 3, cells := 0, slots := 0, locals := 66 } s m args below meth c Γ A (ug G o fin.1) (some (.int fin.2)) 150 9 [(3, .int v3), (4, .int v4), (5, .int v5)] [] (ug G o r) := by
  intro H locs ls hw hS hl
  unfold bX10_dusky_150 at hf
  obtain ⟨hx, hb, hml, hr, hown, htw, hlocks, hE⟩ := id C
  have hown : s.vm.findClass RX10 = some m.cls := hown
  refine lv_iload_n hx hb dX10_dusky_150 rfl (lv_at hl 0 rfl) ?_
  refine lv_if_eq (tgt := 159) hx hb dX10_dusky_151 (by decide) (fun c1 => ?_) (fun c1 => ?_)
  · have hf := ifp c1 hf
    refine lv_iload hx hb dX10_dusky_159 (lv_at hl 1 rfl) ?_
    obtain rfl := Option.some.inj hf
    subst hq
    exact rt_i C hw hS dX10_dusky_161
  · have hf := ifn c1 hf
    refine lv_iload hx hb dX10_dusky_154 (lv_at hl 2 rfl) ?_
    refine lv_goto (tgt := 161) hx hb dX10_dusky_156 (by decide) ?_
    obtain rfl := Option.some.inj hf
    subst hq
    exact rt_i C hw hS dX10_dusky_161

noncomputable def bX10_dusky_144 (r : Rec) (v2 : Int32) (v3 : Int32) (v4 : Int32) (v5 : Int32) (v6 : Int32) : Option ((Int32 × Int32 × Int32) ⊕ (Rec × Int32)) :=
  some (.inl (v4, v5, v6 + 1))
set_option maxRecDepth 100000 in
set_option maxHeartbeats 4000000 in
theorem wX10_dusky_144 {p : Program} {l : Launch} {e : Env} {s : State} {m : MethodId} {args : Array Value} {below : List Frame} {meth : Method} {c : Code} {Γ : Gm} {A : Nat → Prop} {G : Gs} {o : Nat} {r : Rec} {v2 : Int32} {v3 : Int32} {v4 : Int32} {v5 : Int32} {v6 : Int32} {q : ((Int32 × Int32 × Int32) ⊕ (Rec × Int32))} {fin : Rec × Int32} (C : Cx p s m args meth c yX10_dusky cX10_dusky 9 (some .int) Γ A) (hk : kd Γ o = some 10) (hf : bX10_dusky_144 r v2 v3 v4 v5 v6 = some q) (hq : (KC (fun st : Int32 × Int32 × Int32 => Wk p l e { frames := 3, cells := 0, slots := 0, locals := 66 } s m args below meth c Γ A (ug G o fin.1) (some (.int fin.2)) 40 9 [(0, .ref (ad Γ o)), (2, .int v2), (3, .int v3), (4, .int st.1), (5, .int st.2.1), (6, .int st.2.2)] [] (ug G o r)) (fun x => x = fin)) q) : Wk p l e { frames := 3, cells := 0, slots := 0, locals := 66 } s m args below meth c Γ A (ug G o fin.1) (some (.int fin.2)) 144 9 [(0, .ref (ad Γ o)), (2, .int v2), (3, .int v3), (4, .int v4), (5, .int v5), (6, .int v6)] [] (ug G o r) := by
  intro H locs ls hw hS hl
  unfold bX10_dusky_144 at hf
  obtain ⟨hx, hb, hml, hr, hown, htw, hlocks, hE⟩ := id C
  have hown : s.vm.findClass RX10 = some m.cls := hown
  refine lv_iinc (v := v6 + 1) (lv' := [(6, .int (v6 + 1)), (0, .ref (ad Γ o)), (2, .int v2), (3, .int v3), (4, .int v4), (5, .int v5)]) hx hb dX10_dusky_144 hl (k := 5) rfl (by rfl) (by decide) rfl (fun ls hl => ?_)
  refine lv_goto (tgt := 40) hx hb dX10_dusky_147 (by decide) ?_
  obtain rfl := Option.some.inj hf
  exact hq.1 _ rfl H locs ls hw hS (lv_sub hl [1, 2, 3, 4, 5, 0] rfl)

noncomputable def bX10_dusky_127 (r : Rec) (v2 : Int32) (v3 : Int32) (v5 : Int32) (v6 : Int32) (v7 : Int32) (v8 : Int32) (s0 : Int32) : Option ((Int32 × Int32 × Int32) ⊕ ((Int32 × Int32 × Int32) ⊕ (Rec × Int32))) :=
  (fX10_greater v5 v8).bind fun z2 => some (.inl (s0, z2, v7 + 1))
set_option maxRecDepth 100000 in
set_option maxHeartbeats 4000000 in
theorem wX10_dusky_127 {p : Program} {l : Launch} {e : Env} {s : State} {m : MethodId} {args : Array Value} {below : List Frame} {meth : Method} {c : Code} {Γ : Gm} {A : Nat → Prop} {G : Gs} {o : Nat} {r : Rec} {v2 : Int32} {v3 : Int32} {v5 : Int32} {v6 : Int32} {v7 : Int32} {v8 : Int32} {s0 : Int32} {q : ((Int32 × Int32 × Int32) ⊕ ((Int32 × Int32 × Int32) ⊕ (Rec × Int32)))} {fin : Rec × Int32} (C : Cx p s m args meth c yX10_dusky cX10_dusky 9 (some .int) Γ A) (hk : kd Γ o = some 10) (hf : bX10_dusky_127 r v2 v3 v5 v6 v7 v8 s0 = some q) (hq : (KC (fun st : Int32 × Int32 × Int32 => Wk p l e { frames := 3, cells := 0, slots := 0, locals := 66 } s m args below meth c Γ A (ug G o fin.1) (some (.int fin.2)) 55 9 [(0, .ref (ad Γ o)), (2, .int v2), (3, .int v3), (4, .int st.1), (5, .int st.2.1), (6, .int v6), (7, .int st.2.2)] [] (ug G o r)) (KC (fun st : Int32 × Int32 × Int32 => Wk p l e { frames := 3, cells := 0, slots := 0, locals := 66 } s m args below meth c Γ A (ug G o fin.1) (some (.int fin.2)) 40 9 [(0, .ref (ad Γ o)), (2, .int v2), (3, .int v3), (4, .int st.1), (5, .int st.2.1), (6, .int st.2.2)] [] (ug G o r)) (fun x => x = fin))) q) : Wk p l e { frames := 3, cells := 0, slots := 0, locals := 66 } s m args below meth c Γ A (ug G o fin.1) (some (.int fin.2)) 127 9 [(0, .ref (ad Γ o)), (2, .int v2), (3, .int v3), (5, .int v5), (6, .int v6), (7, .int v7), (8, .int v8)] [.int s0] (ug G o r) := by
  intro H locs ls hw hS hl
  unfold bX10_dusky_127 at hf
  obtain ⟨hx, hb, hml, hr, hown, htw, hlocks, hE⟩ := id C
  have hown : s.vm.findClass RX10 = some m.cls := hown
  refine lv_istore (lv' := [(4, .int s0), (0, .ref (ad Γ o)), (2, .int v2), (3, .int v3), (5, .int v5), (6, .int v6), (7, .int v7), (8, .int v8)]) hx hb dX10_dusky_127 hl (by decide) rfl (fun ls hl => ?_)
  refine lv_iload hx hb dX10_dusky_129 (lv_at hl 4 rfl) ?_
  refine lv_iload hx hb dX10_dusky_131 (lv_at hl 7 rfl) ?_
  obtain ⟨z2, hz2, hf⟩ := bd hf
  refine cl_Ss (rest := []) (kX10_greater (l := l) (Γ := Γ) (A := A) (G := (ug G o r)) hz2) ⟨hx, hb, hml, hown, htw⟩ hE hw hS mw1467 mw1468 mw129 mw1469 pdX10_greater ⟨Nat.le_of_ble_eq_true rfl, Nat.le_of_ble_eq_true rfl⟩ rfl rfl hl.1 (Nat.le_of_ble_eq_true rfl) dX10_dusky_133 (fun H locs hw hS => ?_)
  refine lv_istore (lv' := [(5, .int z2), (4, .int s0), (0, .ref (ad Γ o)), (2, .int v2), (3, .int v3), (6, .int v6), (7, .int v7), (8, .int v8)]) hx hb dX10_dusky_136 hl (by decide) rfl (fun ls hl => ?_)
  refine lv_iinc (v := v7 + 1) (lv' := [(7, .int (v7 + 1)), (5, .int z2), (4, .int s0), (0, .ref (ad Γ o)), (2, .int v2), (3, .int v3), (6, .int v6), (8, .int v8)]) hx hb dX10_dusky_138 hl (k := 6) rfl (by rfl) (by decide) rfl (fun ls hl => ?_)
  refine lv_goto (tgt := 55) hx hb dX10_dusky_141 (by decide) ?_
  obtain rfl := Option.some.inj hf
  exact hq.1 _ rfl H locs ls hw hS (lv_sub hl [3, 4, 5, 2, 1, 6, 0] rfl)

noncomputable def bX10_dusky_55 (r : Rec) (v2 : Int32) (v3 : Int32) (v4 : Int32) (v5 : Int32) (v6 : Int32) (v7 : Int32) : Option ((Int32 × Int32 × Int32) ⊕ ((Int32 × Int32 × Int32) ⊕ (Rec × Int32))) :=
  if (gi r 26) ≤ v7 then out1 (bX10_dusky_144 r v2 v3 v4 v5 v6) else (fX10_worthNow r v2 v6).bind fun z4 => (fX10_wear r v6).bind fun z5 => (fX10_lastsFor (z4 / 2) z5).bind fun z6 => (fX10_worthNow r v2 v7).bind fun z7 => (fX10_wear r v7).bind fun z8 => (fX10_lastsFor (z7 / 2) z8).bind fun z9 => (fX10_lesser z6 z9).bind fun z10 => if z10 ≤ v5 then bX10_dusky_127 r v2 v3 v5 v6 v7 z10 v4 else bX10_dusky_127 r v2 v3 v5 v6 v7 z10 ((10 * v6) + v7)
set_option maxRecDepth 100000 in
set_option maxHeartbeats 4000000 in
theorem wX10_dusky_55 {p : Program} {l : Launch} {e : Env} {s : State} {m : MethodId} {args : Array Value} {below : List Frame} {meth : Method} {c : Code} {Γ : Gm} {A : Nat → Prop} {G : Gs} {o : Nat} {r : Rec} {v2 : Int32} {v3 : Int32} {v4 : Int32} {v5 : Int32} {v6 : Int32} {v7 : Int32} {q : ((Int32 × Int32 × Int32) ⊕ ((Int32 × Int32 × Int32) ⊕ (Rec × Int32)))} {fin : Rec × Int32} (C : Cx p s m args meth c yX10_dusky cX10_dusky 9 (some .int) Γ A) (hk : kd Γ o = some 10) (hf : bX10_dusky_55 r v2 v3 v4 v5 v6 v7 = some q) (hq : (KC (fun st : Int32 × Int32 × Int32 => Wk p l e { frames := 3, cells := 0, slots := 0, locals := 66 } s m args below meth c Γ A (ug G o fin.1) (some (.int fin.2)) 55 9 [(0, .ref (ad Γ o)), (2, .int v2), (3, .int v3), (4, .int st.1), (5, .int st.2.1), (6, .int v6), (7, .int st.2.2)] [] (ug G o r)) (KC (fun st : Int32 × Int32 × Int32 => Wk p l e { frames := 3, cells := 0, slots := 0, locals := 66 } s m args below meth c Γ A (ug G o fin.1) (some (.int fin.2)) 40 9 [(0, .ref (ad Γ o)), (2, .int v2), (3, .int v3), (4, .int st.1), (5, .int st.2.1), (6, .int st.2.2)] [] (ug G o r)) (fun x => x = fin))) q) : Wk p l e { frames := 3, cells := 0, slots := 0, locals := 66 } s m args below meth c Γ A (ug G o fin.1) (some (.int fin.2)) 55 9 [(0, .ref (ad Γ o)), (2, .int v2), (3, .int v3), (4, .int v4), (5, .int v5), (6, .int v6), (7, .int v7)] [] (ug G o r) := by
  intro H locs ls hw hS hl
  unfold bX10_dusky_55 at hf
  obtain ⟨hx, hb, hml, hr, hown, htw, hlocks, hE⟩ := id C
  have hown : s.vm.findClass RX10 = some m.cls := hown
  refine lv_iload hx hb dX10_dusky_55 (lv_at hl 6 rfl) ?_
  refine lv_aload_n hx hb dX10_dusky_57 rfl (lv_at hl 0 rfl) ?_
  refine va_get (ci := 10) (v := .int (gi r 26)) (C := RX10) (T := TX10) (N := 49) hx hb htw uwX10 hown hE.1 (wo_me hw hk) 0 rfl rfl 26 (by decide) (htw _ mw1269) (fun _ h9 => h9) rfl dX10_dusky_58 ?_
  refine lv_icmp_ge (tgt := 144) hx hb dX10_dusky_61 (by decide) (fun c12 => ?_) (fun c12 => ?_)
  · have hf := ifp c12 hf
    obtain ⟨q3, hfq3, eq3⟩ := out1_some hf
    subst eq3
    have hf := hfq3
    have hq := hq.2 _ rfl
    exact wX10_dusky_144 C hk hf hq H locs ls hw hS (lv_sub hl [0, 1, 2, 3, 4, 5] rfl)
  · have hf := ifn c12 hf
    refine lv_aload_n hx hb dX10_dusky_64 rfl (lv_at hl 0 rfl) ?_
    refine lv_aload_n hx hb dX10_dusky_65 rfl (lv_at hl 0 rfl) ?_
    refine lv_iload_n hx hb dX10_dusky_66 rfl (lv_at hl 1 rfl) ?_
    refine lv_iload hx hb dX10_dusky_67 (lv_at hl 5 rfl) ?_
    obtain ⟨z4, hz4, hf⟩ := bd hf
    refine cl_Vs (rest := [.ref (ad Γ o)]) (kX10_worthNow (l := l) (Γ := Γ) (A := A) (G := G) (o := o) hk hz4) ⟨hx, hb, hml, hown, htw⟩ hE hw hS (wo_me hw hk) (q0 := 0) rfl rfl mw1557 mw1559 mw69 mw129 mw1560 pdX10_worthNow ⟨Nat.le_of_ble_eq_true rfl, Nat.le_of_ble_eq_true rfl⟩ rfl rfl hl.1 (Nat.le_of_ble_eq_true rfl) dX10_dusky_69 (fun H locs hw hS => ?_)
    refine lv_iconst (v := 2) hx hb dX10_dusky_72 (by decide) ?_
    refine lv_idiv hx hb dX10_dusky_73 (by decide) ?_
    refine lv_aload_n hx hb dX10_dusky_74 rfl (lv_at hl 0 rfl) ?_
    refine lv_iload hx hb dX10_dusky_75 (lv_at hl 5 rfl) ?_
    obtain ⟨z5, hz5, hf⟩ := bd hf
    refine cl_Vs (rest := [.int (z4 / 2), .ref (ad Γ o)]) (kX10_wear (l := l) (Γ := Γ) (A := A) (G := G) (o := o) hk hz5) ⟨hx, hb, hml, hown, htw⟩ hE hw hS (wo_me hw hk) (q0 := 0) rfl rfl mw1628 mw1630 mw84 mw129 mw1631 pdX10_wear ⟨Nat.le_of_ble_eq_true rfl, Nat.le_of_ble_eq_true rfl⟩ rfl rfl hl.1 (Nat.le_of_ble_eq_true rfl) dX10_dusky_77 (fun H locs hw hS => ?_)
    obtain ⟨z6, hz6, hf⟩ := bd hf
    refine cl_Vs (rest := []) (kX10_lastsFor (l := l) (Γ := Γ) (A := A) (G := G) (o := o) (r := r) hk hz6) ⟨hx, hb, hml, hown, htw⟩ hE hw hS (wo_me hw hk) (q0 := 0) rfl rfl mw1786 mw1788 mw109 mw129 mw1789 pdX10_lastsFor ⟨Nat.le_of_ble_eq_true rfl, Nat.le_of_ble_eq_true rfl⟩ rfl rfl hl.1 (Nat.le_of_ble_eq_true rfl) dX10_dusky_80 (fun H locs hw hS => ?_)
    refine lv_aload_n hx hb dX10_dusky_83 rfl (lv_at hl 0 rfl) ?_
    refine lv_aload_n hx hb dX10_dusky_84 rfl (lv_at hl 0 rfl) ?_
    refine lv_iload_n hx hb dX10_dusky_85 rfl (lv_at hl 1 rfl) ?_
    refine lv_iload hx hb dX10_dusky_86 (lv_at hl 6 rfl) ?_
    obtain ⟨z7, hz7, hf⟩ := bd hf
    refine cl_Vs (rest := [.ref (ad Γ o), .int z6]) (kX10_worthNow (l := l) (Γ := Γ) (A := A) (G := G) (o := o) hk hz7) ⟨hx, hb, hml, hown, htw⟩ hE hw hS (wo_me hw hk) (q0 := 0) rfl rfl mw1557 mw1559 mw69 mw129 mw1560 pdX10_worthNow ⟨Nat.le_of_ble_eq_true rfl, Nat.le_of_ble_eq_true rfl⟩ rfl rfl hl.1 (Nat.le_of_ble_eq_true rfl) dX10_dusky_88 (fun H locs hw hS => ?_)
    refine lv_iconst (v := 2) hx hb dX10_dusky_91 (by decide) ?_
    refine lv_idiv hx hb dX10_dusky_92 (by decide) ?_
    refine lv_aload_n hx hb dX10_dusky_93 rfl (lv_at hl 0 rfl) ?_
    refine lv_iload hx hb dX10_dusky_94 (lv_at hl 6 rfl) ?_
    obtain ⟨z8, hz8, hf⟩ := bd hf
    refine cl_Vs (rest := [.int (z7 / 2), .ref (ad Γ o), .int z6]) (kX10_wear (l := l) (Γ := Γ) (A := A) (G := G) (o := o) hk hz8) ⟨hx, hb, hml, hown, htw⟩ hE hw hS (wo_me hw hk) (q0 := 0) rfl rfl mw1628 mw1630 mw84 mw129 mw1631 pdX10_wear ⟨Nat.le_of_ble_eq_true rfl, Nat.le_of_ble_eq_true rfl⟩ rfl rfl hl.1 (Nat.le_of_ble_eq_true rfl) dX10_dusky_96 (fun H locs hw hS => ?_)
    obtain ⟨z9, hz9, hf⟩ := bd hf
    refine cl_Vs (rest := [.int z6]) (kX10_lastsFor (l := l) (Γ := Γ) (A := A) (G := G) (o := o) (r := r) hk hz9) ⟨hx, hb, hml, hown, htw⟩ hE hw hS (wo_me hw hk) (q0 := 0) rfl rfl mw1786 mw1788 mw109 mw129 mw1789 pdX10_lastsFor ⟨Nat.le_of_ble_eq_true rfl, Nat.le_of_ble_eq_true rfl⟩ rfl rfl hl.1 (Nat.le_of_ble_eq_true rfl) dX10_dusky_99 (fun H locs hw hS => ?_)
    obtain ⟨z10, hz10, hf⟩ := bd hf
    refine cl_Ss (rest := []) (kX10_lesser (l := l) (Γ := Γ) (A := A) (G := (ug G o r)) hz10) ⟨hx, hb, hml, hown, htw⟩ hE hw hS mw1681 mw1682 mw129 mw1683 pdX10_lesser ⟨Nat.le_of_ble_eq_true rfl, Nat.le_of_ble_eq_true rfl⟩ rfl rfl hl.1 (Nat.le_of_ble_eq_true rfl) dX10_dusky_102 (fun H locs hw hS => ?_)
    refine lv_istore (lv' := [(8, .int z10), (0, .ref (ad Γ o)), (2, .int v2), (3, .int v3), (4, .int v4), (5, .int v5), (6, .int v6), (7, .int v7)]) hx hb dX10_dusky_105 hl (by decide) rfl (fun ls hl => ?_)
    refine lv_iload hx hb dX10_dusky_107 (lv_at hl 0 rfl) ?_
    refine lv_iload hx hb dX10_dusky_109 (lv_at hl 5 rfl) ?_
    refine lv_icmp_le (tgt := 125) hx hb dX10_dusky_111 (by decide) (fun c11 => ?_) (fun c11 => ?_)
    · have hf := ifp c11 hf
      refine lv_iload hx hb dX10_dusky_125 (lv_at hl 4 rfl) ?_
      exact wX10_dusky_127 C hk hf hq H locs ls hw hS (lv_sub hl [1, 2, 3, 5, 6, 7, 0] rfl)
    · have hf := ifn c11 hf
      refine lv_bipush (v := 10) hx hb dX10_dusky_114 (by decide) ?_
      refine lv_iload hx hb dX10_dusky_116 (lv_at hl 6 rfl) ?_
      refine lv_imul hx hb dX10_dusky_118 ?_
      refine lv_iload hx hb dX10_dusky_119 (lv_at hl 7 rfl) ?_
      refine lv_iadd hx hb dX10_dusky_121 ?_
      refine lv_goto (tgt := 127) hx hb dX10_dusky_122 (by decide) ?_
      exact wX10_dusky_127 C hk hf hq H locs ls hw hS (lv_sub hl [1, 2, 3, 5, 6, 7, 0] rfl)

set_option maxRecDepth 100000 in
set_option maxHeartbeats 4000000 in
theorem lwX10_dusky_55 {p : Program} {l : Launch} {e : Env} {s : State} {m : MethodId} {args : Array Value} {below : List Frame} {meth : Method} {c : Code} {Γ : Gm} {A : Nat → Prop} {G : Gs} {o : Nat} {r : Rec} {v2 : Int32} {v3 : Int32} {v4 : Int32} {v5 : Int32} {v6 : Int32} {v7 : Int32} {q : ((Int32 × Int32 × Int32) ⊕ (Rec × Int32))} {fin : Rec × Int32} (C : Cx p s m args meth c yX10_dusky cX10_dusky 9 (some .int) Γ A) (hk : kd Γ o = some 10) (hf : iter (fun st : Int32 × Int32 × Int32 => bX10_dusky_55 r v2 v3 st.1 st.2.1 v6 st.2.2) (v4, v5, v7) = some q) (hq : (KC (fun st : Int32 × Int32 × Int32 => Wk p l e { frames := 3, cells := 0, slots := 0, locals := 66 } s m args below meth c Γ A (ug G o fin.1) (some (.int fin.2)) 40 9 [(0, .ref (ad Γ o)), (2, .int v2), (3, .int v3), (4, .int st.1), (5, .int st.2.1), (6, .int st.2.2)] [] (ug G o r)) (fun x => x = fin)) q) : Wk p l e { frames := 3, cells := 0, slots := 0, locals := 66 } s m args below meth c Γ A (ug G o fin.1) (some (.int fin.2)) 55 9 [(0, .ref (ad Γ o)), (2, .int v2), (3, .int v3), (4, .int v4), (5, .int v5), (6, .int v6), (7, .int v7)] [] (ug G o r) := by
  intro H locs ls hw hS hl
  refine iter_walk (P := (fun st : Int32 × Int32 × Int32 => Wk p l e { frames := 3, cells := 0, slots := 0, locals := 66 } s m args below meth c Γ A (ug G o fin.1) (some (.int fin.2)) 55 9 [(0, .ref (ad Γ o)), (2, .int v2), (3, .int v3), (4, .int st.1), (5, .int st.2.1), (6, .int v6), (7, .int st.2.2)] [] (ug G o r))) (K := (KC (fun st : Int32 × Int32 × Int32 => Wk p l e { frames := 3, cells := 0, slots := 0, locals := 66 } s m args below meth c Γ A (ug G o fin.1) (some (.int fin.2)) 40 9 [(0, .ref (ad Γ o)), (2, .int v2), (3, .int v3), (4, .int st.1), (5, .int st.2.1), (6, .int st.2.2)] [] (ug G o r)) (fun x => x = fin))) (fun st q hq1 h1 h2 => ?_) hf hq H locs ls hw hS hl
  exact wX10_dusky_55 (v4 := st.1) (v5 := st.2.1) (v7 := st.2.2) C hk hq1 ⟨h1, h2⟩

noncomputable def bX10_dusky_40 (r : Rec) (v2 : Int32) (v3 : Int32) (v4 : Int32) (v5 : Int32) (v6 : Int32) : Option ((Int32 × Int32 × Int32) ⊕ (Rec × Int32)) :=
  if (gi r 26) ≤ v6 then out1 (bX10_dusky_150 r v3 v4 v5) else iter (fun st : Int32 × Int32 × Int32 => bX10_dusky_55 r v2 v3 st.1 st.2.1 v6 st.2.2) (v4, v5, v6 + 1)
set_option maxRecDepth 100000 in
set_option maxHeartbeats 4000000 in
theorem wX10_dusky_40 {p : Program} {l : Launch} {e : Env} {s : State} {m : MethodId} {args : Array Value} {below : List Frame} {meth : Method} {c : Code} {Γ : Gm} {A : Nat → Prop} {G : Gs} {o : Nat} {r : Rec} {v2 : Int32} {v3 : Int32} {v4 : Int32} {v5 : Int32} {v6 : Int32} {q : ((Int32 × Int32 × Int32) ⊕ (Rec × Int32))} {fin : Rec × Int32} (C : Cx p s m args meth c yX10_dusky cX10_dusky 9 (some .int) Γ A) (hk : kd Γ o = some 10) (hf : bX10_dusky_40 r v2 v3 v4 v5 v6 = some q) (hq : (KC (fun st : Int32 × Int32 × Int32 => Wk p l e { frames := 3, cells := 0, slots := 0, locals := 66 } s m args below meth c Γ A (ug G o fin.1) (some (.int fin.2)) 40 9 [(0, .ref (ad Γ o)), (2, .int v2), (3, .int v3), (4, .int st.1), (5, .int st.2.1), (6, .int st.2.2)] [] (ug G o r)) (fun x => x = fin)) q) : Wk p l e { frames := 3, cells := 0, slots := 0, locals := 66 } s m args below meth c Γ A (ug G o fin.1) (some (.int fin.2)) 40 9 [(0, .ref (ad Γ o)), (2, .int v2), (3, .int v3), (4, .int v4), (5, .int v5), (6, .int v6)] [] (ug G o r) := by
  intro H locs ls hw hS hl
  unfold bX10_dusky_40 at hf
  obtain ⟨hx, hb, hml, hr, hown, htw, hlocks, hE⟩ := id C
  have hown : s.vm.findClass RX10 = some m.cls := hown
  refine lv_iload hx hb dX10_dusky_40 (lv_at hl 5 rfl) ?_
  refine lv_aload_n hx hb dX10_dusky_42 rfl (lv_at hl 0 rfl) ?_
  refine va_get (ci := 10) (v := .int (gi r 26)) (C := RX10) (T := TX10) (N := 49) hx hb htw uwX10 hown hE.1 (wo_me hw hk) 0 rfl rfl 26 (by decide) (htw _ mw1269) (fun _ h9 => h9) rfl dX10_dusky_43 ?_
  refine lv_icmp_ge (tgt := 150) hx hb dX10_dusky_46 (by decide) (fun c14 => ?_) (fun c14 => ?_)
  · have hf := ifp c14 hf
    obtain ⟨q13, hfq13, eq13⟩ := out1_some hf
    subst eq13
    have hf := hfq13
    have hq := hq.2 _ rfl
    exact wX10_dusky_150 C hk hf hq H locs ls hw hS (lv_sub hl [2, 3, 4] rfl)
  · have hf := ifn c14 hf
    refine lv_iload hx hb dX10_dusky_49 (lv_at hl 5 rfl) ?_
    refine lv_iconst (v := 1) hx hb dX10_dusky_51 (by decide) ?_
    refine lv_iadd hx hb dX10_dusky_52 ?_
    refine lv_istore (lv' := [(7, .int (v6 + 1)), (0, .ref (ad Γ o)), (2, .int v2), (3, .int v3), (4, .int v4), (5, .int v5), (6, .int v6)]) hx hb dX10_dusky_53 hl (by decide) rfl (fun ls hl => ?_)
    exact lwX10_dusky_55 C hk hf hq H locs ls hw hS (lv_sub hl [1, 2, 3, 4, 5, 6, 0] rfl)

set_option maxRecDepth 100000 in
set_option maxHeartbeats 4000000 in
theorem lwX10_dusky_40 {p : Program} {l : Launch} {e : Env} {s : State} {m : MethodId} {args : Array Value} {below : List Frame} {meth : Method} {c : Code} {Γ : Gm} {A : Nat → Prop} {G : Gs} {o : Nat} {r : Rec} {v2 : Int32} {v3 : Int32} {v4 : Int32} {v5 : Int32} {v6 : Int32} {q : (Rec × Int32)} {fin : Rec × Int32} (C : Cx p s m args meth c yX10_dusky cX10_dusky 9 (some .int) Γ A) (hk : kd Γ o = some 10) (hf : iter (fun st : Int32 × Int32 × Int32 => bX10_dusky_40 r v2 v3 st.1 st.2.1 st.2.2) (v4, v5, v6) = some q) (hq : (fun x => x = fin) q) : Wk p l e { frames := 3, cells := 0, slots := 0, locals := 66 } s m args below meth c Γ A (ug G o fin.1) (some (.int fin.2)) 40 9 [(0, .ref (ad Γ o)), (2, .int v2), (3, .int v3), (4, .int v4), (5, .int v5), (6, .int v6)] [] (ug G o r) := by
  intro H locs ls hw hS hl
  refine iter_walk (P := (fun st : Int32 × Int32 × Int32 => Wk p l e { frames := 3, cells := 0, slots := 0, locals := 66 } s m args below meth c Γ A (ug G o fin.1) (some (.int fin.2)) 40 9 [(0, .ref (ad Γ o)), (2, .int v2), (3, .int v3), (4, .int st.1), (5, .int st.2.1), (6, .int st.2.2)] [] (ug G o r))) (K := (fun x => x = fin)) (fun st q hq1 h1 h2 => ?_) hf hq H locs ls hw hS hl
  exact wX10_dusky_40 (v4 := st.1) (v5 := st.2.1) (v6 := st.2.2) C hk hq1 ⟨h1, h2⟩

noncomputable def fX10_dusky (r : Rec) (v1 : Int32) (v2 : Int32) (v3 : Int32) : Option (Rec × Int32) :=
  (some (si r 0 0)).bind fun r15 => (fX10_hand r15 v1).bind fun z16 => if z16.2 = 0 then some ((z16.1, (-1))) else (fX10_isSecret z16.1 v2).bind fun z17 => if z17 = 0 then some ((z16.1, (-1))) else if 2 ≤ (gi z16.1 26) then iter (fun st : Int32 × Int32 × Int32 => bX10_dusky_40 z16.1 v2 v3 st.1 st.2.1 st.2.2) ((-1), (-1), 0) else some ((z16.1, (-1)))
set_option maxRecDepth 100000 in
set_option maxHeartbeats 4000000 in
theorem wX10_dusky_e {p : Program} {l : Launch} {e : Env} {s : State} {m : MethodId} {args : Array Value} {below : List Frame} {meth : Method} {c : Code} {Γ : Gm} {A : Nat → Prop} {G : Gs} {o : Nat} {r : Rec} {v1 : Int32} {v2 : Int32} {v3 : Int32} {q : (Rec × Int32)} {fin : Rec × Int32} (C : Cx p s m args meth c yX10_dusky cX10_dusky 9 (some .int) Γ A) (hk : kd Γ o = some 10) (hf : fX10_dusky r v1 v2 v3 = some q) (hq : (fun x => x = fin) q) : Wk p l e { frames := 3, cells := 0, slots := 0, locals := 66 } s m args below meth c Γ A (ug G o fin.1) (some (.int fin.2)) 0 9 [(0, .ref (ad Γ o)), (1, .int v1), (2, .int v2), (3, .int v3)] [] (ug G o r) := by
  intro H locs ls hw hS hl
  unfold fX10_dusky at hf
  obtain ⟨hx, hb, hml, hr, hown, htw, hlocks, hE⟩ := id C
  have hown : s.vm.findClass RX10 = some m.cls := hown
  refine lv_aload_n hx hb dX10_dusky_0 rfl (lv_at hl 0 rfl) ?_
  refine lv_iconst (v := 0) hx hb dX10_dusky_1 (by decide) ?_
  obtain ⟨r15, hr15, hf⟩ := bd hf
  have hr15 := Option.some.inj hr15
  refine wo_put (C := RX10) (T := TX10) (N := 49) (v := .int 0) (ty := .int) hx hb htw uwX10 tyX10 tyX10_ok nmX10 hown hE hw hS hk rfl rfl 0 (by decide) (htw _ mw1243) (fun _ h9 => h9) rfl (tyX10_ok 0 (by decide)) rfl rfl (Nat.le_of_ble_eq_true rfl) (st10_0 hr15) dX10_dusky_2 (fun H locs hw hS => ?_)
  refine lv_aload_n hx hb dX10_dusky_5 rfl (lv_at hl 0 rfl) ?_
  refine lv_iload_n hx hb dX10_dusky_6 rfl (lv_at hl 1 rfl) ?_
  obtain ⟨z16, hz16, hf⟩ := bd hf
  refine cl_Vs (rest := []) (kX10_hand (l := l) (Γ := Γ) (A := A) (G := G) (o := o) hk hz16) ⟨hx, hb, hml, hown, htw⟩ hE hw hS (wo_me hw hk) (q0 := 0) rfl rfl mw1537 mw1539 mw65 mw129 mw1540 pdX10_hand ⟨Nat.le_of_ble_eq_true rfl, Nat.le_of_ble_eq_true rfl⟩ rfl rfl hl.1 (Nat.le_of_ble_eq_true rfl) dX10_dusky_7 (fun H locs hw hS => ?_)
  refine lv_if_eq (tgt := 29) hx hb dX10_dusky_10 (by decide) (fun c20 => ?_) (fun c20 => ?_)
  · have hf := ifp c20 hf
    refine lv_iconst (v := (-1)) hx hb dX10_dusky_29 (by decide) ?_
    obtain rfl := Option.some.inj hf
    subst hq
    exact rt_i C hw hS dX10_dusky_30
  · have hf := ifn c20 hf
    refine lv_aload_n hx hb dX10_dusky_13 rfl (lv_at hl 0 rfl) ?_
    refine lv_iload_n hx hb dX10_dusky_14 rfl (lv_at hl 2 rfl) ?_
    obtain ⟨z17, hz17, hf⟩ := bd hf
    refine cl_Vs (rest := []) (kX10_isSecret (l := l) (Γ := Γ) (A := A) (G := G) (o := o) hk hz17) ⟨hx, hb, hml, hown, htw⟩ hE hw hS (wo_me hw hk) (q0 := 0) rfl rfl mw1549 mw1551 mw67 mw129 mw1552 pdX10_isSecret ⟨Nat.le_of_ble_eq_true rfl, Nat.le_of_ble_eq_true rfl⟩ rfl rfl hl.1 (Nat.le_of_ble_eq_true rfl) dX10_dusky_15 (fun H locs hw hS => ?_)
    refine lv_if_eq (tgt := 29) hx hb dX10_dusky_18 (by decide) (fun c19 => ?_) (fun c19 => ?_)
    · have hf := ifp c19 hf
      refine lv_iconst (v := (-1)) hx hb dX10_dusky_29 (by decide) ?_
      obtain rfl := Option.some.inj hf
      subst hq
      exact rt_i C hw hS dX10_dusky_30
    · have hf := ifn c19 hf
      refine lv_aload_n hx hb dX10_dusky_21 rfl (lv_at hl 0 rfl) ?_
      refine va_get (ci := 10) (v := .int (gi z16.1 26)) (C := RX10) (T := TX10) (N := 49) hx hb htw uwX10 hown hE.1 (wo_me hw hk) 0 rfl rfl 26 (by decide) (htw _ mw1269) (fun _ h9 => h9) rfl dX10_dusky_22 ?_
      refine lv_iconst (v := 2) hx hb dX10_dusky_25 (by decide) ?_
      refine lv_icmp_ge (tgt := 31) hx hb dX10_dusky_26 (by decide) (fun c18 => ?_) (fun c18 => ?_)
      · have hf := ifp c18 hf
        refine lv_iconst (v := (-1)) hx hb dX10_dusky_31 (by decide) ?_
        refine lv_istore (lv' := [(4, .int (-1)), (0, .ref (ad Γ o)), (1, .int v1), (2, .int v2), (3, .int v3)]) hx hb dX10_dusky_32 hl (by decide) rfl (fun ls hl => ?_)
        refine lv_iconst (v := (-1)) hx hb dX10_dusky_34 (by decide) ?_
        refine lv_istore (lv' := [(5, .int (-1)), (4, .int (-1)), (0, .ref (ad Γ o)), (1, .int v1), (2, .int v2), (3, .int v3)]) hx hb dX10_dusky_35 hl (by decide) rfl (fun ls hl => ?_)
        refine lv_iconst (v := 0) hx hb dX10_dusky_37 (by decide) ?_
        refine lv_istore (lv' := [(6, .int 0), (5, .int (-1)), (4, .int (-1)), (0, .ref (ad Γ o)), (1, .int v1), (2, .int v2), (3, .int v3)]) hx hb dX10_dusky_38 hl (by decide) rfl (fun ls hl => ?_)
        exact lwX10_dusky_40 C hk hf hq H locs ls hw hS (lv_sub hl [3, 5, 6, 2, 1, 0] rfl)
      · have hf := ifn c18 hf
        refine lv_iconst (v := (-1)) hx hb dX10_dusky_29 (by decide) ?_
        obtain rfl := Option.some.inj hf
        subst hq
        exact rt_i C hw hS dX10_dusky_30

theorem kX10_dusky {l : Launch} {Γ : Gm} {A : Nat → Prop} {G : Gs} {o : Nat} {r : Rec} {v1 : Int32} {v2 : Int32} {v3 : Int32} {fin : Rec × Int32} (hk : kd Γ o = some 10) (hf : fX10_dusky r v1 v2 v3 = some fin) : Kt l yX10_dusky cX10_dusky 9 (some .int) 3 66 Γ A (ug G o r) (ug G o fin.1) [.ref (ad Γ o), .int v1, .int v2, .int v3] (some (.int fin.2)) :=
  kt_of (by decide) (Nat.le_of_ble_eq_true rfl) (fun p e s m args below meth c C => wX10_dusky_e C hk hf rfl)
theorem kgX10_dusky {l : Launch} {Γ : Gm} {A : Nat → Prop} {G : Gs} {o : Nat} {v1 : Int32} {v2 : Int32} {v3 : Int32} {fin : Rec × Int32} (hk : kd Γ o = some 10) (hf : fX10_dusky (G o) v1 v2 v3 = some fin) : Kt l yX10_dusky cX10_dusky 9 (some .int) 3 66 Γ A G (ug G o fin.1) [.ref (ad Γ o), .int v1, .int v2, .int v3] (some (.int fin.2)) := by
  have h := kX10_dusky (l := l) (A := A) (G := G) (r := G o) hk hf
  rw [ug_self] at h
  exact h
noncomputable def bX10_allWorth_110 (r : Rec) (v1 : Int32) (v2 : Int32) (v3 : Int32) (v4 : Int32) : Option ((Int32 × Int32) ⊕ Int32) :=
  some (.inl (v3, v4 + 1))
set_option maxRecDepth 100000 in
set_option maxHeartbeats 4000000 in
theorem wX10_allWorth_110 {p : Program} {l : Launch} {e : Env} {s : State} {m : MethodId} {args : Array Value} {below : List Frame} {meth : Method} {c : Code} {Γ : Gm} {A : Nat → Prop} {G : Gs} {o : Nat} {r : Rec} {v1 : Int32} {v2 : Int32} {v3 : Int32} {v4 : Int32} {q : ((Int32 × Int32) ⊕ Int32)} {fin : Int32} (C : Cx p s m args meth c yX10_allWorth cX10_allWorth 8 (some .int) Γ A) (hk : kd Γ o = some 10) (hf : bX10_allWorth_110 r v1 v2 v3 v4 = some q) (hq : (KC (fun st : Int32 × Int32 => Wk p l e { frames := 1, cells := 0, slots := 0, locals := 21 } s m args below meth c Γ A (ug G o r) (some (.int fin)) 5 8 [(0, .ref (ad Γ o)), (1, .int v1), (2, .int v2), (3, .int st.1), (4, .int st.2)] [] (ug G o r)) (fun x => x = fin)) q) : Wk p l e { frames := 1, cells := 0, slots := 0, locals := 21 } s m args below meth c Γ A (ug G o r) (some (.int fin)) 110 8 [(0, .ref (ad Γ o)), (1, .int v1), (2, .int v2), (3, .int v3), (4, .int v4)] [] (ug G o r) := by
  intro H locs ls hw hS hl
  unfold bX10_allWorth_110 at hf
  obtain ⟨hx, hb, hml, hr, hown, htw, hlocks, hE⟩ := id C
  have hown : s.vm.findClass RX10 = some m.cls := hown
  refine lv_iinc (v := v4 + 1) (lv' := [(4, .int (v4 + 1)), (0, .ref (ad Γ o)), (1, .int v1), (2, .int v2), (3, .int v3)]) hx hb dX10_allWorth_110 hl (k := 4) rfl (by rfl) (by decide) rfl (fun ls hl => ?_)
  refine lv_goto (tgt := 5) hx hb dX10_allWorth_113 (by decide) ?_
  obtain rfl := Option.some.inj hf
  exact hq.1 _ rfl H locs ls hw hS (lv_sub hl [1, 2, 3, 4, 0] rfl)

noncomputable def bX10_allWorth_102 (r : Rec) (v1 : Int32) (v2 : Int32) (v4 : Int32) (v5 : Int32) (s0 : Int32) (s1 : Int32) : Option ((Int32 × Int32) ⊕ ((Int32 × Int32) ⊕ Int32)) :=
  some (.inl (s1 + s0, v5 + 1))
set_option maxRecDepth 100000 in
set_option maxHeartbeats 4000000 in
theorem wX10_allWorth_102 {p : Program} {l : Launch} {e : Env} {s : State} {m : MethodId} {args : Array Value} {below : List Frame} {meth : Method} {c : Code} {Γ : Gm} {A : Nat → Prop} {G : Gs} {o : Nat} {r : Rec} {v1 : Int32} {v2 : Int32} {v4 : Int32} {v5 : Int32} {s0 : Int32} {s1 : Int32} {q : ((Int32 × Int32) ⊕ ((Int32 × Int32) ⊕ Int32))} {fin : Int32} (C : Cx p s m args meth c yX10_allWorth cX10_allWorth 8 (some .int) Γ A) (hk : kd Γ o = some 10) (hf : bX10_allWorth_102 r v1 v2 v4 v5 s0 s1 = some q) (hq : (KC (fun st : Int32 × Int32 => Wk p l e { frames := 1, cells := 0, slots := 0, locals := 21 } s m args below meth c Γ A (ug G o r) (some (.int fin)) 17 8 [(0, .ref (ad Γ o)), (1, .int v1), (2, .int v2), (3, .int st.1), (4, .int v4), (5, .int st.2)] [] (ug G o r)) (KC (fun st : Int32 × Int32 => Wk p l e { frames := 1, cells := 0, slots := 0, locals := 21 } s m args below meth c Γ A (ug G o r) (some (.int fin)) 5 8 [(0, .ref (ad Γ o)), (1, .int v1), (2, .int v2), (3, .int st.1), (4, .int st.2)] [] (ug G o r)) (fun x => x = fin))) q) : Wk p l e { frames := 1, cells := 0, slots := 0, locals := 21 } s m args below meth c Γ A (ug G o r) (some (.int fin)) 102 8 [(0, .ref (ad Γ o)), (1, .int v1), (2, .int v2), (4, .int v4), (5, .int v5)] [.int s0, .int s1] (ug G o r) := by
  intro H locs ls hw hS hl
  unfold bX10_allWorth_102 at hf
  obtain ⟨hx, hb, hml, hr, hown, htw, hlocks, hE⟩ := id C
  have hown : s.vm.findClass RX10 = some m.cls := hown
  refine lv_iadd hx hb dX10_allWorth_102 ?_
  refine lv_istore_n (lv' := [(3, .int (s1 + s0)), (0, .ref (ad Γ o)), (1, .int v1), (2, .int v2), (4, .int v4), (5, .int v5)]) hx hb dX10_allWorth_103 rfl hl (by decide) rfl (fun ls hl => ?_)
  refine lv_iinc (v := v5 + 1) (lv' := [(5, .int (v5 + 1)), (3, .int (s1 + s0)), (0, .ref (ad Γ o)), (1, .int v1), (2, .int v2), (4, .int v4)]) hx hb dX10_allWorth_104 hl (k := 5) rfl (by rfl) (by decide) rfl (fun ls hl => ?_)
  refine lv_goto (tgt := 17) hx hb dX10_allWorth_107 (by decide) ?_
  obtain rfl := Option.some.inj hf
  exact hq.1 _ rfl H locs ls hw hS (lv_sub hl [2, 3, 4, 1, 5, 0] rfl)

noncomputable def bX10_allWorth_74 (r : Rec) (v1 : Int32) (v2 : Int32) (v3 : Int32) (v4 : Int32) (v5 : Int32) (s0 : Int32) (s1 : Int32) : Option ((Int32 × Int32) ⊕ ((Int32 × Int32) ⊕ Int32)) :=
  gd (inR v5 8) ((fX10_has (ga r 28 (Int32.toNatClampNeg v5)) v4).bind fun z2 => if z2 = 0 then bX10_allWorth_102 r v1 v2 v4 v5 (s1 * s0) v3 else bX10_allWorth_102 r v1 v2 v4 v5 ((s1 * s0) / 2) v3)
set_option maxRecDepth 100000 in
set_option maxHeartbeats 4000000 in
theorem wX10_allWorth_74 {p : Program} {l : Launch} {e : Env} {s : State} {m : MethodId} {args : Array Value} {below : List Frame} {meth : Method} {c : Code} {Γ : Gm} {A : Nat → Prop} {G : Gs} {o : Nat} {r : Rec} {v1 : Int32} {v2 : Int32} {v3 : Int32} {v4 : Int32} {v5 : Int32} {s0 : Int32} {s1 : Int32} {q : ((Int32 × Int32) ⊕ ((Int32 × Int32) ⊕ Int32))} {fin : Int32} (C : Cx p s m args meth c yX10_allWorth cX10_allWorth 8 (some .int) Γ A) (hk : kd Γ o = some 10) (hf : bX10_allWorth_74 r v1 v2 v3 v4 v5 s0 s1 = some q) (hq : (KC (fun st : Int32 × Int32 => Wk p l e { frames := 1, cells := 0, slots := 0, locals := 21 } s m args below meth c Γ A (ug G o r) (some (.int fin)) 17 8 [(0, .ref (ad Γ o)), (1, .int v1), (2, .int v2), (3, .int st.1), (4, .int v4), (5, .int st.2)] [] (ug G o r)) (KC (fun st : Int32 × Int32 => Wk p l e { frames := 1, cells := 0, slots := 0, locals := 21 } s m args below meth c Γ A (ug G o r) (some (.int fin)) 5 8 [(0, .ref (ad Γ o)), (1, .int v1), (2, .int v2), (3, .int st.1), (4, .int st.2)] [] (ug G o r)) (fun x => x = fin))) q) : Wk p l e { frames := 1, cells := 0, slots := 0, locals := 21 } s m args below meth c Γ A (ug G o r) (some (.int fin)) 74 8 [(0, .ref (ad Γ o)), (1, .int v1), (2, .int v2), (3, .int v3), (4, .int v4), (5, .int v5)] [.int s0, .int s1] (ug G o r) := by
  intro H locs ls hw hS hl
  unfold bX10_allWorth_74 at hf
  obtain ⟨hx, hb, hml, hr, hown, htw, hlocks, hE⟩ := id C
  have hown : s.vm.findClass RX10 = some m.cls := hown
  refine lv_imul hx hb dX10_allWorth_74 ?_
  refine lv_istore (lv' := [(7, .int (s1 * s0)), (0, .ref (ad Γ o)), (1, .int v1), (2, .int v2), (3, .int v3), (4, .int v4), (5, .int v5)]) hx hb dX10_allWorth_75 hl (by decide) rfl (fun ls hl => ?_)
  refine lv_iload_n hx hb dX10_allWorth_77 rfl (lv_at hl 4 rfl) ?_
  refine lv_aload_n hx hb dX10_allWorth_78 rfl (lv_at hl 1 rfl) ?_
  refine va_get (ci := 10) (v := .ref (aa Γ o 28)) (C := RX10) (T := TX10) (N := 49) hx hb htw uwX10 hown hE.1 (wo_me hw hk) 0 rfl rfl 28 (by decide) (htw _ mw1271) (fun _ h9 => h9) rfl dX10_allWorth_79 ?_
  refine lv_iload hx hb dX10_allWorth_82 (lv_at hl 6 rfl) ?_
  obtain ⟨g1, hf⟩ := gd_some hf
  refine va_iald hx hb hE.1 (wo_me hw hk) 12 0 rfl rfl (inR_in g1) dX10_allWorth_84 ?_
  refine lv_iload hx hb dX10_allWorth_85 (lv_at hl 5 rfl) ?_
  obtain ⟨z2, hz2, hf⟩ := bd hf
  refine cl_Ss (rest := [.int v3]) (kX10_has (l := l) (Γ := Γ) (A := A) (G := (ug G o r)) hz2) ⟨hx, hb, hml, hown, htw⟩ hE hw hS mw1561 mw1562 mw129 mw1563 pdX10_has ⟨Nat.le_of_ble_eq_true rfl, Nat.le_of_ble_eq_true rfl⟩ rfl rfl hl.1 (Nat.le_of_ble_eq_true rfl) dX10_allWorth_87 (fun H locs hw hS => ?_)
  refine lv_if_eq (tgt := 100) hx hb dX10_allWorth_90 (by decide) (fun c3 => ?_) (fun c3 => ?_)
  · have hf := ifp c3 hf
    refine lv_iload hx hb dX10_allWorth_100 (lv_at hl 0 rfl) ?_
    exact wX10_allWorth_102 C hk hf hq H locs ls hw hS (lv_sub hl [1, 2, 3, 5, 6] rfl)
  · have hf := ifn c3 hf
    refine lv_iload hx hb dX10_allWorth_93 (lv_at hl 0 rfl) ?_
    refine lv_iconst (v := 2) hx hb dX10_allWorth_95 (by decide) ?_
    refine lv_idiv hx hb dX10_allWorth_96 (by decide) ?_
    refine lv_goto (tgt := 102) hx hb dX10_allWorth_97 (by decide) ?_
    exact wX10_allWorth_102 C hk hf hq H locs ls hw hS (lv_sub hl [1, 2, 3, 5, 6] rfl)

noncomputable def bX10_allWorth_44 (r : Rec) (v1 : Int32) (v2 : Int32) (v3 : Int32) (v4 : Int32) (v5 : Int32) (s0 : Int32) : Option ((Int32 × Int32) ⊕ ((Int32 × Int32) ⊕ Int32)) :=
  (fX10_of r (37 + v4)).bind fun z4 => (fX10_of r (27 + v4)).bind fun z5 => if z5 = s0 then bX10_allWorth_74 r v1 v2 v3 v4 v5 2 z4 else bX10_allWorth_74 r v1 v2 v3 v4 v5 1 z4
set_option maxRecDepth 100000 in
set_option maxHeartbeats 4000000 in
theorem wX10_allWorth_44 {p : Program} {l : Launch} {e : Env} {s : State} {m : MethodId} {args : Array Value} {below : List Frame} {meth : Method} {c : Code} {Γ : Gm} {A : Nat → Prop} {G : Gs} {o : Nat} {r : Rec} {v1 : Int32} {v2 : Int32} {v3 : Int32} {v4 : Int32} {v5 : Int32} {s0 : Int32} {q : ((Int32 × Int32) ⊕ ((Int32 × Int32) ⊕ Int32))} {fin : Int32} (C : Cx p s m args meth c yX10_allWorth cX10_allWorth 8 (some .int) Γ A) (hk : kd Γ o = some 10) (hf : bX10_allWorth_44 r v1 v2 v3 v4 v5 s0 = some q) (hq : (KC (fun st : Int32 × Int32 => Wk p l e { frames := 1, cells := 0, slots := 0, locals := 21 } s m args below meth c Γ A (ug G o r) (some (.int fin)) 17 8 [(0, .ref (ad Γ o)), (1, .int v1), (2, .int v2), (3, .int st.1), (4, .int v4), (5, .int st.2)] [] (ug G o r)) (KC (fun st : Int32 × Int32 => Wk p l e { frames := 1, cells := 0, slots := 0, locals := 21 } s m args below meth c Γ A (ug G o r) (some (.int fin)) 5 8 [(0, .ref (ad Γ o)), (1, .int v1), (2, .int v2), (3, .int st.1), (4, .int st.2)] [] (ug G o r)) (fun x => x = fin))) q) : Wk p l e { frames := 1, cells := 0, slots := 0, locals := 21 } s m args below meth c Γ A (ug G o r) (some (.int fin)) 44 8 [(0, .ref (ad Γ o)), (1, .int v1), (2, .int v2), (3, .int v3), (4, .int v4), (5, .int v5)] [.int s0] (ug G o r) := by
  intro H locs ls hw hS hl
  unfold bX10_allWorth_44 at hf
  obtain ⟨hx, hb, hml, hr, hown, htw, hlocks, hE⟩ := id C
  have hown : s.vm.findClass RX10 = some m.cls := hown
  refine lv_istore (lv' := [(6, .int s0), (0, .ref (ad Γ o)), (1, .int v1), (2, .int v2), (3, .int v3), (4, .int v4), (5, .int v5)]) hx hb dX10_allWorth_44 hl (by decide) rfl (fun ls hl => ?_)
  refine lv_aload_n hx hb dX10_allWorth_46 rfl (lv_at hl 1 rfl) ?_
  refine lv_bipush (v := 37) hx hb dX10_allWorth_47 (by decide) ?_
  refine lv_iload hx hb dX10_allWorth_49 (lv_at hl 5 rfl) ?_
  refine lv_iadd hx hb dX10_allWorth_51 ?_
  obtain ⟨z4, hz4, hf⟩ := bd hf
  refine cl_Vs (rest := []) (kX10_of (l := l) (Γ := Γ) (A := A) (G := G) (o := o) hk hz4) ⟨hx, hb, hml, hown, htw⟩ hE hw hS (wo_me hw hk) (q0 := 0) rfl rfl mw1541 mw1543 mw66 mw129 mw1544 pdX10_of ⟨Nat.le_of_ble_eq_true rfl, Nat.le_of_ble_eq_true rfl⟩ rfl rfl hl.1 (Nat.le_of_ble_eq_true rfl) dX10_allWorth_52 (fun H locs hw hS => ?_)
  refine lv_aload_n hx hb dX10_allWorth_55 rfl (lv_at hl 1 rfl) ?_
  refine lv_bipush (v := 27) hx hb dX10_allWorth_56 (by decide) ?_
  refine lv_iload hx hb dX10_allWorth_58 (lv_at hl 5 rfl) ?_
  refine lv_iadd hx hb dX10_allWorth_60 ?_
  obtain ⟨z5, hz5, hf⟩ := bd hf
  refine cl_Vs (rest := [.int z4]) (kX10_of (l := l) (Γ := Γ) (A := A) (G := G) (o := o) hk hz5) ⟨hx, hb, hml, hown, htw⟩ hE hw hS (wo_me hw hk) (q0 := 0) rfl rfl mw1541 mw1543 mw66 mw129 mw1544 pdX10_of ⟨Nat.le_of_ble_eq_true rfl, Nat.le_of_ble_eq_true rfl⟩ rfl rfl hl.1 (Nat.le_of_ble_eq_true rfl) dX10_allWorth_61 (fun H locs hw hS => ?_)
  refine lv_iload hx hb dX10_allWorth_64 (lv_at hl 0 rfl) ?_
  refine lv_icmp_ne (tgt := 73) hx hb dX10_allWorth_66 (by decide) (fun c6 => ?_) (fun c6 => ?_)
  · have hf := ifn c6 hf
    refine lv_iconst (v := 1) hx hb dX10_allWorth_73 (by decide) ?_
    exact wX10_allWorth_74 C hk hf hq H locs ls hw hS (lv_sub hl [1, 2, 3, 4, 5, 6] rfl)
  · have hf := ifp c6 hf
    refine lv_iconst (v := 2) hx hb dX10_allWorth_69 (by decide) ?_
    refine lv_goto (tgt := 74) hx hb dX10_allWorth_70 (by decide) ?_
    exact wX10_allWorth_74 C hk hf hq H locs ls hw hS (lv_sub hl [1, 2, 3, 4, 5, 6] rfl)

noncomputable def bX10_allWorth_17 (r : Rec) (v1 : Int32) (v2 : Int32) (v3 : Int32) (v4 : Int32) (v5 : Int32) : Option ((Int32 × Int32) ⊕ ((Int32 × Int32) ⊕ Int32)) :=
  if (gi r 26) ≤ v5 then out1 (bX10_allWorth_110 r v1 v2 v3 v4) else if v5 = v1 then bX10_allWorth_44 r v1 v2 v3 v4 v5 v2 else (fX10_of r (3 + v5)).bind fun z8 => bX10_allWorth_44 r v1 v2 v3 v4 v5 z8
set_option maxRecDepth 100000 in
set_option maxHeartbeats 4000000 in
theorem wX10_allWorth_17 {p : Program} {l : Launch} {e : Env} {s : State} {m : MethodId} {args : Array Value} {below : List Frame} {meth : Method} {c : Code} {Γ : Gm} {A : Nat → Prop} {G : Gs} {o : Nat} {r : Rec} {v1 : Int32} {v2 : Int32} {v3 : Int32} {v4 : Int32} {v5 : Int32} {q : ((Int32 × Int32) ⊕ ((Int32 × Int32) ⊕ Int32))} {fin : Int32} (C : Cx p s m args meth c yX10_allWorth cX10_allWorth 8 (some .int) Γ A) (hk : kd Γ o = some 10) (hf : bX10_allWorth_17 r v1 v2 v3 v4 v5 = some q) (hq : (KC (fun st : Int32 × Int32 => Wk p l e { frames := 1, cells := 0, slots := 0, locals := 21 } s m args below meth c Γ A (ug G o r) (some (.int fin)) 17 8 [(0, .ref (ad Γ o)), (1, .int v1), (2, .int v2), (3, .int st.1), (4, .int v4), (5, .int st.2)] [] (ug G o r)) (KC (fun st : Int32 × Int32 => Wk p l e { frames := 1, cells := 0, slots := 0, locals := 21 } s m args below meth c Γ A (ug G o r) (some (.int fin)) 5 8 [(0, .ref (ad Γ o)), (1, .int v1), (2, .int v2), (3, .int st.1), (4, .int st.2)] [] (ug G o r)) (fun x => x = fin))) q) : Wk p l e { frames := 1, cells := 0, slots := 0, locals := 21 } s m args below meth c Γ A (ug G o r) (some (.int fin)) 17 8 [(0, .ref (ad Γ o)), (1, .int v1), (2, .int v2), (3, .int v3), (4, .int v4), (5, .int v5)] [] (ug G o r) := by
  intro H locs ls hw hS hl
  unfold bX10_allWorth_17 at hf
  obtain ⟨hx, hb, hml, hr, hown, htw, hlocks, hE⟩ := id C
  have hown : s.vm.findClass RX10 = some m.cls := hown
  refine lv_iload hx hb dX10_allWorth_17 (lv_at hl 5 rfl) ?_
  refine lv_aload_n hx hb dX10_allWorth_19 rfl (lv_at hl 0 rfl) ?_
  refine va_get (ci := 10) (v := .int (gi r 26)) (C := RX10) (T := TX10) (N := 49) hx hb htw uwX10 hown hE.1 (wo_me hw hk) 0 rfl rfl 26 (by decide) (htw _ mw1269) (fun _ h9 => h9) rfl dX10_allWorth_20 ?_
  refine lv_icmp_ge (tgt := 110) hx hb dX10_allWorth_23 (by decide) (fun c10 => ?_) (fun c10 => ?_)
  · have hf := ifp c10 hf
    obtain ⟨q7, hfq7, eq7⟩ := out1_some hf
    subst eq7
    have hf := hfq7
    have hq := hq.2 _ rfl
    exact wX10_allWorth_110 C hk hf hq H locs ls hw hS (lv_sub hl [0, 1, 2, 3, 4] rfl)
  · have hf := ifn c10 hf
    refine lv_iload hx hb dX10_allWorth_26 (lv_at hl 5 rfl) ?_
    refine lv_iload_n hx hb dX10_allWorth_28 rfl (lv_at hl 1 rfl) ?_
    refine lv_icmp_ne (tgt := 36) hx hb dX10_allWorth_29 (by decide) (fun c9 => ?_) (fun c9 => ?_)
    · have hf := ifn c9 hf
      refine lv_aload_n hx hb dX10_allWorth_36 rfl (lv_at hl 0 rfl) ?_
      refine lv_iconst (v := 3) hx hb dX10_allWorth_37 (by decide) ?_
      refine lv_iload hx hb dX10_allWorth_38 (lv_at hl 5 rfl) ?_
      refine lv_iadd hx hb dX10_allWorth_40 ?_
      obtain ⟨z8, hz8, hf⟩ := bd hf
      refine cl_Vs (rest := []) (kX10_of (l := l) (Γ := Γ) (A := A) (G := G) (o := o) hk hz8) ⟨hx, hb, hml, hown, htw⟩ hE hw hS (wo_me hw hk) (q0 := 0) rfl rfl mw1541 mw1543 mw66 mw129 mw1544 pdX10_of ⟨Nat.le_of_ble_eq_true rfl, Nat.le_of_ble_eq_true rfl⟩ rfl rfl hl.1 (Nat.le_of_ble_eq_true rfl) dX10_allWorth_41 (fun H locs hw hS => ?_)
      exact wX10_allWorth_44 C hk hf hq H locs ls hw hS hl
    · have hf := ifp c9 hf
      refine lv_iload_n hx hb dX10_allWorth_32 rfl (lv_at hl 2 rfl) ?_
      refine lv_goto (tgt := 44) hx hb dX10_allWorth_33 (by decide) ?_
      exact wX10_allWorth_44 C hk hf hq H locs ls hw hS hl

set_option maxRecDepth 100000 in
set_option maxHeartbeats 4000000 in
theorem lwX10_allWorth_17 {p : Program} {l : Launch} {e : Env} {s : State} {m : MethodId} {args : Array Value} {below : List Frame} {meth : Method} {c : Code} {Γ : Gm} {A : Nat → Prop} {G : Gs} {o : Nat} {r : Rec} {v1 : Int32} {v2 : Int32} {v3 : Int32} {v4 : Int32} {v5 : Int32} {q : ((Int32 × Int32) ⊕ Int32)} {fin : Int32} (C : Cx p s m args meth c yX10_allWorth cX10_allWorth 8 (some .int) Γ A) (hk : kd Γ o = some 10) (hf : iter (fun st : Int32 × Int32 => bX10_allWorth_17 r v1 v2 st.1 v4 st.2) (v3, v5) = some q) (hq : (KC (fun st : Int32 × Int32 => Wk p l e { frames := 1, cells := 0, slots := 0, locals := 21 } s m args below meth c Γ A (ug G o r) (some (.int fin)) 5 8 [(0, .ref (ad Γ o)), (1, .int v1), (2, .int v2), (3, .int st.1), (4, .int st.2)] [] (ug G o r)) (fun x => x = fin)) q) : Wk p l e { frames := 1, cells := 0, slots := 0, locals := 21 } s m args below meth c Γ A (ug G o r) (some (.int fin)) 17 8 [(0, .ref (ad Γ o)), (1, .int v1), (2, .int v2), (3, .int v3), (4, .int v4), (5, .int v5)] [] (ug G o r) := by
  intro H locs ls hw hS hl
  refine iter_walk (P := (fun st : Int32 × Int32 => Wk p l e { frames := 1, cells := 0, slots := 0, locals := 21 } s m args below meth c Γ A (ug G o r) (some (.int fin)) 17 8 [(0, .ref (ad Γ o)), (1, .int v1), (2, .int v2), (3, .int st.1), (4, .int v4), (5, .int st.2)] [] (ug G o r))) (K := (KC (fun st : Int32 × Int32 => Wk p l e { frames := 1, cells := 0, slots := 0, locals := 21 } s m args below meth c Γ A (ug G o r) (some (.int fin)) 5 8 [(0, .ref (ad Γ o)), (1, .int v1), (2, .int v2), (3, .int st.1), (4, .int st.2)] [] (ug G o r)) (fun x => x = fin))) (fun st q hq1 h1 h2 => ?_) hf hq H locs ls hw hS hl
  exact wX10_allWorth_17 (v3 := st.1) (v5 := st.2) C hk hq1 ⟨h1, h2⟩

noncomputable def bX10_allWorth_5 (r : Rec) (v1 : Int32) (v2 : Int32) (v3 : Int32) (v4 : Int32) : Option ((Int32 × Int32) ⊕ Int32) :=
  if (gi r 27) ≤ v4 then some (.inr (v3)) else iter (fun st : Int32 × Int32 => bX10_allWorth_17 r v1 v2 st.1 v4 st.2) (v3, 0)
set_option maxRecDepth 100000 in
set_option maxHeartbeats 4000000 in
theorem wX10_allWorth_5 {p : Program} {l : Launch} {e : Env} {s : State} {m : MethodId} {args : Array Value} {below : List Frame} {meth : Method} {c : Code} {Γ : Gm} {A : Nat → Prop} {G : Gs} {o : Nat} {r : Rec} {v1 : Int32} {v2 : Int32} {v3 : Int32} {v4 : Int32} {q : ((Int32 × Int32) ⊕ Int32)} {fin : Int32} (C : Cx p s m args meth c yX10_allWorth cX10_allWorth 8 (some .int) Γ A) (hk : kd Γ o = some 10) (hf : bX10_allWorth_5 r v1 v2 v3 v4 = some q) (hq : (KC (fun st : Int32 × Int32 => Wk p l e { frames := 1, cells := 0, slots := 0, locals := 21 } s m args below meth c Γ A (ug G o r) (some (.int fin)) 5 8 [(0, .ref (ad Γ o)), (1, .int v1), (2, .int v2), (3, .int st.1), (4, .int st.2)] [] (ug G o r)) (fun x => x = fin)) q) : Wk p l e { frames := 1, cells := 0, slots := 0, locals := 21 } s m args below meth c Γ A (ug G o r) (some (.int fin)) 5 8 [(0, .ref (ad Γ o)), (1, .int v1), (2, .int v2), (3, .int v3), (4, .int v4)] [] (ug G o r) := by
  intro H locs ls hw hS hl
  unfold bX10_allWorth_5 at hf
  obtain ⟨hx, hb, hml, hr, hown, htw, hlocks, hE⟩ := id C
  have hown : s.vm.findClass RX10 = some m.cls := hown
  refine lv_iload hx hb dX10_allWorth_5 (lv_at hl 4 rfl) ?_
  refine lv_aload_n hx hb dX10_allWorth_7 rfl (lv_at hl 0 rfl) ?_
  refine va_get (ci := 10) (v := .int (gi r 27)) (C := RX10) (T := TX10) (N := 49) hx hb htw uwX10 hown hE.1 (wo_me hw hk) 0 rfl rfl 27 (by decide) (htw _ mw1270) (fun _ h9 => h9) rfl dX10_allWorth_8 ?_
  refine lv_icmp_ge (tgt := 116) hx hb dX10_allWorth_11 (by decide) (fun c11 => ?_) (fun c11 => ?_)
  · have hf := ifp c11 hf
    refine lv_iload_n hx hb dX10_allWorth_116 rfl (lv_at hl 3 rfl) ?_
    obtain rfl := Option.some.inj hf
    have hq := hq.2 _ rfl
    subst hq
    exact rt_i C hw hS dX10_allWorth_117
  · have hf := ifn c11 hf
    refine lv_iconst (v := 0) hx hb dX10_allWorth_14 (by decide) ?_
    refine lv_istore (lv' := [(5, .int 0), (0, .ref (ad Γ o)), (1, .int v1), (2, .int v2), (3, .int v3), (4, .int v4)]) hx hb dX10_allWorth_15 hl (by decide) rfl (fun ls hl => ?_)
    exact lwX10_allWorth_17 C hk hf hq H locs ls hw hS (lv_sub hl [1, 2, 3, 4, 5, 0] rfl)

set_option maxRecDepth 100000 in
set_option maxHeartbeats 4000000 in
theorem lwX10_allWorth_5 {p : Program} {l : Launch} {e : Env} {s : State} {m : MethodId} {args : Array Value} {below : List Frame} {meth : Method} {c : Code} {Γ : Gm} {A : Nat → Prop} {G : Gs} {o : Nat} {r : Rec} {v1 : Int32} {v2 : Int32} {v3 : Int32} {v4 : Int32} {q : Int32} {fin : Int32} (C : Cx p s m args meth c yX10_allWorth cX10_allWorth 8 (some .int) Γ A) (hk : kd Γ o = some 10) (hf : iter (fun st : Int32 × Int32 => bX10_allWorth_5 r v1 v2 st.1 st.2) (v3, v4) = some q) (hq : (fun x => x = fin) q) : Wk p l e { frames := 1, cells := 0, slots := 0, locals := 21 } s m args below meth c Γ A (ug G o r) (some (.int fin)) 5 8 [(0, .ref (ad Γ o)), (1, .int v1), (2, .int v2), (3, .int v3), (4, .int v4)] [] (ug G o r) := by
  intro H locs ls hw hS hl
  refine iter_walk (P := (fun st : Int32 × Int32 => Wk p l e { frames := 1, cells := 0, slots := 0, locals := 21 } s m args below meth c Γ A (ug G o r) (some (.int fin)) 5 8 [(0, .ref (ad Γ o)), (1, .int v1), (2, .int v2), (3, .int st.1), (4, .int st.2)] [] (ug G o r))) (K := (fun x => x = fin)) (fun st q hq1 h1 h2 => ?_) hf hq H locs ls hw hS hl
  exact wX10_allWorth_5 (v3 := st.1) (v4 := st.2) C hk hq1 ⟨h1, h2⟩

noncomputable def fX10_allWorth (r : Rec) (v1 : Int32) (v2 : Int32) : Option Int32 :=
  iter (fun st : Int32 × Int32 => bX10_allWorth_5 r v1 v2 st.1 st.2) (0, 0)
set_option maxRecDepth 100000 in
set_option maxHeartbeats 4000000 in
theorem wX10_allWorth_e {p : Program} {l : Launch} {e : Env} {s : State} {m : MethodId} {args : Array Value} {below : List Frame} {meth : Method} {c : Code} {Γ : Gm} {A : Nat → Prop} {G : Gs} {o : Nat} {r : Rec} {v1 : Int32} {v2 : Int32} {q : Int32} {fin : Int32} (C : Cx p s m args meth c yX10_allWorth cX10_allWorth 8 (some .int) Γ A) (hk : kd Γ o = some 10) (hf : fX10_allWorth r v1 v2 = some q) (hq : (fun x => x = fin) q) : Wk p l e { frames := 1, cells := 0, slots := 0, locals := 21 } s m args below meth c Γ A (ug G o r) (some (.int fin)) 0 8 [(0, .ref (ad Γ o)), (1, .int v1), (2, .int v2)] [] (ug G o r) := by
  intro H locs ls hw hS hl
  unfold fX10_allWorth at hf
  obtain ⟨hx, hb, hml, hr, hown, htw, hlocks, hE⟩ := id C
  have hown : s.vm.findClass RX10 = some m.cls := hown
  refine lv_iconst (v := 0) hx hb dX10_allWorth_0 (by decide) ?_
  refine lv_istore_n (lv' := [(3, .int 0), (0, .ref (ad Γ o)), (1, .int v1), (2, .int v2)]) hx hb dX10_allWorth_1 rfl hl (by decide) rfl (fun ls hl => ?_)
  refine lv_iconst (v := 0) hx hb dX10_allWorth_2 (by decide) ?_
  refine lv_istore (lv' := [(4, .int 0), (3, .int 0), (0, .ref (ad Γ o)), (1, .int v1), (2, .int v2)]) hx hb dX10_allWorth_3 hl (by decide) rfl (fun ls hl => ?_)
  exact lwX10_allWorth_5 C hk hf hq H locs ls hw hS (lv_sub hl [2, 3, 4, 1, 0] rfl)

theorem kX10_allWorth {l : Launch} {Γ : Gm} {A : Nat → Prop} {G : Gs} {o : Nat} {r : Rec} {v1 : Int32} {v2 : Int32} {fin : Int32} (hk : kd Γ o = some 10) (hf : fX10_allWorth r v1 v2 = some fin) : Kt l yX10_allWorth cX10_allWorth 8 (some .int) 1 21 Γ A (ug G o r) (ug G o r) [.ref (ad Γ o), .int v1, .int v2] (some (.int fin)) :=
  kt_of (by decide) (Nat.le_of_ble_eq_true rfl) (fun p e s m args below meth c C => wX10_allWorth_e C hk hf rfl)
theorem kgX10_allWorth {l : Launch} {Γ : Gm} {A : Nat → Prop} {G : Gs} {o : Nat} {v1 : Int32} {v2 : Int32} {fin : Int32} (hk : kd Γ o = some 10) (hf : fX10_allWorth (G o) v1 v2 = some fin) : Kt l yX10_allWorth cX10_allWorth 8 (some .int) 1 21 Γ A G G [.ref (ad Γ o), .int v1, .int v2] (some (.int fin)) := by
  have h := kX10_allWorth (l := l) (A := A) (G := G) (r := G o) hk hf
  rw [ug_self] at h
  exact h
noncomputable def bX10_fitter_87 (r : Rec) (v2 : Int32) (v3 : Int32) (v4 : Int32) : Option (Rec × Int32) :=
  if v2 = 0 then some ((r, v3)) else some ((r, v4))
set_option maxRecDepth 100000 in
set_option maxHeartbeats 4000000 in
theorem wX10_fitter_87 {p : Program} {l : Launch} {e : Env} {s : State} {m : MethodId} {args : Array Value} {below : List Frame} {meth : Method} {c : Code} {Γ : Gm} {A : Nat → Prop} {G : Gs} {o : Nat} {r : Rec} {v2 : Int32} {v3 : Int32} {v4 : Int32} {q : (Rec × Int32)} {fin : Rec × Int32} (C : Cx p s m args meth c yX10_fitter cX10_fitter 7 (some .int) Γ A) (hk : kd Γ o = some 10) (hf : bX10_fitter_87 r v2 v3 v4 = some q) (hq : (fun x => x = fin) q) : Wk p l e { frames := 3, cells := 0, slots := 0, locals := 66 } s m args below meth c Γ A (ug G o fin.1) (some (.int fin.2)) 87 7 [(2, .int v2), (3, .int v3), (4, .int v4)] [] (ug G o r) := by
  intro H locs ls hw hS hl
  unfold bX10_fitter_87 at hf
  obtain ⟨hx, hb, hml, hr, hown, htw, hlocks, hE⟩ := id C
  have hown : s.vm.findClass RX10 = some m.cls := hown
  refine lv_iload_n hx hb dX10_fitter_87 rfl (lv_at hl 0 rfl) ?_
  refine lv_if_eq (tgt := 96) hx hb dX10_fitter_88 (by decide) (fun c1 => ?_) (fun c1 => ?_)
  · have hf := ifp c1 hf
    refine lv_iload_n hx hb dX10_fitter_96 rfl (lv_at hl 1 rfl) ?_
    obtain rfl := Option.some.inj hf
    subst hq
    exact rt_i C hw hS dX10_fitter_97
  · have hf := ifn c1 hf
    refine lv_iload hx hb dX10_fitter_91 (lv_at hl 2 rfl) ?_
    refine lv_goto (tgt := 97) hx hb dX10_fitter_93 (by decide) ?_
    obtain rfl := Option.some.inj hf
    subst hq
    exact rt_i C hw hS dX10_fitter_97

noncomputable def bX10_fitter_71 (r : Rec) (v2 : Int32) (v4 : Int32) (v5 : Int32) (v6 : Int32) (s0 : Int32) : Option ((Int32 × Int32 × Int32) ⊕ (Rec × Int32)) :=
  (fX10_greater v4 v6).bind fun z2 => some (.inl (s0, z2, v5 + 1))
set_option maxRecDepth 100000 in
set_option maxHeartbeats 4000000 in
theorem wX10_fitter_71 {p : Program} {l : Launch} {e : Env} {s : State} {m : MethodId} {args : Array Value} {below : List Frame} {meth : Method} {c : Code} {Γ : Gm} {A : Nat → Prop} {G : Gs} {o : Nat} {r : Rec} {v2 : Int32} {v4 : Int32} {v5 : Int32} {v6 : Int32} {s0 : Int32} {q : ((Int32 × Int32 × Int32) ⊕ (Rec × Int32))} {fin : Rec × Int32} (C : Cx p s m args meth c yX10_fitter cX10_fitter 7 (some .int) Γ A) (hk : kd Γ o = some 10) (hf : bX10_fitter_71 r v2 v4 v5 v6 s0 = some q) (hq : (KC (fun st : Int32 × Int32 × Int32 => Wk p l e { frames := 3, cells := 0, slots := 0, locals := 66 } s m args below meth c Γ A (ug G o fin.1) (some (.int fin.2)) 23 7 [(0, .ref (ad Γ o)), (2, .int v2), (3, .int st.1), (4, .int st.2.1), (5, .int st.2.2)] [] (ug G o r)) (fun x => x = fin)) q) : Wk p l e { frames := 3, cells := 0, slots := 0, locals := 66 } s m args below meth c Γ A (ug G o fin.1) (some (.int fin.2)) 71 7 [(0, .ref (ad Γ o)), (2, .int v2), (4, .int v4), (5, .int v5), (6, .int v6)] [.int s0] (ug G o r) := by
  intro H locs ls hw hS hl
  unfold bX10_fitter_71 at hf
  obtain ⟨hx, hb, hml, hr, hown, htw, hlocks, hE⟩ := id C
  have hown : s.vm.findClass RX10 = some m.cls := hown
  refine lv_istore_n (lv' := [(3, .int s0), (0, .ref (ad Γ o)), (2, .int v2), (4, .int v4), (5, .int v5), (6, .int v6)]) hx hb dX10_fitter_71 rfl hl (by decide) rfl (fun ls hl => ?_)
  refine lv_iload hx hb dX10_fitter_72 (lv_at hl 3 rfl) ?_
  refine lv_iload hx hb dX10_fitter_74 (lv_at hl 5 rfl) ?_
  obtain ⟨z2, hz2, hf⟩ := bd hf
  refine cl_Ss (rest := []) (kX10_greater (l := l) (Γ := Γ) (A := A) (G := (ug G o r)) hz2) ⟨hx, hb, hml, hown, htw⟩ hE hw hS mw1467 mw1468 mw129 mw1469 pdX10_greater ⟨Nat.le_of_ble_eq_true rfl, Nat.le_of_ble_eq_true rfl⟩ rfl rfl hl.1 (Nat.le_of_ble_eq_true rfl) dX10_fitter_76 (fun H locs hw hS => ?_)
  refine lv_istore (lv' := [(4, .int z2), (3, .int s0), (0, .ref (ad Γ o)), (2, .int v2), (5, .int v5), (6, .int v6)]) hx hb dX10_fitter_79 hl (by decide) rfl (fun ls hl => ?_)
  refine lv_iinc (v := v5 + 1) (lv' := [(5, .int (v5 + 1)), (4, .int z2), (3, .int s0), (0, .ref (ad Γ o)), (2, .int v2), (6, .int v6)]) hx hb dX10_fitter_81 hl (k := 4) rfl (by rfl) (by decide) rfl (fun ls hl => ?_)
  refine lv_goto (tgt := 23) hx hb dX10_fitter_84 (by decide) ?_
  obtain rfl := Option.some.inj hf
  exact hq.1 _ rfl H locs ls hw hS (lv_sub hl [3, 4, 2, 1, 0] rfl)

noncomputable def bX10_fitter_23 (r : Rec) (v2 : Int32) (v3 : Int32) (v4 : Int32) (v5 : Int32) : Option ((Int32 × Int32 × Int32) ⊕ (Rec × Int32)) :=
  if (4 * (gi r 26)) ≤ v5 then out1 (bX10_fitter_87 r v2 v3 v4) else (fX10_allWorth r (v5 / 4) (v5 - v5 / 4 * 4)).bind fun z4 => if z4 ≤ v4 then bX10_fitter_71 r v2 v4 v5 z4 v3 else bX10_fitter_71 r v2 v4 v5 z4 ((10 * (v5 / 4)) + (v5 - v5 / 4 * 4))
set_option maxRecDepth 100000 in
set_option maxHeartbeats 4000000 in
theorem wX10_fitter_23 {p : Program} {l : Launch} {e : Env} {s : State} {m : MethodId} {args : Array Value} {below : List Frame} {meth : Method} {c : Code} {Γ : Gm} {A : Nat → Prop} {G : Gs} {o : Nat} {r : Rec} {v2 : Int32} {v3 : Int32} {v4 : Int32} {v5 : Int32} {q : ((Int32 × Int32 × Int32) ⊕ (Rec × Int32))} {fin : Rec × Int32} (C : Cx p s m args meth c yX10_fitter cX10_fitter 7 (some .int) Γ A) (hk : kd Γ o = some 10) (hf : bX10_fitter_23 r v2 v3 v4 v5 = some q) (hq : (KC (fun st : Int32 × Int32 × Int32 => Wk p l e { frames := 3, cells := 0, slots := 0, locals := 66 } s m args below meth c Γ A (ug G o fin.1) (some (.int fin.2)) 23 7 [(0, .ref (ad Γ o)), (2, .int v2), (3, .int st.1), (4, .int st.2.1), (5, .int st.2.2)] [] (ug G o r)) (fun x => x = fin)) q) : Wk p l e { frames := 3, cells := 0, slots := 0, locals := 66 } s m args below meth c Γ A (ug G o fin.1) (some (.int fin.2)) 23 7 [(0, .ref (ad Γ o)), (2, .int v2), (3, .int v3), (4, .int v4), (5, .int v5)] [] (ug G o r) := by
  intro H locs ls hw hS hl
  unfold bX10_fitter_23 at hf
  obtain ⟨hx, hb, hml, hr, hown, htw, hlocks, hE⟩ := id C
  have hown : s.vm.findClass RX10 = some m.cls := hown
  refine lv_iload hx hb dX10_fitter_23 (lv_at hl 4 rfl) ?_
  refine lv_iconst (v := 4) hx hb dX10_fitter_25 (by decide) ?_
  refine lv_aload_n hx hb dX10_fitter_26 rfl (lv_at hl 0 rfl) ?_
  refine va_get (ci := 10) (v := .int (gi r 26)) (C := RX10) (T := TX10) (N := 49) hx hb htw uwX10 hown hE.1 (wo_me hw hk) 0 rfl rfl 26 (by decide) (htw _ mw1269) (fun _ h9 => h9) rfl dX10_fitter_27 ?_
  refine lv_imul hx hb dX10_fitter_30 ?_
  refine lv_icmp_ge (tgt := 87) hx hb dX10_fitter_31 (by decide) (fun c6 => ?_) (fun c6 => ?_)
  · have hf := ifp c6 hf
    obtain ⟨q3, hfq3, eq3⟩ := out1_some hf
    subst eq3
    have hf := hfq3
    have hq := hq.2 _ rfl
    exact wX10_fitter_87 C hk hf hq H locs ls hw hS (lv_sub hl [1, 2, 3] rfl)
  · have hf := ifn c6 hf
    refine lv_aload_n hx hb dX10_fitter_34 rfl (lv_at hl 0 rfl) ?_
    refine lv_iload hx hb dX10_fitter_35 (lv_at hl 4 rfl) ?_
    refine lv_iconst (v := 4) hx hb dX10_fitter_37 (by decide) ?_
    refine lv_idiv hx hb dX10_fitter_38 (by decide) ?_
    refine lv_iload hx hb dX10_fitter_39 (lv_at hl 4 rfl) ?_
    refine lv_iconst (v := 4) hx hb dX10_fitter_41 (by decide) ?_
    refine lv_irem hx hb dX10_fitter_42 (by decide) ?_
    obtain ⟨z4, hz4, hf⟩ := bd hf
    refine cl_Vs (rest := []) (kX10_allWorth (l := l) (Γ := Γ) (A := A) (G := G) (o := o) hk hz4) ⟨hx, hb, hml, hown, htw⟩ hE hw hS (wo_me hw hk) (q0 := 0) rfl rfl mw1831 mw1833 mw115 mw129 mw1834 pdX10_allWorth ⟨Nat.le_of_ble_eq_true rfl, Nat.le_of_ble_eq_true rfl⟩ rfl rfl hl.1 (Nat.le_of_ble_eq_true rfl) dX10_fitter_43 (fun H locs hw hS => ?_)
    refine lv_istore (lv' := [(6, .int z4), (0, .ref (ad Γ o)), (2, .int v2), (3, .int v3), (4, .int v4), (5, .int v5)]) hx hb dX10_fitter_46 hl (by decide) rfl (fun ls hl => ?_)
    refine lv_iload hx hb dX10_fitter_48 (lv_at hl 0 rfl) ?_
    refine lv_iload hx hb dX10_fitter_50 (lv_at hl 4 rfl) ?_
    refine lv_icmp_le (tgt := 70) hx hb dX10_fitter_52 (by decide) (fun c5 => ?_) (fun c5 => ?_)
    · have hf := ifp c5 hf
      refine lv_iload_n hx hb dX10_fitter_70 rfl (lv_at hl 3 rfl) ?_
      exact wX10_fitter_71 C hk hf hq H locs ls hw hS (lv_sub hl [1, 2, 4, 5, 0] rfl)
    · have hf := ifn c5 hf
      refine lv_bipush (v := 10) hx hb dX10_fitter_55 (by decide) ?_
      refine lv_iload hx hb dX10_fitter_57 (lv_at hl 5 rfl) ?_
      refine lv_iconst (v := 4) hx hb dX10_fitter_59 (by decide) ?_
      refine lv_idiv hx hb dX10_fitter_60 (by decide) ?_
      refine lv_imul hx hb dX10_fitter_61 ?_
      refine lv_iload hx hb dX10_fitter_62 (lv_at hl 5 rfl) ?_
      refine lv_iconst (v := 4) hx hb dX10_fitter_64 (by decide) ?_
      refine lv_irem hx hb dX10_fitter_65 (by decide) ?_
      refine lv_iadd hx hb dX10_fitter_66 ?_
      refine lv_goto (tgt := 71) hx hb dX10_fitter_67 (by decide) ?_
      exact wX10_fitter_71 C hk hf hq H locs ls hw hS (lv_sub hl [1, 2, 4, 5, 0] rfl)

set_option maxRecDepth 100000 in
set_option maxHeartbeats 4000000 in
theorem lwX10_fitter_23 {p : Program} {l : Launch} {e : Env} {s : State} {m : MethodId} {args : Array Value} {below : List Frame} {meth : Method} {c : Code} {Γ : Gm} {A : Nat → Prop} {G : Gs} {o : Nat} {r : Rec} {v2 : Int32} {v3 : Int32} {v4 : Int32} {v5 : Int32} {q : (Rec × Int32)} {fin : Rec × Int32} (C : Cx p s m args meth c yX10_fitter cX10_fitter 7 (some .int) Γ A) (hk : kd Γ o = some 10) (hf : iter (fun st : Int32 × Int32 × Int32 => bX10_fitter_23 r v2 st.1 st.2.1 st.2.2) (v3, v4, v5) = some q) (hq : (fun x => x = fin) q) : Wk p l e { frames := 3, cells := 0, slots := 0, locals := 66 } s m args below meth c Γ A (ug G o fin.1) (some (.int fin.2)) 23 7 [(0, .ref (ad Γ o)), (2, .int v2), (3, .int v3), (4, .int v4), (5, .int v5)] [] (ug G o r) := by
  intro H locs ls hw hS hl
  refine iter_walk (P := (fun st : Int32 × Int32 × Int32 => Wk p l e { frames := 3, cells := 0, slots := 0, locals := 66 } s m args below meth c Γ A (ug G o fin.1) (some (.int fin.2)) 23 7 [(0, .ref (ad Γ o)), (2, .int v2), (3, .int st.1), (4, .int st.2.1), (5, .int st.2.2)] [] (ug G o r))) (K := (fun x => x = fin)) (fun st q hq1 h1 h2 => ?_) hf hq H locs ls hw hS hl
  exact wX10_fitter_23 (v3 := st.1) (v4 := st.2.1) (v5 := st.2.2) C hk hq1 ⟨h1, h2⟩

noncomputable def fX10_fitter (r : Rec) (v1 : Int32) (v2 : Int32) : Option (Rec × Int32) :=
  (some (si r 0 0)).bind fun r7 => (fX10_hand r7 v1).bind fun z8 => if z8.2 = 0 then some ((z8.1, (-1))) else iter (fun st : Int32 × Int32 × Int32 => bX10_fitter_23 z8.1 v2 st.1 st.2.1 st.2.2) ((-1), (-1), 0)
set_option maxRecDepth 100000 in
set_option maxHeartbeats 4000000 in
theorem wX10_fitter_e {p : Program} {l : Launch} {e : Env} {s : State} {m : MethodId} {args : Array Value} {below : List Frame} {meth : Method} {c : Code} {Γ : Gm} {A : Nat → Prop} {G : Gs} {o : Nat} {r : Rec} {v1 : Int32} {v2 : Int32} {q : (Rec × Int32)} {fin : Rec × Int32} (C : Cx p s m args meth c yX10_fitter cX10_fitter 7 (some .int) Γ A) (hk : kd Γ o = some 10) (hf : fX10_fitter r v1 v2 = some q) (hq : (fun x => x = fin) q) : Wk p l e { frames := 3, cells := 0, slots := 0, locals := 66 } s m args below meth c Γ A (ug G o fin.1) (some (.int fin.2)) 0 7 [(0, .ref (ad Γ o)), (1, .int v1), (2, .int v2)] [] (ug G o r) := by
  intro H locs ls hw hS hl
  unfold fX10_fitter at hf
  obtain ⟨hx, hb, hml, hr, hown, htw, hlocks, hE⟩ := id C
  have hown : s.vm.findClass RX10 = some m.cls := hown
  refine lv_aload_n hx hb dX10_fitter_0 rfl (lv_at hl 0 rfl) ?_
  refine lv_iconst (v := 0) hx hb dX10_fitter_1 (by decide) ?_
  obtain ⟨r7, hr7, hf⟩ := bd hf
  have hr7 := Option.some.inj hr7
  refine wo_put (C := RX10) (T := TX10) (N := 49) (v := .int 0) (ty := .int) hx hb htw uwX10 tyX10 tyX10_ok nmX10 hown hE hw hS hk rfl rfl 0 (by decide) (htw _ mw1243) (fun _ h9 => h9) rfl (tyX10_ok 0 (by decide)) rfl rfl (Nat.le_of_ble_eq_true rfl) (st10_0 hr7) dX10_fitter_2 (fun H locs hw hS => ?_)
  refine lv_aload_n hx hb dX10_fitter_5 rfl (lv_at hl 0 rfl) ?_
  refine lv_iload_n hx hb dX10_fitter_6 rfl (lv_at hl 1 rfl) ?_
  obtain ⟨z8, hz8, hf⟩ := bd hf
  refine cl_Vs (rest := []) (kX10_hand (l := l) (Γ := Γ) (A := A) (G := G) (o := o) hk hz8) ⟨hx, hb, hml, hown, htw⟩ hE hw hS (wo_me hw hk) (q0 := 0) rfl rfl mw1537 mw1539 mw65 mw129 mw1540 pdX10_hand ⟨Nat.le_of_ble_eq_true rfl, Nat.le_of_ble_eq_true rfl⟩ rfl rfl hl.1 (Nat.le_of_ble_eq_true rfl) dX10_fitter_7 (fun H locs hw hS => ?_)
  refine lv_if_ne (tgt := 15) hx hb dX10_fitter_10 (by decide) (fun c9 => ?_) (fun c9 => ?_)
  · have hf := ifn c9 hf
    refine lv_iconst (v := (-1)) hx hb dX10_fitter_15 (by decide) ?_
    refine lv_istore_n (lv' := [(3, .int (-1)), (0, .ref (ad Γ o)), (1, .int v1), (2, .int v2)]) hx hb dX10_fitter_16 rfl hl (by decide) rfl (fun ls hl => ?_)
    refine lv_iconst (v := (-1)) hx hb dX10_fitter_17 (by decide) ?_
    refine lv_istore (lv' := [(4, .int (-1)), (3, .int (-1)), (0, .ref (ad Γ o)), (1, .int v1), (2, .int v2)]) hx hb dX10_fitter_18 hl (by decide) rfl (fun ls hl => ?_)
    refine lv_iconst (v := 0) hx hb dX10_fitter_20 (by decide) ?_
    refine lv_istore (lv' := [(5, .int 0), (4, .int (-1)), (3, .int (-1)), (0, .ref (ad Γ o)), (1, .int v1), (2, .int v2)]) hx hb dX10_fitter_21 hl (by decide) rfl (fun ls hl => ?_)
    exact lwX10_fitter_23 C hk hf hq H locs ls hw hS (lv_sub hl [3, 5, 2, 1, 0] rfl)
  · have hf := ifp c9 hf
    refine lv_iconst (v := (-1)) hx hb dX10_fitter_13 (by decide) ?_
    obtain rfl := Option.some.inj hf
    subst hq
    exact rt_i C hw hS dX10_fitter_14

theorem kX10_fitter {l : Launch} {Γ : Gm} {A : Nat → Prop} {G : Gs} {o : Nat} {r : Rec} {v1 : Int32} {v2 : Int32} {fin : Rec × Int32} (hk : kd Γ o = some 10) (hf : fX10_fitter r v1 v2 = some fin) : Kt l yX10_fitter cX10_fitter 7 (some .int) 3 66 Γ A (ug G o r) (ug G o fin.1) [.ref (ad Γ o), .int v1, .int v2] (some (.int fin.2)) :=
  kt_of (by decide) (Nat.le_of_ble_eq_true rfl) (fun p e s m args below meth c C => wX10_fitter_e C hk hf rfl)
theorem kgX10_fitter {l : Launch} {Γ : Gm} {A : Nat → Prop} {G : Gs} {o : Nat} {v1 : Int32} {v2 : Int32} {fin : Rec × Int32} (hk : kd Γ o = some 10) (hf : fX10_fitter (G o) v1 v2 = some fin) : Kt l yX10_fitter cX10_fitter 7 (some .int) 3 66 Γ A G (ug G o fin.1) [.ref (ad Γ o), .int v1, .int v2] (some (.int fin.2)) := by
  have h := kX10_fitter (l := l) (A := A) (G := G) (r := G o) hk hf
  rw [ug_self] at h
  exact h
