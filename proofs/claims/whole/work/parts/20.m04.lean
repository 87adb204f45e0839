noncomputable def fX10_ofState (r : Rec) (v1 : Int32) : Option Int32 :=
  (fX10_in v1 10 39).bind fun z1 => if z1 = 0 then if v1 = 0 then some (gi r 30) else if v1 = 1 then (fX10_bright r).bind fun z2 => some (z2) else if v1 = 2 then (fX10_isDusk r).bind fun z3 => if z3 = 0 then some (0) else some (1) else if v1 = 3 then some (gi r 31) else if v1 = 4 then some (gi r 32) else some ((-2)) else if (v1 - v1 / 10 * 10) < (gi r 26) then if 20 ≤ v1 then if 30 ≤ v1 then gd (inR (v1 - v1 / 10 * 10) 8) (some (ga r 28 (Int32.toNatClampNeg (v1 - v1 / 10 * 10)))) else gd (inR (v1 - v1 / 10 * 10) 8) (some (ga r 34 (Int32.toNatClampNeg (v1 - v1 / 10 * 10)))) else gd (inR (v1 - v1 / 10 * 10) 8) (some (ga r 33 (Int32.toNatClampNeg (v1 - v1 / 10 * 10)))) else some ((-2))
set_option maxRecDepth 100000 in
set_option maxHeartbeats 4000000 in
theorem wX10_ofState_e {p : Program} {l : Launch} {e : Env} {s : State} {m : MethodId} {args : Array Value} {below : List Frame} {meth : Method} {c : Code} {Γ : Gm} {A : Nat → Prop} {G : Gs} {o : Nat} {r : Rec} {v1 : Int32} {q : Int32} {fin : Int32} (C : Cx p s m args meth c yX10_ofState cX10_ofState 3 (some .int) Γ A) (hk : kd Γ o = some 10) (hf : fX10_ofState r v1 = some q) (hq : (fun x => x = fin) q) : Wk p l e { frames := 1, cells := 0, slots := 0, locals := 22 } s m args below meth c Γ A (ug G o r) (some (.int fin)) 0 3 [(0, .ref (ad Γ o)), (1, .int v1)] [] (ug G o r) := by
  intro H locs ls hw hS hl
  unfold fX10_ofState at hf
  obtain ⟨hx, hb, hml, hr, hown, htw, hlocks, hE⟩ := id C
  have hown : s.vm.findClass RX10 = some m.cls := hown
  refine lv_iload_n hx hb dX10_ofState_0 rfl (lv_at hl 1 rfl) ?_
  refine lv_bipush (v := 10) hx hb dX10_ofState_1 (by decide) ?_
  refine lv_bipush (v := 39) hx hb dX10_ofState_3 (by decide) ?_
  obtain ⟨z1, hz1, hf⟩ := bd hf
  refine cl_Ss (rest := []) (kX10_in (l := l) (Γ := Γ) (A := A) (G := (ug G o r)) hz1) ⟨hx, hb, hml, hown, htw⟩ hE hw hS mw1404 mw1405 mw129 mw1406 pdX10_in ⟨Nat.le_of_ble_eq_true rfl, Nat.le_of_ble_eq_true rfl⟩ rfl rfl hl.1 (Nat.le_of_ble_eq_true rfl) dX10_ofState_5 (fun H locs hw hS => ?_)
  refine lv_if_eq (tgt := 66) hx hb dX10_ofState_8 (by decide) (fun c16 => ?_) (fun c16 => ?_)
  · have hf := ifp c16 hf
    refine lv_iload_n hx hb dX10_ofState_66 rfl (lv_at hl 1 rfl) ?_
    by_cases c5 : v1 = 0
    · have hf := ifp c5 hf
      rw [c5]
      refine lv_tableIn (off := 33) (tgt := 100) hx hb dX10_ofState_67 (by decide) (by decide) (by rfl) (by decide) ?_
      refine lv_aload_n hx hb dX10_ofState_100 rfl (lv_at hl 0 rfl) ?_
      refine va_get (ci := 10) (v := .int (gi r 30)) (C := RX10) (T := TX10) (N := 49) hx hb htw uwX10 hown hE.1 (wo_me hw hk) 0 rfl rfl 30 (by decide) (htw _ mw1273) (fun _ h9 => h9) rfl dX10_ofState_101 ?_
      obtain rfl := Option.some.inj hf
      subst hq
      exact rt_i C hw hS dX10_ofState_104
    have hf := ifn c5 hf
    by_cases c6 : v1 = 1
    · have hf := ifp c6 hf
      rw [c6]
      refine lv_tableIn (off := 38) (tgt := 105) hx hb dX10_ofState_67 (by decide) (by decide) (by rfl) (by decide) ?_
      refine lv_aload_n hx hb dX10_ofState_105 rfl (lv_at hl 0 rfl) ?_
      obtain ⟨z2, hz2, hf⟩ := bd hf
      refine cl_Vs (rest := []) (kX10_bright (l := l) (Γ := Γ) (A := A) (G := G) (o := o) hk hz2) ⟨hx, hb, hml, hown, htw⟩ hE hw hS (wo_me hw hk) (q0 := 0) rfl rfl mw1644 mw1646 mw87 mw129 mw1647 pdX10_bright ⟨Nat.le_of_ble_eq_true rfl, Nat.le_of_ble_eq_true rfl⟩ rfl rfl hl.1 (Nat.le_of_ble_eq_true rfl) dX10_ofState_106 (fun H locs hw hS => ?_)
      obtain rfl := Option.some.inj hf
      subst hq
      exact rt_i C hw hS dX10_ofState_109
    have hf := ifn c6 hf
    by_cases c7 : v1 = 2
    · have hf := ifp c7 hf
      rw [c7]
      refine lv_tableIn (off := 43) (tgt := 110) hx hb dX10_ofState_67 (by decide) (by decide) (by rfl) (by decide) ?_
      refine lv_aload_n hx hb dX10_ofState_110 rfl (lv_at hl 0 rfl) ?_
      obtain ⟨z3, hz3, hf⟩ := bd hf
      refine cl_Vs (rest := []) (kX10_isDusk (l := l) (Γ := Γ) (A := A) (G := G) (o := o) hk hz3) ⟨hx, hb, hml, hown, htw⟩ hE hw hS (wo_me hw hk) (q0 := 0) rfl rfl mw1648 mw1650 mw88 mw129 mw1651 pdX10_isDusk ⟨Nat.le_of_ble_eq_true rfl, Nat.le_of_ble_eq_true rfl⟩ rfl rfl hl.1 (Nat.le_of_ble_eq_true rfl) dX10_ofState_111 (fun H locs hw hS => ?_)
      refine lv_if_eq (tgt := 121) hx hb dX10_ofState_114 (by decide) (fun c4 => ?_) (fun c4 => ?_)
      · have hf := ifp c4 hf
        refine lv_iconst (v := 0) hx hb dX10_ofState_121 (by decide) ?_
        obtain rfl := Option.some.inj hf
        subst hq
        exact rt_i C hw hS dX10_ofState_122
      · have hf := ifn c4 hf
        refine lv_iconst (v := 1) hx hb dX10_ofState_117 (by decide) ?_
        refine lv_goto (tgt := 122) hx hb dX10_ofState_118 (by decide) ?_
        obtain rfl := Option.some.inj hf
        subst hq
        exact rt_i C hw hS dX10_ofState_122
    have hf := ifn c7 hf
    by_cases c8 : v1 = 3
    · have hf := ifp c8 hf
      rw [c8]
      refine lv_tableIn (off := 56) (tgt := 123) hx hb dX10_ofState_67 (by decide) (by decide) (by rfl) (by decide) ?_
      refine lv_aload_n hx hb dX10_ofState_123 rfl (lv_at hl 0 rfl) ?_
      refine va_get (ci := 10) (v := .int (gi r 31)) (C := RX10) (T := TX10) (N := 49) hx hb htw uwX10 hown hE.1 (wo_me hw hk) 0 rfl rfl 31 (by decide) (htw _ mw1274) (fun _ h9 => h9) rfl dX10_ofState_124 ?_
      obtain rfl := Option.some.inj hf
      subst hq
      exact rt_i C hw hS dX10_ofState_127
    have hf := ifn c8 hf
    by_cases c9 : v1 = 4
    · have hf := ifp c9 hf
      rw [c9]
      refine lv_tableIn (off := 61) (tgt := 128) hx hb dX10_ofState_67 (by decide) (by decide) (by rfl) (by decide) ?_
      refine lv_aload_n hx hb dX10_ofState_128 rfl (lv_at hl 0 rfl) ?_
      refine va_get (ci := 10) (v := .int (gi r 32)) (C := RX10) (T := TX10) (N := 49) hx hb htw uwX10 hown hE.1 (wo_me hw hk) 0 rfl rfl 32 (by decide) (htw _ mw1275) (fun _ h9 => h9) rfl dX10_ofState_129 ?_
      obtain rfl := Option.some.inj hf
      subst hq
      exact rt_i C hw hS dX10_ofState_132
    have hf := ifn c9 hf
    refine lv_tableOut (tgt := 133) hx hb dX10_ofState_67 (by have := And.intro (ts_ne (k := 0) (by decide) c5) (And.intro (ts_ne (k := 1) (by decide) c6) (And.intro (ts_ne (k := 2) (by decide) c7) (And.intro (ts_ne (k := 3) (by decide) c8) (And.intro (ts_ne (k := 4) (by decide) c9) (True.intro))))); omega) (by decide) ?_
    refine lv_bipush (v := (-2)) hx hb dX10_ofState_133 (by decide) ?_
    obtain rfl := Option.some.inj hf
    subst hq
    exact rt_i C hw hS dX10_ofState_135
  · have hf := ifn c16 hf
    refine lv_iload_n hx hb dX10_ofState_11 rfl (lv_at hl 1 rfl) ?_
    refine lv_bipush (v := 10) hx hb dX10_ofState_12 (by decide) ?_
    refine lv_irem hx hb dX10_ofState_14 (by decide) ?_
    refine lv_istore_n (lv' := [(2, .int (v1 - v1 / 10 * 10)), (0, .ref (ad Γ o)), (1, .int v1)]) hx hb dX10_ofState_15 rfl hl (by decide) rfl (fun ls hl => ?_)
    refine lv_iload_n hx hb dX10_ofState_16 rfl (lv_at hl 0 rfl) ?_
    refine lv_aload_n hx hb dX10_ofState_17 rfl (lv_at hl 1 rfl) ?_
    refine va_get (ci := 10) (v := .int (gi r 26)) (C := RX10) (T := TX10) (N := 49) hx hb htw uwX10 hown hE.1 (wo_me hw hk) 0 rfl rfl 26 (by decide) (htw _ mw1269) (fun _ h9 => h9) rfl dX10_ofState_18 ?_
    refine lv_icmp_lt (tgt := 29) hx hb dX10_ofState_21 (by decide) (fun c15 => ?_) (fun c15 => ?_)
    · have hf := ifp c15 hf
      refine lv_iload_n hx hb dX10_ofState_29 rfl (lv_at hl 2 rfl) ?_
      refine lv_bipush (v := 20) hx hb dX10_ofState_30 (by decide) ?_
      refine lv_icmp_ge (tgt := 44) hx hb dX10_ofState_32 (by decide) (fun c14 => ?_) (fun c14 => ?_)
      · have hf := ifp c14 hf
        refine lv_iload_n hx hb dX10_ofState_44 rfl (lv_at hl 2 rfl) ?_
        refine lv_bipush (v := 30) hx hb dX10_ofState_45 (by decide) ?_
        refine lv_icmp_ge (tgt := 59) hx hb dX10_ofState_47 (by decide) (fun c12 => ?_) (fun c12 => ?_)
        · have hf := ifp c12 hf
          refine lv_aload_n hx hb dX10_ofState_59 rfl (lv_at hl 1 rfl) ?_
          refine va_get (ci := 10) (v := .ref (aa Γ o 28)) (C := RX10) (T := TX10) (N := 49) hx hb htw uwX10 hown hE.1 (wo_me hw hk) 0 rfl rfl 28 (by decide) (htw _ mw1271) (fun _ h9 => h9) rfl dX10_ofState_60 ?_
          refine lv_iload_n hx hb dX10_ofState_63 rfl (lv_at hl 0 rfl) ?_
          obtain ⟨g10, hf⟩ := gd_some hf
          refine va_iald hx hb hE.1 (wo_me hw hk) 12 0 rfl rfl (inR_in g10) dX10_ofState_64 ?_
          obtain rfl := Option.some.inj hf
          subst hq
          exact rt_i C hw hS dX10_ofState_65
        · have hf := ifn c12 hf
          refine lv_aload_n hx hb dX10_ofState_50 rfl (lv_at hl 1 rfl) ?_
          refine va_get (ci := 10) (v := .ref (aa Γ o 34)) (C := RX10) (T := TX10) (N := 49) hx hb htw uwX10 hown hE.1 (wo_me hw hk) 0 rfl rfl 34 (by decide) (htw _ mw1277) (fun _ h9 => h9) rfl dX10_ofState_51 ?_
          refine lv_iload_n hx hb dX10_ofState_54 rfl (lv_at hl 0 rfl) ?_
          obtain ⟨g11, hf⟩ := gd_some hf
          refine va_iald hx hb hE.1 (wo_me hw hk) 14 0 rfl rfl (inR_in g11) dX10_ofState_55 ?_
          refine lv_goto (tgt := 65) hx hb dX10_ofState_56 (by decide) ?_
          obtain rfl := Option.some.inj hf
          subst hq
          exact rt_i C hw hS dX10_ofState_65
      · have hf := ifn c14 hf
        refine lv_aload_n hx hb dX10_ofState_35 rfl (lv_at hl 1 rfl) ?_
        refine va_get (ci := 10) (v := .ref (aa Γ o 33)) (C := RX10) (T := TX10) (N := 49) hx hb htw uwX10 hown hE.1 (wo_me hw hk) 0 rfl rfl 33 (by decide) (htw _ mw1276) (fun _ h9 => h9) rfl dX10_ofState_36 ?_
        refine lv_iload_n hx hb dX10_ofState_39 rfl (lv_at hl 0 rfl) ?_
        obtain ⟨g13, hf⟩ := gd_some hf
        refine va_iald hx hb hE.1 (wo_me hw hk) 13 0 rfl rfl (inR_in g13) dX10_ofState_40 ?_
        refine lv_goto (tgt := 65) hx hb dX10_ofState_41 (by decide) ?_
        obtain rfl := Option.some.inj hf
        subst hq
        exact rt_i C hw hS dX10_ofState_65
    · have hf := ifn c15 hf
      refine lv_bipush (v := (-2)) hx hb dX10_ofState_24 (by decide) ?_
      refine lv_goto (tgt := 65) hx hb dX10_ofState_26 (by decide) ?_
      obtain rfl := Option.some.inj hf
      subst hq
      exact rt_i C hw hS dX10_ofState_65

theorem kX10_ofState {l : Launch} {Γ : Gm} {A : Nat → Prop} {G : Gs} {o : Nat} {r : Rec} {v1 : Int32} {fin : Int32} (hk : kd Γ o = some 10) (hf : fX10_ofState r v1 = some fin) : Kt l yX10_ofState cX10_ofState 3 (some .int) 1 22 Γ A (ug G o r) (ug G o r) [.ref (ad Γ o), .int v1] (some (.int fin)) :=
  kt_of (by decide) (Nat.le_of_ble_eq_true rfl) (fun p e s m args below meth c C => wX10_ofState_e C hk hf rfl)
theorem kgX10_ofState {l : Launch} {Γ : Gm} {A : Nat → Prop} {G : Gs} {o : Nat} {v1 : Int32} {fin : Int32} (hk : kd Γ o = some 10) (hf : fX10_ofState (G o) v1 = some fin) : Kt l yX10_ofState cX10_ofState 3 (some .int) 1 22 Γ A G G [.ref (ad Γ o), .int v1] (some (.int fin)) := by
  have h := kX10_ofState (l := l) (A := A) (G := G) (r := G o) hk hf
  rw [ug_self] at h
  exact h
noncomputable def fX10_state (r : Rec) (v1 : Int32) (v2 : Int32) (v3 : Int32) (v4 : Int32) : Option (Rec × Int32) :=
  (some (si r 0 0)).bind fun r1 => (fX10_layAll r1 v1 v2).bind fun z2 => if z2.2 = 0 then some ((z2.1, (-2))) else (fX10_deeds z2.1).bind fun z3 => (fX10_in v3 0 z3).bind fun z4 => if z4 = 0 then some ((z2.1, (-2))) else (fX10_play z2.1 v3).bind fun z5 => if z5.2 = v3 then (fX10_ofState z5.1 v4).bind fun z6 => some ((z5.1, z6)) else some ((z5.1, (-2)))
set_option maxRecDepth 100000 in
set_option maxHeartbeats 4000000 in
theorem wX10_state_e {p : Program} {l : Launch} {e : Env} {s : State} {m : MethodId} {args : Array Value} {below : List Frame} {meth : Method} {c : Code} {Γ : Gm} {A : Nat → Prop} {G : Gs} {o : Nat} {r : Rec} {v1 : Int32} {v2 : Int32} {v3 : Int32} {v4 : Int32} {q : (Rec × Int32)} {fin : Rec × Int32} (C : Cx p s m args meth c yX10_state cX10_state 5 (some .int) Γ A) (hk : kd Γ o = some 10) (hf : fX10_state r v1 v2 v3 v4 = some q) (hq : (fun x => x = fin) q) : Wk p l e { frames := 7, cells := 0, slots := 0, locals := 156 } s m args below meth c Γ A (ug G o fin.1) (some (.int fin.2)) 0 5 [(0, .ref (ad Γ o)), (1, .int v1), (2, .int v2), (3, .int v3), (4, .int v4)] [] (ug G o r) := by
  intro H locs ls hw hS hl
  unfold fX10_state at hf
  obtain ⟨hx, hb, hml, hr, hown, htw, hlocks, hE⟩ := id C
  have hown : s.vm.findClass RX10 = some m.cls := hown
  refine lv_aload_n hx hb dX10_state_0 rfl (lv_at hl 0 rfl) ?_
  refine lv_iconst (v := 0) hx hb dX10_state_1 (by decide) ?_
  obtain ⟨r1, hr1, hf⟩ := bd hf
  have hr1 := Option.some.inj hr1
  refine wo_put (C := RX10) (T := TX10) (N := 49) (v := .int 0) (ty := .int) hx hb htw uwX10 tyX10 tyX10_ok nmX10 hown hE hw hS hk rfl rfl 0 (by decide) (htw _ mw1243) (fun _ h9 => h9) rfl (tyX10_ok 0 (by decide)) rfl rfl (Nat.le_of_ble_eq_true rfl) (st10_0 hr1) dX10_state_2 (fun H locs hw hS => ?_)
  refine lv_aload_n hx hb dX10_state_5 rfl (lv_at hl 0 rfl) ?_
  refine lv_iload_n hx hb dX10_state_6 rfl (lv_at hl 1 rfl) ?_
  refine lv_iload_n hx hb dX10_state_7 rfl (lv_at hl 2 rfl) ?_
  obtain ⟨z2, hz2, hf⟩ := bd hf
  refine cl_Vs (rest := []) (kX10_layAll (l := l) (Γ := Γ) (A := A) (G := G) (o := o) hk hz2) ⟨hx, hb, hml, hown, htw⟩ hE hw hS (wo_me hw hk) (q0 := 0) rfl rfl mw1588 mw1590 mw74 mw129 mw1591 pdX10_layAll ⟨Nat.le_of_ble_eq_true rfl, Nat.le_of_ble_eq_true rfl⟩ rfl rfl hl.1 (Nat.le_of_ble_eq_true rfl) dX10_state_8 (fun H locs hw hS => ?_)
  refine lv_if_eq (tgt := 44) hx hb dX10_state_11 (by decide) (fun c9 => ?_) (fun c9 => ?_)
  · have hf := ifp c9 hf
    refine lv_bipush (v := (-2)) hx hb dX10_state_44 (by decide) ?_
    obtain rfl := Option.some.inj hf
    subst hq
    exact rt_i C hw hS dX10_state_46
  · have hf := ifn c9 hf
    refine lv_iload_n hx hb dX10_state_14 rfl (lv_at hl 3 rfl) ?_
    refine lv_iconst (v := 0) hx hb dX10_state_15 (by decide) ?_
    refine lv_aload_n hx hb dX10_state_16 rfl (lv_at hl 0 rfl) ?_
    obtain ⟨z3, hz3, hf⟩ := bd hf
    refine cl_Vs (rest := [.int 0, .int v3]) (kX10_deeds (l := l) (Γ := Γ) (A := A) (G := G) (o := o) hk hz3) ⟨hx, hb, hml, hown, htw⟩ hE hw hS (wo_me hw hk) (q0 := 0) rfl rfl mw1576 mw1578 mw72 mw129 mw1579 pdX10_deeds ⟨Nat.le_of_ble_eq_true rfl, Nat.le_of_ble_eq_true rfl⟩ rfl rfl hl.1 (Nat.le_of_ble_eq_true rfl) dX10_state_17 (fun H locs hw hS => ?_)
    obtain ⟨z4, hz4, hf⟩ := bd hf
    refine cl_Ss (rest := []) (kX10_in (l := l) (Γ := Γ) (A := A) (G := (ug G o z2.1)) hz4) ⟨hx, hb, hml, hown, htw⟩ hE hw hS mw1404 mw1405 mw129 mw1406 pdX10_in ⟨Nat.le_of_ble_eq_true rfl, Nat.le_of_ble_eq_true rfl⟩ rfl rfl hl.1 (Nat.le_of_ble_eq_true rfl) dX10_state_20 (fun H locs hw hS => ?_)
    refine lv_if_eq (tgt := 44) hx hb dX10_state_23 (by decide) (fun c8 => ?_) (fun c8 => ?_)
    · have hf := ifp c8 hf
      refine lv_bipush (v := (-2)) hx hb dX10_state_44 (by decide) ?_
      obtain rfl := Option.some.inj hf
      subst hq
      exact rt_i C hw hS dX10_state_46
    · have hf := ifn c8 hf
      refine lv_aload_n hx hb dX10_state_26 rfl (lv_at hl 0 rfl) ?_
      refine lv_iload_n hx hb dX10_state_27 rfl (lv_at hl 3 rfl) ?_
      obtain ⟨z5, hz5, hf⟩ := bd hf
      refine cl_Vs (rest := []) (kX10_play (l := l) (Γ := Γ) (A := A) (G := G) (o := o) hk hz5) ⟨hx, hb, hml, hown, htw⟩ hE hw hS (wo_me hw hk) (q0 := 0) rfl rfl mw1592 mw1594 mw75 mw129 mw1595 pdX10_play ⟨Nat.le_of_ble_eq_true rfl, Nat.le_of_ble_eq_true rfl⟩ rfl rfl hl.1 (Nat.le_of_ble_eq_true rfl) dX10_state_28 (fun H locs hw hS => ?_)
      refine lv_iload_n hx hb dX10_state_31 rfl (lv_at hl 3 rfl) ?_
      refine lv_icmp_ne (tgt := 44) hx hb dX10_state_32 (by decide) (fun c7 => ?_) (fun c7 => ?_)
      · have hf := ifn c7 hf
        refine lv_bipush (v := (-2)) hx hb dX10_state_44 (by decide) ?_
        obtain rfl := Option.some.inj hf
        subst hq
        exact rt_i C hw hS dX10_state_46
      · have hf := ifp c7 hf
        refine lv_aload_n hx hb dX10_state_35 rfl (lv_at hl 0 rfl) ?_
        refine lv_iload hx hb dX10_state_36 (lv_at hl 4 rfl) ?_
        obtain ⟨z6, hz6, hf⟩ := bd hf
        refine cl_Vs (rest := []) (kX10_ofState (l := l) (Γ := Γ) (A := A) (G := G) (o := o) hk hz6) ⟨hx, hb, hml, hown, htw⟩ hE hw hS (wo_me hw hk) (q0 := 0) rfl rfl mw1640 mw1642 mw86 mw129 mw1643 pdX10_ofState ⟨Nat.le_of_ble_eq_true rfl, Nat.le_of_ble_eq_true rfl⟩ rfl rfl hl.1 (Nat.le_of_ble_eq_true rfl) dX10_state_38 (fun H locs hw hS => ?_)
        refine lv_goto (tgt := 46) hx hb dX10_state_41 (by decide) ?_
        obtain rfl := Option.some.inj hf
        subst hq
        exact rt_i C hw hS dX10_state_46

theorem kX10_state {l : Launch} {Γ : Gm} {A : Nat → Prop} {G : Gs} {o : Nat} {r : Rec} {v1 : Int32} {v2 : Int32} {v3 : Int32} {v4 : Int32} {fin : Rec × Int32} (hk : kd Γ o = some 10) (hf : fX10_state r v1 v2 v3 v4 = some fin) : Kt l yX10_state cX10_state 5 (some .int) 7 156 Γ A (ug G o r) (ug G o fin.1) [.ref (ad Γ o), .int v1, .int v2, .int v3, .int v4] (some (.int fin.2)) :=
  kt_of (by decide) (Nat.le_of_ble_eq_true rfl) (fun p e s m args below meth c C => wX10_state_e C hk hf rfl)
theorem kgX10_state {l : Launch} {Γ : Gm} {A : Nat → Prop} {G : Gs} {o : Nat} {v1 : Int32} {v2 : Int32} {v3 : Int32} {v4 : Int32} {fin : Rec × Int32} (hk : kd Γ o = some 10) (hf : fX10_state (G o) v1 v2 v3 v4 = some fin) : Kt l yX10_state cX10_state 5 (some .int) 7 156 Γ A G (ug G o fin.1) [.ref (ad Γ o), .int v1, .int v2, .int v3, .int v4] (some (.int fin.2)) := by
  have h := kX10_state (l := l) (A := A) (G := G) (r := G o) hk hf
  rw [ug_self] at h
  exact h
noncomputable def fX10_dinners (r : Rec) : Option Int32 :=
  gd (inR (25 * (gi r 35)) 200) (some (ga r 8 (Int32.toNatClampNeg (25 * (gi r 35)))))
set_option maxRecDepth 100000 in
set_option maxHeartbeats 4000000 in
theorem wX10_dinners_e {p : Program} {l : Launch} {e : Env} {s : State} {m : MethodId} {args : Array Value} {below : List Frame} {meth : Method} {c : Code} {Γ : Gm} {A : Nat → Prop} {G : Gs} {o : Nat} {r : Rec} {q : Int32} {fin : Int32} (C : Cx p s m args meth c yX10_dinners cX10_dinners 1 (some .int) Γ A) (hk : kd Γ o = some 10) (hf : fX10_dinners r = some q) (hq : (fun x => x = fin) q) : Wk p l e { frames := 0, cells := 0, slots := 0, locals := 0 } s m args below meth c Γ A (ug G o r) (some (.int fin)) 0 1 [(0, .ref (ad Γ o))] [] (ug G o r) := by
  intro H locs ls hw hS hl
  unfold fX10_dinners at hf
  obtain ⟨hx, hb, hml, hr, hown, htw, hlocks, hE⟩ := id C
  have hown : s.vm.findClass RX10 = some m.cls := hown
  refine lv_aload_n hx hb dX10_dinners_0 rfl (lv_at hl 0 rfl) ?_
  refine va_get (ci := 10) (v := .ref (aa Γ o 8)) (C := RX10) (T := TX10) (N := 49) hx hb htw uwX10 hown hE.1 (wo_me hw hk) 0 rfl rfl 8 (by decide) (htw _ mw1251) (fun _ h9 => h9) rfl dX10_dinners_1 ?_
  refine lv_bipush (v := 25) hx hb dX10_dinners_4 (by decide) ?_
  refine lv_aload_n hx hb dX10_dinners_6 rfl (lv_at hl 0 rfl) ?_
  refine va_get (ci := 10) (v := .int (gi r 35)) (C := RX10) (T := TX10) (N := 49) hx hb htw uwX10 hown hE.1 (wo_me hw hk) 0 rfl rfl 35 (by decide) (htw _ mw1278) (fun _ h9 => h9) rfl dX10_dinners_7 ?_
  refine lv_imul hx hb dX10_dinners_10 ?_
  obtain ⟨g1, hf⟩ := gd_some hf
  refine va_iald hx hb hE.1 (wo_me hw hk) 8 0 rfl rfl (inR_in g1) dX10_dinners_11 ?_
  obtain rfl := Option.some.inj hf
  subst hq
  exact rt_i C hw hS dX10_dinners_12

theorem kX10_dinners {l : Launch} {Γ : Gm} {A : Nat → Prop} {G : Gs} {o : Nat} {r : Rec} {fin : Int32} (hk : kd Γ o = some 10) (hf : fX10_dinners r = some fin) : Kt l yX10_dinners cX10_dinners 1 (some .int) 0 0 Γ A (ug G o r) (ug G o r) [.ref (ad Γ o)] (some (.int fin)) :=
  kt_of (by decide) (Nat.le_of_ble_eq_true rfl) (fun p e s m args below meth c C => wX10_dinners_e C hk hf rfl)
theorem kgX10_dinners {l : Launch} {Γ : Gm} {A : Nat → Prop} {G : Gs} {o : Nat} {fin : Int32} (hk : kd Γ o = some 10) (hf : fX10_dinners (G o) = some fin) : Kt l yX10_dinners cX10_dinners 1 (some .int) 0 0 Γ A G G [.ref (ad Γ o)] (some (.int fin)) := by
  have h := kX10_dinners (l := l) (A := A) (G := G) (r := G o) hk hf
  rw [ug_self] at h
  exact h
noncomputable def fX10_dinnerOf (r : Rec) (v1 : Int32) (v2 : Int32) : Option Int32 :=
  (some ((((25 * (gi r 35)) + 1) + (3 * v1)) + v2)).bind fun x1 => gd (inR x1 200) (some (ga r 8 (Int32.toNatClampNeg x1)))
set_option maxRecDepth 100000 in
set_option maxHeartbeats 4000000 in
theorem wX10_dinnerOf_e {p : Program} {l : Launch} {e : Env} {s : State} {m : MethodId} {args : Array Value} {below : List Frame} {meth : Method} {c : Code} {Γ : Gm} {A : Nat → Prop} {G : Gs} {o : Nat} {r : Rec} {v1 : Int32} {v2 : Int32} {q : Int32} {fin : Int32} (C : Cx p s m args meth c yX10_dinnerOf cX10_dinnerOf 3 (some .int) Γ A) (hk : kd Γ o = some 10) (hf : fX10_dinnerOf r v1 v2 = some q) (hq : (fun x => x = fin) q) : Wk p l e { frames := 0, cells := 0, slots := 0, locals := 0 } s m args below meth c Γ A (ug G o r) (some (.int fin)) 0 3 [(0, .ref (ad Γ o)), (1, .int v1), (2, .int v2)] [] (ug G o r) := by
  intro H locs ls hw hS hl
  unfold fX10_dinnerOf at hf
  obtain ⟨hx, hb, hml, hr, hown, htw, hlocks, hE⟩ := id C
  have hown : s.vm.findClass RX10 = some m.cls := hown
  refine lv_aload_n hx hb dX10_dinnerOf_0 rfl (lv_at hl 0 rfl) ?_
  refine va_get (ci := 10) (v := .ref (aa Γ o 8)) (C := RX10) (T := TX10) (N := 49) hx hb htw uwX10 hown hE.1 (wo_me hw hk) 0 rfl rfl 8 (by decide) (htw _ mw1251) (fun _ h9 => h9) rfl dX10_dinnerOf_1 ?_
  refine lv_bipush (v := 25) hx hb dX10_dinnerOf_4 (by decide) ?_
  refine lv_aload_n hx hb dX10_dinnerOf_6 rfl (lv_at hl 0 rfl) ?_
  refine va_get (ci := 10) (v := .int (gi r 35)) (C := RX10) (T := TX10) (N := 49) hx hb htw uwX10 hown hE.1 (wo_me hw hk) 0 rfl rfl 35 (by decide) (htw _ mw1278) (fun _ h9 => h9) rfl dX10_dinnerOf_7 ?_
  refine lv_imul hx hb dX10_dinnerOf_10 ?_
  refine lv_iconst (v := 1) hx hb dX10_dinnerOf_11 (by decide) ?_
  refine lv_iadd hx hb dX10_dinnerOf_12 ?_
  refine lv_iconst (v := 3) hx hb dX10_dinnerOf_13 (by decide) ?_
  refine lv_iload_n hx hb dX10_dinnerOf_14 rfl (lv_at hl 1 rfl) ?_
  refine lv_imul hx hb dX10_dinnerOf_15 ?_
  refine lv_iadd hx hb dX10_dinnerOf_16 ?_
  refine lv_iload_n hx hb dX10_dinnerOf_17 rfl (lv_at hl 2 rfl) ?_
  refine lv_iadd hx hb dX10_dinnerOf_18 ?_
  obtain ⟨x1, hx1, hf⟩ := bd hf
  have hx1 := Option.some.inj hx1
  refine tp1i hx1 ?_
  obtain ⟨g2, hf⟩ := gd_some hf
  refine va_iald hx hb hE.1 (wo_me hw hk) 8 0 rfl rfl (inR_in g2) dX10_dinnerOf_19 ?_
  obtain rfl := Option.some.inj hf
  subst hq
  exact rt_i C hw hS dX10_dinnerOf_20

theorem kX10_dinnerOf {l : Launch} {Γ : Gm} {A : Nat → Prop} {G : Gs} {o : Nat} {r : Rec} {v1 : Int32} {v2 : Int32} {fin : Int32} (hk : kd Γ o = some 10) (hf : fX10_dinnerOf r v1 v2 = some fin) : Kt l yX10_dinnerOf cX10_dinnerOf 3 (some .int) 0 0 Γ A (ug G o r) (ug G o r) [.ref (ad Γ o), .int v1, .int v2] (some (.int fin)) :=
  kt_of (by decide) (Nat.le_of_ble_eq_true rfl) (fun p e s m args below meth c C => wX10_dinnerOf_e C hk hf rfl)
theorem kgX10_dinnerOf {l : Launch} {Γ : Gm} {A : Nat → Prop} {G : Gs} {o : Nat} {v1 : Int32} {v2 : Int32} {fin : Int32} (hk : kd Γ o = some 10) (hf : fX10_dinnerOf (G o) v1 v2 = some fin) : Kt l yX10_dinnerOf cX10_dinnerOf 3 (some .int) 0 0 Γ A G G [.ref (ad Γ o), .int v1, .int v2] (some (.int fin)) := by
  have h := kX10_dinnerOf (l := l) (A := A) (G := G) (r := G o) hk hf
  rw [ug_self] at h
  exact h
noncomputable def fX10_hasTable (r : Rec) (v1 : Int32) : Option (Rec × Int32) :=
  (some (si r 35 v1)).bind fun r1 => (fX10_is r1 2 v1).bind fun z2 => gd (isB z2) (some ((r1, z2)))
set_option maxRecDepth 100000 in
set_option maxHeartbeats 4000000 in
theorem wX10_hasTable_e {p : Program} {l : Launch} {e : Env} {s : State} {m : MethodId} {args : Array Value} {below : List Frame} {meth : Method} {c : Code} {Γ : Gm} {A : Nat → Prop} {G : Gs} {o : Nat} {r : Rec} {v1 : Int32} {q : (Rec × Int32)} {fin : Rec × Int32} (C : Cx p s m args meth c yX10_hasTable cX10_hasTable 2 (some .boolean) Γ A) (hk : kd Γ o = some 10) (hf : fX10_hasTable r v1 = some q) (hq : (fun x => x = fin) q) : Wk p l e { frames := 2, cells := 0, slots := 0, locals := 44 } s m args below meth c Γ A (ug G o fin.1) (some (.int fin.2)) 0 2 [(0, .ref (ad Γ o)), (1, .int v1)] [] (ug G o r) := by
  intro H locs ls hw hS hl
  unfold fX10_hasTable at hf
  obtain ⟨hx, hb, hml, hr, hown, htw, hlocks, hE⟩ := id C
  have hown : s.vm.findClass RX10 = some m.cls := hown
  refine lv_aload_n hx hb dX10_hasTable_0 rfl (lv_at hl 0 rfl) ?_
  refine lv_iload_n hx hb dX10_hasTable_1 rfl (lv_at hl 1 rfl) ?_
  obtain ⟨r1, hr1, hf⟩ := bd hf
  have hr1 := Option.some.inj hr1
  refine wo_put (C := RX10) (T := TX10) (N := 49) (v := .int v1) (ty := .int) hx hb htw uwX10 tyX10 tyX10_ok nmX10 hown hE hw hS hk rfl rfl 35 (by decide) (htw _ mw1278) (fun _ h9 => h9) rfl (tyX10_ok 35 (by decide)) rfl rfl (Nat.le_of_ble_eq_true rfl) (st10_35 hr1) dX10_hasTable_2 (fun H locs hw hS => ?_)
  refine lv_aload_n hx hb dX10_hasTable_5 rfl (lv_at hl 0 rfl) ?_
  refine lv_iconst (v := 2) hx hb dX10_hasTable_6 (by decide) ?_
  refine lv_iload_n hx hb dX10_hasTable_7 rfl (lv_at hl 1 rfl) ?_
  obtain ⟨z2, hz2, hf⟩ := bd hf
  refine cl_Vs (rest := []) (kX10_is (l := l) (Γ := Γ) (A := A) (G := G) (o := o) hk hz2) ⟨hx, hb, hml, hown, htw⟩ hE hw hS (wo_me hw hk) (q0 := 0) rfl rfl mw1411 mw1413 mw41 mw129 mw1414 pdX10_is ⟨Nat.le_of_ble_eq_true rfl, Nat.le_of_ble_eq_true rfl⟩ rfl rfl hl.1 (Nat.le_of_ble_eq_true rfl) dX10_hasTable_8 (fun H locs hw hS => ?_)
  obtain ⟨g3, hf⟩ := gd_some hf
  obtain rfl := Option.some.inj hf
  subst hq
  exact rt_z C (isB_or g3) hw hS dX10_hasTable_11

theorem kX10_hasTable {l : Launch} {Γ : Gm} {A : Nat → Prop} {G : Gs} {o : Nat} {r : Rec} {v1 : Int32} {fin : Rec × Int32} (hk : kd Γ o = some 10) (hf : fX10_hasTable r v1 = some fin) : Kt l yX10_hasTable cX10_hasTable 2 (some .boolean) 2 44 Γ A (ug G o r) (ug G o fin.1) [.ref (ad Γ o), .int v1] (some (.int fin.2)) :=
  kt_of (by decide) (Nat.le_of_ble_eq_true rfl) (fun p e s m args below meth c C => wX10_hasTable_e C hk hf rfl)
theorem kgX10_hasTable {l : Launch} {Γ : Gm} {A : Nat → Prop} {G : Gs} {o : Nat} {v1 : Int32} {fin : Rec × Int32} (hk : kd Γ o = some 10) (hf : fX10_hasTable (G o) v1 = some fin) : Kt l yX10_hasTable cX10_hasTable 2 (some .boolean) 2 44 Γ A G (ug G o fin.1) [.ref (ad Γ o), .int v1] (some (.int fin.2)) := by
  have h := kX10_hasTable (l := l) (A := A) (G := G) (r := G o) hk hf
  rw [ug_self] at h
  exact h
noncomputable def fX10_dinner (r : Rec) (v1 : Int32) (v2 : Int32) (v3 : Int32) : Option (Rec × Int32) :=
  (some (si r 0 0)).bind fun r1 => (fX10_hasTable r1 v1).bind fun z2 => if z2.2 = 0 then some ((z2.1, (-2))) else if v2 = (-1) then if v3 = 0 then (fX10_dinners z2.1).bind fun z9 => some ((z2.1, z9)) else some ((z2.1, (-2))) else (fX10_dinners z2.1).bind fun z3 => (fX10_in v2 0 (z3 - 1)).bind fun z4 => if z4 = 0 then some ((z2.1, (-2))) else (fX10_in v3 0 2).bind fun z5 => if z5 = 0 then some ((z2.1, (-2))) else (fX10_dinnerOf z2.1 v2 v3).bind fun z6 => some ((z2.1, z6))
set_option maxRecDepth 100000 in
set_option maxHeartbeats 4000000 in
theorem wX10_dinner_e {p : Program} {l : Launch} {e : Env} {s : State} {m : MethodId} {args : Array Value} {below : List Frame} {meth : Method} {c : Code} {Γ : Gm} {A : Nat → Prop} {G : Gs} {o : Nat} {r : Rec} {v1 : Int32} {v2 : Int32} {v3 : Int32} {q : (Rec × Int32)} {fin : Rec × Int32} (C : Cx p s m args meth c yX10_dinner cX10_dinner 4 (some .int) Γ A) (hk : kd Γ o = some 10) (hf : fX10_dinner r v1 v2 v3 = some q) (hq : (fun x => x = fin) q) : Wk p l e { frames := 3, cells := 0, slots := 0, locals := 65 } s m args below meth c Γ A (ug G o fin.1) (some (.int fin.2)) 0 4 [(0, .ref (ad Γ o)), (1, .int v1), (2, .int v2), (3, .int v3)] [] (ug G o r) := by
  intro H locs ls hw hS hl
  unfold fX10_dinner at hf
  obtain ⟨hx, hb, hml, hr, hown, htw, hlocks, hE⟩ := id C
  have hown : s.vm.findClass RX10 = some m.cls := hown
  refine lv_aload_n hx hb dX10_dinner_0 rfl (lv_at hl 0 rfl) ?_
  refine lv_iconst (v := 0) hx hb dX10_dinner_1 (by decide) ?_
  obtain ⟨r1, hr1, hf⟩ := bd hf
  have hr1 := Option.some.inj hr1
  refine wo_put (C := RX10) (T := TX10) (N := 49) (v := .int 0) (ty := .int) hx hb htw uwX10 tyX10 tyX10_ok nmX10 hown hE hw hS hk rfl rfl 0 (by decide) (htw _ mw1243) (fun _ h9 => h9) rfl (tyX10_ok 0 (by decide)) rfl rfl (Nat.le_of_ble_eq_true rfl) (st10_0 hr1) dX10_dinner_2 (fun H locs hw hS => ?_)
  refine lv_aload_n hx hb dX10_dinner_5 rfl (lv_at hl 0 rfl) ?_
  refine lv_iload_n hx hb dX10_dinner_6 rfl (lv_at hl 1 rfl) ?_
  obtain ⟨z2, hz2, hf⟩ := bd hf
  refine cl_Vs (rest := []) (kX10_hasTable (l := l) (Γ := Γ) (A := A) (G := G) (o := o) hk hz2) ⟨hx, hb, hml, hown, htw⟩ hE hw hS (wo_me hw hk) (q0 := 0) rfl rfl mw1656 mw1658 mw89 mw129 mw1659 pdX10_hasTable ⟨Nat.le_of_ble_eq_true rfl, Nat.le_of_ble_eq_true rfl⟩ rfl rfl hl.1 (Nat.le_of_ble_eq_true rfl) dX10_dinner_7 (fun H locs hw hS => ?_)
  refine lv_if_ne (tgt := 16) hx hb dX10_dinner_10 (by decide) (fun c12 => ?_) (fun c12 => ?_)
  · have hf := ifn c12 hf
    refine lv_iload_n hx hb dX10_dinner_16 rfl (lv_at hl 2 rfl) ?_
    refine lv_iconst (v := (-1)) hx hb dX10_dinner_17 (by decide) ?_
    refine lv_icmp_ne (tgt := 35) hx hb dX10_dinner_18 (by decide) (fun c11 => ?_) (fun c11 => ?_)
    · have hf := ifn c11 hf
      refine lv_iload_n hx hb dX10_dinner_35 rfl (lv_at hl 2 rfl) ?_
      refine lv_iconst (v := 0) hx hb dX10_dinner_36 (by decide) ?_
      refine lv_aload_n hx hb dX10_dinner_37 rfl (lv_at hl 0 rfl) ?_
      obtain ⟨z3, hz3, hf⟩ := bd hf
      refine cl_Vs (rest := [.int 0, .int v2]) (kX10_dinners (l := l) (Γ := Γ) (A := A) (G := G) (o := o) hk hz3) ⟨hx, hb, hml, hown, htw⟩ hE hw hS (wo_me hw hk) (q0 := 0) rfl rfl mw1660 mw1662 mw90 mw129 mw1663 pdX10_dinners ⟨Nat.le_of_ble_eq_true rfl, Nat.le_of_ble_eq_true rfl⟩ rfl rfl hl.1 (Nat.le_of_ble_eq_true rfl) dX10_dinner_38 (fun H locs hw hS => ?_)
      refine lv_iconst (v := 1) hx hb dX10_dinner_41 (by decide) ?_
      refine lv_isub hx hb dX10_dinner_42 ?_
      obtain ⟨z4, hz4, hf⟩ := bd hf
      refine cl_Ss (rest := []) (kX10_in (l := l) (Γ := Γ) (A := A) (G := (ug G o z2.1)) hz4) ⟨hx, hb, hml, hown, htw⟩ hE hw hS mw1404 mw1405 mw129 mw1406 pdX10_in ⟨Nat.le_of_ble_eq_true rfl, Nat.le_of_ble_eq_true rfl⟩ rfl rfl hl.1 (Nat.le_of_ble_eq_true rfl) dX10_dinner_43 (fun H locs hw hS => ?_)
      refine lv_if_eq (tgt := 67) hx hb dX10_dinner_46 (by decide) (fun c8 => ?_) (fun c8 => ?_)
      · have hf := ifp c8 hf
        refine lv_bipush (v := (-2)) hx hb dX10_dinner_67 (by decide) ?_
        obtain rfl := Option.some.inj hf
        subst hq
        exact rt_i C hw hS dX10_dinner_69
      · have hf := ifn c8 hf
        refine lv_iload_n hx hb dX10_dinner_49 rfl (lv_at hl 3 rfl) ?_
        refine lv_iconst (v := 0) hx hb dX10_dinner_50 (by decide) ?_
        refine lv_iconst (v := 2) hx hb dX10_dinner_51 (by decide) ?_
        obtain ⟨z5, hz5, hf⟩ := bd hf
        refine cl_Ss (rest := []) (kX10_in (l := l) (Γ := Γ) (A := A) (G := (ug G o z2.1)) hz5) ⟨hx, hb, hml, hown, htw⟩ hE hw hS mw1404 mw1405 mw129 mw1406 pdX10_in ⟨Nat.le_of_ble_eq_true rfl, Nat.le_of_ble_eq_true rfl⟩ rfl rfl hl.1 (Nat.le_of_ble_eq_true rfl) dX10_dinner_52 (fun H locs hw hS => ?_)
        refine lv_if_eq (tgt := 67) hx hb dX10_dinner_55 (by decide) (fun c7 => ?_) (fun c7 => ?_)
        · have hf := ifp c7 hf
          refine lv_bipush (v := (-2)) hx hb dX10_dinner_67 (by decide) ?_
          obtain rfl := Option.some.inj hf
          subst hq
          exact rt_i C hw hS dX10_dinner_69
        · have hf := ifn c7 hf
          refine lv_aload_n hx hb dX10_dinner_58 rfl (lv_at hl 0 rfl) ?_
          refine lv_iload_n hx hb dX10_dinner_59 rfl (lv_at hl 2 rfl) ?_
          refine lv_iload_n hx hb dX10_dinner_60 rfl (lv_at hl 3 rfl) ?_
          obtain ⟨z6, hz6, hf⟩ := bd hf
          refine cl_Vs (rest := []) (kX10_dinnerOf (l := l) (Γ := Γ) (A := A) (G := G) (o := o) hk hz6) ⟨hx, hb, hml, hown, htw⟩ hE hw hS (wo_me hw hk) (q0 := 0) rfl rfl mw1664 mw1666 mw91 mw129 mw1667 pdX10_dinnerOf ⟨Nat.le_of_ble_eq_true rfl, Nat.le_of_ble_eq_true rfl⟩ rfl rfl hl.1 (Nat.le_of_ble_eq_true rfl) dX10_dinner_61 (fun H locs hw hS => ?_)
          refine lv_goto (tgt := 69) hx hb dX10_dinner_64 (by decide) ?_
          obtain rfl := Option.some.inj hf
          subst hq
          exact rt_i C hw hS dX10_dinner_69
    · have hf := ifp c11 hf
      refine lv_iload_n hx hb dX10_dinner_21 rfl (lv_at hl 3 rfl) ?_
      refine lv_if_ne (tgt := 32) hx hb dX10_dinner_22 (by decide) (fun c10 => ?_) (fun c10 => ?_)
      · have hf := ifn c10 hf
        refine lv_bipush (v := (-2)) hx hb dX10_dinner_32 (by decide) ?_
        obtain rfl := Option.some.inj hf
        subst hq
        exact rt_i C hw hS dX10_dinner_34
      · have hf := ifp c10 hf
        refine lv_aload_n hx hb dX10_dinner_25 rfl (lv_at hl 0 rfl) ?_
        obtain ⟨z9, hz9, hf⟩ := bd hf
        refine cl_Vs (rest := []) (kX10_dinners (l := l) (Γ := Γ) (A := A) (G := G) (o := o) hk hz9) ⟨hx, hb, hml, hown, htw⟩ hE hw hS (wo_me hw hk) (q0 := 0) rfl rfl mw1660 mw1662 mw90 mw129 mw1663 pdX10_dinners ⟨Nat.le_of_ble_eq_true rfl, Nat.le_of_ble_eq_true rfl⟩ rfl rfl hl.1 (Nat.le_of_ble_eq_true rfl) dX10_dinner_26 (fun H locs hw hS => ?_)
        refine lv_goto (tgt := 34) hx hb dX10_dinner_29 (by decide) ?_
        obtain rfl := Option.some.inj hf
        subst hq
        exact rt_i C hw hS dX10_dinner_34
  · have hf := ifp c12 hf
    refine lv_bipush (v := (-2)) hx hb dX10_dinner_13 (by decide) ?_
    obtain rfl := Option.some.inj hf
    subst hq
    exact rt_i C hw hS dX10_dinner_15

theorem kX10_dinner {l : Launch} {Γ : Gm} {A : Nat → Prop} {G : Gs} {o : Nat} {r : Rec} {v1 : Int32} {v2 : Int32} {v3 : Int32} {fin : Rec × Int32} (hk : kd Γ o = some 10) (hf : fX10_dinner r v1 v2 v3 = some fin) : Kt l yX10_dinner cX10_dinner 4 (some .int) 3 65 Γ A (ug G o r) (ug G o fin.1) [.ref (ad Γ o), .int v1, .int v2, .int v3] (some (.int fin.2)) :=
  kt_of (by decide) (Nat.le_of_ble_eq_true rfl) (fun p e s m args below meth c C => wX10_dinner_e C hk hf rfl)
theorem kgX10_dinner {l : Launch} {Γ : Gm} {A : Nat → Prop} {G : Gs} {o : Nat} {v1 : Int32} {v2 : Int32} {v3 : Int32} {fin : Rec × Int32} (hk : kd Γ o = some 10) (hf : fX10_dinner (G o) v1 v2 v3 = some fin) : Kt l yX10_dinner cX10_dinner 4 (some .int) 3 65 Γ A G (ug G o fin.1) [.ref (ad Γ o), .int v1, .int v2, .int v3] (some (.int fin.2)) := by
  have h := kX10_dinner (l := l) (A := A) (G := G) (r := G o) hk hf
  rw [ug_self] at h
  exact h
noncomputable def bX10_serves_11 (r : Rec) (v1 : Int32) (v2 : Int32) (v3 : Int32) (v4 : Int32) (v5 : Int32) : Option (Int32 ⊕ Int32) :=
  if v3 < v5 then some (.inr (1)) else (fX10_worthNow r v1 v4).bind fun z1 => (fX10_wear r v4).bind fun z2 => (fX10_dinnerOf r v5 0).bind fun z3 => (fX10_dinnerOf r v2 0).bind fun z4 => (fX10_dinnerOf r v5 1).bind fun z5 => if z5 = v4 then (fX10_dinnerOf r v5 2).bind fun z6 => if z6 ≤ (z1 - (z2 * (z3 - z4))) then some (.inl (v5 + 1)) else some (.inr (0)) else some (.inr (0))
set_option maxRecDepth 100000 in
set_option maxHeartbeats 4000000 in
theorem wX10_serves_11 {p : Program} {l : Launch} {e : Env} {s : State} {m : MethodId} {args : Array Value} {below : List Frame} {meth : Method} {c : Code} {Γ : Gm} {A : Nat → Prop} {G : Gs} {o : Nat} {r : Rec} {v1 : Int32} {v2 : Int32} {v3 : Int32} {v4 : Int32} {v5 : Int32} {q : (Int32 ⊕ Int32)} {fin : Int32} (C : Cx p s m args meth c yX10_serves cX10_serves 7 (some .boolean) Γ A) (hk : kd Γ o = some 10) (hf : bX10_serves_11 r v1 v2 v3 v4 v5 = some q) (hq : (KC (fun st : Int32 => Wk p l e { frames := 3, cells := 0, slots := 0, locals := 65 } s m args below meth c Γ A (ug G o r) (some (.int fin)) 11 7 [(0, .ref (ad Γ o)), (1, .int v1), (2, .int v2), (3, .int v3), (4, .int v4), (5, .int st)] [] (ug G o r)) (fun x => x = fin)) q) : Wk p l e { frames := 3, cells := 0, slots := 0, locals := 65 } s m args below meth c Γ A (ug G o r) (some (.int fin)) 11 7 [(0, .ref (ad Γ o)), (1, .int v1), (2, .int v2), (3, .int v3), (4, .int v4), (5, .int v5)] [] (ug G o r) := by
  intro H locs ls hw hS hl
  unfold bX10_serves_11 at hf
  obtain ⟨hx, hb, hml, hr, hown, htw, hlocks, hE⟩ := id C
  have hown : s.vm.findClass RX10 = some m.cls := hown
  refine lv_iload hx hb dX10_serves_11 (lv_at hl 5 rfl) ?_
  refine lv_iload_n hx hb dX10_serves_13 rfl (lv_at hl 3 rfl) ?_
  refine lv_icmp_gt (tgt := 80) hx hb dX10_serves_14 (by decide) (fun c9 => ?_) (fun c9 => ?_)
  · have hf := ifp c9 hf
    refine lv_iconst (v := 1) hx hb dX10_serves_80 (by decide) ?_
    obtain rfl := Option.some.inj hf
    have hq := hq.2 _ rfl
    subst hq
    exact rt_z C (Or.inr rfl) hw hS dX10_serves_81
  · have hf := ifn c9 hf
    refine lv_aload_n hx hb dX10_serves_17 rfl (lv_at hl 0 rfl) ?_
    refine lv_iload_n hx hb dX10_serves_18 rfl (lv_at hl 1 rfl) ?_
    refine lv_iload hx hb dX10_serves_19 (lv_at hl 4 rfl) ?_
    obtain ⟨z1, hz1, hf⟩ := bd hf
    refine cl_Vs (rest := []) (kX10_worthNow (l := l) (Γ := Γ) (A := A) (G := G) (o := o) hk hz1) ⟨hx, hb, hml, hown, htw⟩ hE hw hS (wo_me hw hk) (q0 := 0) rfl rfl mw1557 mw1559 mw69 mw129 mw1560 pdX10_worthNow ⟨Nat.le_of_ble_eq_true rfl, Nat.le_of_ble_eq_true rfl⟩ rfl rfl hl.1 (Nat.le_of_ble_eq_true rfl) dX10_serves_21 (fun H locs hw hS => ?_)
    refine lv_aload_n hx hb dX10_serves_24 rfl (lv_at hl 0 rfl) ?_
    refine lv_iload hx hb dX10_serves_25 (lv_at hl 4 rfl) ?_
    obtain ⟨z2, hz2, hf⟩ := bd hf
    refine cl_Vs (rest := [.int z1]) (kX10_wear (l := l) (Γ := Γ) (A := A) (G := G) (o := o) hk hz2) ⟨hx, hb, hml, hown, htw⟩ hE hw hS (wo_me hw hk) (q0 := 0) rfl rfl mw1628 mw1630 mw84 mw129 mw1631 pdX10_wear ⟨Nat.le_of_ble_eq_true rfl, Nat.le_of_ble_eq_true rfl⟩ rfl rfl hl.1 (Nat.le_of_ble_eq_true rfl) dX10_serves_27 (fun H locs hw hS => ?_)
    refine lv_aload_n hx hb dX10_serves_30 rfl (lv_at hl 0 rfl) ?_
    refine lv_iload hx hb dX10_serves_31 (lv_at hl 5 rfl) ?_
    refine lv_iconst (v := 0) hx hb dX10_serves_33 (by decide) ?_
    obtain ⟨z3, hz3, hf⟩ := bd hf
    refine cl_Vs (rest := [.int z2, .int z1]) (kX10_dinnerOf (l := l) (Γ := Γ) (A := A) (G := G) (o := o) hk hz3) ⟨hx, hb, hml, hown, htw⟩ hE hw hS (wo_me hw hk) (q0 := 0) rfl rfl mw1664 mw1666 mw91 mw129 mw1667 pdX10_dinnerOf ⟨Nat.le_of_ble_eq_true rfl, Nat.le_of_ble_eq_true rfl⟩ rfl rfl hl.1 (Nat.le_of_ble_eq_true rfl) dX10_serves_34 (fun H locs hw hS => ?_)
    refine lv_aload_n hx hb dX10_serves_37 rfl (lv_at hl 0 rfl) ?_
    refine lv_iload_n hx hb dX10_serves_38 rfl (lv_at hl 2 rfl) ?_
    refine lv_iconst (v := 0) hx hb dX10_serves_39 (by decide) ?_
    obtain ⟨z4, hz4, hf⟩ := bd hf
    refine cl_Vs (rest := [.int z3, .int z2, .int z1]) (kX10_dinnerOf (l := l) (Γ := Γ) (A := A) (G := G) (o := o) hk hz4) ⟨hx, hb, hml, hown, htw⟩ hE hw hS (wo_me hw hk) (q0 := 0) rfl rfl mw1664 mw1666 mw91 mw129 mw1667 pdX10_dinnerOf ⟨Nat.le_of_ble_eq_true rfl, Nat.le_of_ble_eq_true rfl⟩ rfl rfl hl.1 (Nat.le_of_ble_eq_true rfl) dX10_serves_40 (fun H locs hw hS => ?_)
    refine lv_isub hx hb dX10_serves_43 ?_
    refine lv_imul hx hb dX10_serves_44 ?_
    refine lv_isub hx hb dX10_serves_45 ?_
    refine lv_istore (lv' := [(6, .int (z1 - (z2 * (z3 - z4)))), (0, .ref (ad Γ o)), (1, .int v1), (2, .int v2), (3, .int v3), (4, .int v4), (5, .int v5)]) hx hb dX10_serves_46 hl (by decide) rfl (fun ls hl => ?_)
    refine lv_aload_n hx hb dX10_serves_48 rfl (lv_at hl 1 rfl) ?_
    refine lv_iload hx hb dX10_serves_49 (lv_at hl 6 rfl) ?_
    refine lv_iconst (v := 1) hx hb dX10_serves_51 (by decide) ?_
    obtain ⟨z5, hz5, hf⟩ := bd hf
    refine cl_Vs (rest := []) (kX10_dinnerOf (l := l) (Γ := Γ) (A := A) (G := G) (o := o) hk hz5) ⟨hx, hb, hml, hown, htw⟩ hE hw hS (wo_me hw hk) (q0 := 0) rfl rfl mw1664 mw1666 mw91 mw129 mw1667 pdX10_dinnerOf ⟨Nat.le_of_ble_eq_true rfl, Nat.le_of_ble_eq_true rfl⟩ rfl rfl hl.1 (Nat.le_of_ble_eq_true rfl) dX10_serves_52 (fun H locs hw hS => ?_)
    refine lv_iload hx hb dX10_serves_55 (lv_at hl 5 rfl) ?_
    refine lv_icmp_ne (tgt := 72) hx hb dX10_serves_57 (by decide) (fun c8 => ?_) (fun c8 => ?_)
    · have hf := ifn c8 hf
      refine lv_iconst (v := 0) hx hb dX10_serves_72 (by decide) ?_
      obtain rfl := Option.some.inj hf
      have hq := hq.2 _ rfl
      subst hq
      exact rt_z C (Or.inl rfl) hw hS dX10_serves_73
    · have hf := ifp c8 hf
      refine lv_iload hx hb dX10_serves_60 (lv_at hl 0 rfl) ?_
      refine lv_aload_n hx hb dX10_serves_62 rfl (lv_at hl 1 rfl) ?_
      refine lv_iload hx hb dX10_serves_63 (lv_at hl 6 rfl) ?_
      refine lv_iconst (v := 2) hx hb dX10_serves_65 (by decide) ?_
      obtain ⟨z6, hz6, hf⟩ := bd hf
      refine cl_Vs (rest := [.int (z1 - (z2 * (z3 - z4)))]) (kX10_dinnerOf (l := l) (Γ := Γ) (A := A) (G := G) (o := o) hk hz6) ⟨hx, hb, hml, hown, htw⟩ hE hw hS (wo_me hw hk) (q0 := 0) rfl rfl mw1664 mw1666 mw91 mw129 mw1667 pdX10_dinnerOf ⟨Nat.le_of_ble_eq_true rfl, Nat.le_of_ble_eq_true rfl⟩ rfl rfl hl.1 (Nat.le_of_ble_eq_true rfl) dX10_serves_66 (fun H locs hw hS => ?_)
      refine lv_icmp_ge (tgt := 74) hx hb dX10_serves_69 (by decide) (fun c7 => ?_) (fun c7 => ?_)
      · have hf := ifp c7 hf
        refine lv_iinc (v := v5 + 1) (lv' := [(5, .int (v5 + 1)), (6, .int (z1 - (z2 * (z3 - z4)))), (0, .ref (ad Γ o)), (1, .int v1), (2, .int v2), (3, .int v3), (4, .int v4)]) hx hb dX10_serves_74 hl (k := 6) rfl (by rfl) (by decide) rfl (fun ls hl => ?_)
        refine lv_goto (tgt := 11) hx hb dX10_serves_77 (by decide) ?_
        obtain rfl := Option.some.inj hf
        exact hq.1 _ rfl H locs ls hw hS (lv_sub hl [2, 3, 4, 5, 6, 0] rfl)
      · have hf := ifn c7 hf
        refine lv_iconst (v := 0) hx hb dX10_serves_72 (by decide) ?_
        obtain rfl := Option.some.inj hf
        have hq := hq.2 _ rfl
        subst hq
        exact rt_z C (Or.inl rfl) hw hS dX10_serves_73

set_option maxRecDepth 100000 in
set_option maxHeartbeats 4000000 in
theorem lwX10_serves_11 {p : Program} {l : Launch} {e : Env} {s : State} {m : MethodId} {args : Array Value} {below : List Frame} {meth : Method} {c : Code} {Γ : Gm} {A : Nat → Prop} {G : Gs} {o : Nat} {r : Rec} {v1 : Int32} {v2 : Int32} {v3 : Int32} {v4 : Int32} {v5 : Int32} {q : Int32} {fin : Int32} (C : Cx p s m args meth c yX10_serves cX10_serves 7 (some .boolean) Γ A) (hk : kd Γ o = some 10) (hf : iter (fun st : Int32 => bX10_serves_11 r v1 v2 v3 v4 st) v5 = some q) (hq : (fun x => x = fin) q) : Wk p l e { frames := 3, cells := 0, slots := 0, locals := 65 } s m args below meth c Γ A (ug G o r) (some (.int fin)) 11 7 [(0, .ref (ad Γ o)), (1, .int v1), (2, .int v2), (3, .int v3), (4, .int v4), (5, .int v5)] [] (ug G o r) := by
  intro H locs ls hw hS hl
  refine iter_walk (P := (fun st : Int32 => Wk p l e { frames := 3, cells := 0, slots := 0, locals := 65 } s m args below meth c Γ A (ug G o r) (some (.int fin)) 11 7 [(0, .ref (ad Γ o)), (1, .int v1), (2, .int v2), (3, .int v3), (4, .int v4), (5, .int st)] [] (ug G o r))) (K := (fun x => x = fin)) (fun st q hq1 h1 h2 => ?_) hf hq H locs ls hw hS hl
  exact wX10_serves_11 (v5 := st) C hk hq1 ⟨h1, h2⟩

noncomputable def fX10_serves (r : Rec) (v1 : Int32) (v2 : Int32) (v3 : Int32) : Option Int32 :=
  (fX10_dinnerOf r v2 1).bind fun z10 => iter (fun st : Int32 => bX10_serves_11 r v1 v2 v3 z10 st) v2
set_option maxRecDepth 100000 in
set_option maxHeartbeats 4000000 in
theorem wX10_serves_e {p : Program} {l : Launch} {e : Env} {s : State} {m : MethodId} {args : Array Value} {below : List Frame} {meth : Method} {c : Code} {Γ : Gm} {A : Nat → Prop} {G : Gs} {o : Nat} {r : Rec} {v1 : Int32} {v2 : Int32} {v3 : Int32} {q : Int32} {fin : Int32} (C : Cx p s m args meth c yX10_serves cX10_serves 7 (some .boolean) Γ A) (hk : kd Γ o = some 10) (hf : fX10_serves r v1 v2 v3 = some q) (hq : (fun x => x = fin) q) : Wk p l e { frames := 3, cells := 0, slots := 0, locals := 65 } s m args below meth c Γ A (ug G o r) (some (.int fin)) 0 7 [(0, .ref (ad Γ o)), (1, .int v1), (2, .int v2), (3, .int v3)] [] (ug G o r) := by
  intro H locs ls hw hS hl
  unfold fX10_serves at hf
  obtain ⟨hx, hb, hml, hr, hown, htw, hlocks, hE⟩ := id C
  have hown : s.vm.findClass RX10 = some m.cls := hown
  refine lv_aload_n hx hb dX10_serves_0 rfl (lv_at hl 0 rfl) ?_
  refine lv_iload_n hx hb dX10_serves_1 rfl (lv_at hl 2 rfl) ?_
  refine lv_iconst (v := 1) hx hb dX10_serves_2 (by decide) ?_
  obtain ⟨z10, hz10, hf⟩ := bd hf
  refine cl_Vs (rest := []) (kX10_dinnerOf (l := l) (Γ := Γ) (A := A) (G := G) (o := o) hk hz10) ⟨hx, hb, hml, hown, htw⟩ hE hw hS (wo_me hw hk) (q0 := 0) rfl rfl mw1664 mw1666 mw91 mw129 mw1667 pdX10_dinnerOf ⟨Nat.le_of_ble_eq_true rfl, Nat.le_of_ble_eq_true rfl⟩ rfl rfl hl.1 (Nat.le_of_ble_eq_true rfl) dX10_serves_3 (fun H locs hw hS => ?_)
  refine lv_istore (lv' := [(4, .int z10), (0, .ref (ad Γ o)), (1, .int v1), (2, .int v2), (3, .int v3)]) hx hb dX10_serves_6 hl (by decide) rfl (fun ls hl => ?_)
  refine lv_iload_n hx hb dX10_serves_8 rfl (lv_at hl 3 rfl) ?_
  refine lv_istore (lv' := [(5, .int v2), (4, .int z10), (0, .ref (ad Γ o)), (1, .int v1), (2, .int v2), (3, .int v3)]) hx hb dX10_serves_9 hl (by decide) rfl (fun ls hl => ?_)
  exact lwX10_serves_11 C hk hf hq H locs ls hw hS (lv_sub hl [2, 3, 4, 5, 1, 0] rfl)

theorem kX10_serves {l : Launch} {Γ : Gm} {A : Nat → Prop} {G : Gs} {o : Nat} {r : Rec} {v1 : Int32} {v2 : Int32} {v3 : Int32} {fin : Int32} (hk : kd Γ o = some 10) (hf : fX10_serves r v1 v2 v3 = some fin) : Kt l yX10_serves cX10_serves 7 (some .boolean) 3 65 Γ A (ug G o r) (ug G o r) [.ref (ad Γ o), .int v1, .int v2, .int v3] (some (.int fin)) :=
  kt_of (by decide) (Nat.le_of_ble_eq_true rfl) (fun p e s m args below meth c C => wX10_serves_e C hk hf rfl)
theorem kgX10_serves {l : Launch} {Γ : Gm} {A : Nat → Prop} {G : Gs} {o : Nat} {v1 : Int32} {v2 : Int32} {v3 : Int32} {fin : Int32} (hk : kd Γ o = some 10) (hf : fX10_serves (G o) v1 v2 v3 = some fin) : Kt l yX10_serves cX10_serves 7 (some .boolean) 3 65 Γ A G G [.ref (ad Γ o), .int v1, .int v2, .int v3] (some (.int fin)) := by
  have h := kX10_serves (l := l) (A := A) (G := G) (r := G o) hk hf
  rw [ug_self] at h
  exact h
noncomputable def bX10_findTellings_186 (r : Rec) (v1 : Int32) (v2 : Int32) : Option ((Int32 × Rec) ⊕ Rec) :=
  some (.inl (v2 + (-1), r))
set_option maxRecDepth 100000 in
set_option maxHeartbeats 4000000 in
theorem wX10_findTellings_186 {p : Program} {l : Launch} {e : Env} {s : State} {m : MethodId} {args : Array Value} {below : List Frame} {meth : Method} {c : Code} {Γ : Gm} {A : Nat → Prop} {G : Gs} {o : Nat} {r : Rec} {v1 : Int32} {v2 : Int32} {q : ((Int32 × Rec) ⊕ Rec)} {fin : Rec} (C : Cx p s m args meth c yX10_findTellings cX10_findTellings 9 none Γ A) (hk : kd Γ o = some 10) (hf : bX10_findTellings_186 r v1 v2 = some q) (hq : (KC (fun st : Int32 × Rec => Wk p l e { frames := 4, cells := 0, slots := 0, locals := 91 } s m args below meth c Γ A (ug G o fin) none 7 9 [(0, .ref (ad Γ o)), (1, .int v1), (2, .int st.1)] [] (ug G o st.2)) (fun x => x = fin)) q) : Wk p l e { frames := 4, cells := 0, slots := 0, locals := 91 } s m args below meth c Γ A (ug G o fin) none 186 9 [(0, .ref (ad Γ o)), (1, .int v1), (2, .int v2)] [] (ug G o r) := by
  intro H locs ls hw hS hl
  unfold bX10_findTellings_186 at hf
  obtain ⟨hx, hb, hml, hr, hown, htw, hlocks, hE⟩ := id C
  have hown : s.vm.findClass RX10 = some m.cls := hown
  refine lv_iinc (v := v2 + (-1)) (lv' := [(2, .int (v2 + (-1))), (0, .ref (ad Γ o)), (1, .int v1)]) hx hb dX10_findTellings_186 hl (k := 2) rfl (by rfl) (by decide) rfl (fun ls hl => ?_)
  refine lv_goto (tgt := 7) hx hb dX10_findTellings_189 (by decide) ?_
  obtain rfl := Option.some.inj hf
  exact hq.1 _ rfl H locs ls hw hS (lv_sub hl [1, 2, 0] rfl)

noncomputable def bX10_findTellings_146 (r : Rec) (v1 : Int32) (v2 : Int32) (v3 : Int32) (v4 : Int32) (v5 : Int32) : Option ((Int32 × Rec) ⊕ ((Int32 × Rec) ⊕ Rec)) :=
  (fX10_lesser v4 1000000).bind fun z1 => gd (inR ((1024 * v2) + v3) 9216) ((some (sa r 36 (upd (ga r 36) (Int32.toNatClampNeg ((1024 * v2) + v3)) z1))).bind fun r3 => gd (inR ((1024 * v2) + v3) 9216) ((some (sa r3 37 (upd (ga r3 37) (Int32.toNatClampNeg ((1024 * v2) + v3)) v5))).bind fun r5 => some (.inl (v3 + 1, r5))))
set_option maxRecDepth 100000 in
set_option maxHeartbeats 4000000 in
theorem wX10_findTellings_146 {p : Program} {l : Launch} {e : Env} {s : State} {m : MethodId} {args : Array Value} {below : List Frame} {meth : Method} {c : Code} {Γ : Gm} {A : Nat → Prop} {G : Gs} {o : Nat} {r : Rec} {v1 : Int32} {v2 : Int32} {v3 : Int32} {v4 : Int32} {v5 : Int32} {q : ((Int32 × Rec) ⊕ ((Int32 × Rec) ⊕ Rec))} {fin : Rec} (C : Cx p s m args meth c yX10_findTellings cX10_findTellings 9 none Γ A) (hk : kd Γ o = some 10) (hf : bX10_findTellings_146 r v1 v2 v3 v4 v5 = some q) (hq : (KC (fun st : Int32 × Rec => Wk p l e { frames := 4, cells := 0, slots := 0, locals := 91 } s m args below meth c Γ A (ug G o fin) none 13 9 [(0, .ref (ad Γ o)), (1, .int v1), (2, .int v2), (3, .int st.1)] [] (ug G o st.2)) (KC (fun st : Int32 × Rec => Wk p l e { frames := 4, cells := 0, slots := 0, locals := 91 } s m args below meth c Γ A (ug G o fin) none 7 9 [(0, .ref (ad Γ o)), (1, .int v1), (2, .int st.1)] [] (ug G o st.2)) (fun x => x = fin))) q) : Wk p l e { frames := 4, cells := 0, slots := 0, locals := 91 } s m args below meth c Γ A (ug G o fin) none 146 9 [(0, .ref (ad Γ o)), (1, .int v1), (2, .int v2), (3, .int v3), (4, .int v4), (5, .int v5)] [] (ug G o r) := by
  intro H locs ls hw hS hl
  unfold bX10_findTellings_146 at hf
  obtain ⟨hx, hb, hml, hr, hown, htw, hlocks, hE⟩ := id C
  have hown : s.vm.findClass RX10 = some m.cls := hown
  refine lv_aload_n hx hb dX10_findTellings_146 rfl (lv_at hl 0 rfl) ?_
  refine va_get (ci := 10) (v := .ref (aa Γ o 36)) (C := RX10) (T := TX10) (N := 49) hx hb htw uwX10 hown hE.1 (wo_me hw hk) 0 rfl rfl 36 (by decide) (htw _ mw1279) (fun _ h9 => h9) rfl dX10_findTellings_147 ?_
  refine lv_sipush (v := 1024) hx hb dX10_findTellings_150 (by decide) ?_
  refine lv_iload_n hx hb dX10_findTellings_153 rfl (lv_at hl 2 rfl) ?_
  refine lv_imul hx hb dX10_findTellings_154 ?_
  refine lv_iload_n hx hb dX10_findTellings_155 rfl (lv_at hl 3 rfl) ?_
  refine lv_iadd hx hb dX10_findTellings_156 ?_
  refine lv_iload hx hb dX10_findTellings_157 (lv_at hl 4 rfl) ?_
  refine lv_ldcw hx hb hown (htw _ mw1676) dX10_findTellings_159 ?_
  obtain ⟨z1, hz1, hf⟩ := bd hf
  refine cl_Ss (rest := [.int ((1024 * v2) + v3), .ref (aa Γ o 36)]) (kX10_lesser (l := l) (Γ := Γ) (A := A) (G := (ug G o r)) hz1) ⟨hx, hb, hml, hown, htw⟩ hE hw hS mw1681 mw1682 mw129 mw1683 pdX10_lesser ⟨Nat.le_of_ble_eq_true rfl, Nat.le_of_ble_eq_true rfl⟩ rfl rfl hl.1 (Nat.le_of_ble_eq_true rfl) dX10_findTellings_162 (fun H locs hw hS => ?_)
  obtain ⟨g2, hf⟩ := gd_some hf
  obtain ⟨r3, hr3, hf⟩ := bd hf
  have hr3 := Option.some.inj hr3
  refine wo_iast hx hb hE hw hS hk (q0 := 15) rfl (inR_in g2) (sa10_36 hr3) dX10_findTellings_165 (fun H locs hw hS => ?_)
  refine lv_aload_n hx hb dX10_findTellings_166 rfl (lv_at hl 0 rfl) ?_
  refine va_get (ci := 10) (v := .ref (aa Γ o 37)) (C := RX10) (T := TX10) (N := 49) hx hb htw uwX10 hown hE.1 (wo_me hw hk) 0 rfl rfl 37 (by decide) (htw _ mw1280) (fun _ h9 => h9) rfl dX10_findTellings_167 ?_
  refine lv_sipush (v := 1024) hx hb dX10_findTellings_170 (by decide) ?_
  refine lv_iload_n hx hb dX10_findTellings_173 rfl (lv_at hl 2 rfl) ?_
  refine lv_imul hx hb dX10_findTellings_174 ?_
  refine lv_iload_n hx hb dX10_findTellings_175 rfl (lv_at hl 3 rfl) ?_
  refine lv_iadd hx hb dX10_findTellings_176 ?_
  refine lv_iload hx hb dX10_findTellings_177 (lv_at hl 5 rfl) ?_
  obtain ⟨g4, hf⟩ := gd_some hf
  obtain ⟨r5, hr5, hf⟩ := bd hf
  have hr5 := Option.some.inj hr5
  refine wo_iast hx hb hE hw hS hk (q0 := 16) rfl (inR_in g4) (sa10_37 hr5) dX10_findTellings_179 (fun H locs hw hS => ?_)
  refine lv_iinc (v := v3 + 1) (lv' := [(3, .int (v3 + 1)), (0, .ref (ad Γ o)), (1, .int v1), (2, .int v2), (4, .int v4), (5, .int v5)]) hx hb dX10_findTellings_180 hl (k := 3) rfl (by rfl) (by decide) rfl (fun ls hl => ?_)
  refine lv_goto (tgt := 13) hx hb dX10_findTellings_183 (by decide) ?_
  obtain rfl := Option.some.inj hf
  exact hq.1 _ rfl H locs ls hw hS (lv_sub hl [1, 2, 3, 0] rfl)

noncomputable def bX10_findTellings_140 (r : Rec) (v1 : Int32) (v2 : Int32) (v3 : Int32) (v4 : Int32) (v5 : Int32) (v6 : Int32) : Option ((Int32 × Int32 × Int32) ⊕ ((Int32 × Rec) ⊕ ((Int32 × Rec) ⊕ Rec))) :=
  some (.inl (v4, v5, v6 + 1))
set_option maxRecDepth 100000 in
set_option maxHeartbeats 4000000 in
theorem wX10_findTellings_140 {p : Program} {l : Launch} {e : Env} {s : State} {m : MethodId} {args : Array Value} {below : List Frame} {meth : Method} {c : Code} {Γ : Gm} {A : Nat → Prop} {G : Gs} {o : Nat} {r : Rec} {v1 : Int32} {v2 : Int32} {v3 : Int32} {v4 : Int32} {v5 : Int32} {v6 : Int32} {q : ((Int32 × Int32 × Int32) ⊕ ((Int32 × Rec) ⊕ ((Int32 × Rec) ⊕ Rec)))} {fin : Rec} (C : Cx p s m args meth c yX10_findTellings cX10_findTellings 9 none Γ A) (hk : kd Γ o = some 10) (hf : bX10_findTellings_140 r v1 v2 v3 v4 v5 v6 = some q) (hq : (KC (fun st : Int32 × Int32 × Int32 => Wk p l e { frames := 4, cells := 0, slots := 0, locals := 91 } s m args below meth c Γ A (ug G o fin) none 43 9 [(0, .ref (ad Γ o)), (1, .int v1), (2, .int v2), (3, .int v3), (4, .int st.1), (5, .int st.2.1), (6, .int st.2.2)] [] (ug G o r)) (KC (fun st : Int32 × Rec => Wk p l e { frames := 4, cells := 0, slots := 0, locals := 91 } s m args below meth c Γ A (ug G o fin) none 13 9 [(0, .ref (ad Γ o)), (1, .int v1), (2, .int v2), (3, .int st.1)] [] (ug G o st.2)) (KC (fun st : Int32 × Rec => Wk p l e { frames := 4, cells := 0, slots := 0, locals := 91 } s m args below meth c Γ A (ug G o fin) none 7 9 [(0, .ref (ad Γ o)), (1, .int v1), (2, .int st.1)] [] (ug G o st.2)) (fun x => x = fin)))) q) : Wk p l e { frames := 4, cells := 0, slots := 0, locals := 91 } s m args below meth c Γ A (ug G o fin) none 140 9 [(0, .ref (ad Γ o)), (1, .int v1), (2, .int v2), (3, .int v3), (4, .int v4), (5, .int v5), (6, .int v6)] [] (ug G o r) := by
  intro H locs ls hw hS hl
  unfold bX10_findTellings_140 at hf
  obtain ⟨hx, hb, hml, hr, hown, htw, hlocks, hE⟩ := id C
  have hown : s.vm.findClass RX10 = some m.cls := hown
  refine lv_iinc (v := v6 + 1) (lv' := [(6, .int (v6 + 1)), (0, .ref (ad Γ o)), (1, .int v1), (2, .int v2), (3, .int v3), (4, .int v4), (5, .int v5)]) hx hb dX10_findTellings_140 hl (k := 6) rfl (by rfl) (by decide) rfl (fun ls hl => ?_)
  refine lv_goto (tgt := 43) hx hb dX10_findTellings_143 (by decide) ?_
  obtain rfl := Option.some.inj hf
  exact hq.1 _ rfl H locs ls hw hS (lv_sub hl [1, 2, 3, 4, 5, 6, 0] rfl)

noncomputable def bX10_findTellings_60 (r : Rec) (v1 : Int32) (v2 : Int32) (v3 : Int32) (v4 : Int32) (v5 : Int32) (v6 : Int32) (v7 : Int32) : Option ((Int32 × Int32 × Int32) ⊕ ((Int32 × Int32 × Int32) ⊕ ((Int32 × Rec) ⊕ ((Int32 × Rec) ⊕ Rec)))) :=
  if v1 ≤ v7 then out1 (bX10_findTellings_140 r v1 v2 v3 v4 v5 v6) else (fX10_has v3 v6).bind fun z7 => if z7 = 0 then (fX10_serves r v6 v2 v7).bind fun z9 => if z9 = 0 then out1 (bX10_findTellings_140 r v1 v2 v3 v4 v5 v6) else (some ((1024 * (v7 + 1)) + (v3 ||| ((1 : Int32) <<< (v6 &&& 31))))).bind fun x11 => gd (inR x11 9216) ((fX10_lesser v4 (1 + (ga r 36 (Int32.toNatClampNeg x11)))).bind fun z13 => gd (inR x11 9216) ((fX10_greater v5 (ga r 37 (Int32.toNatClampNeg x11))).bind fun z15 => some (.inl (z13, z15, v7 + 1)))) else out1 (bX10_findTellings_140 r v1 v2 v3 v4 v5 v6)
set_option maxRecDepth 100000 in
set_option maxHeartbeats 4000000 in
theorem wX10_findTellings_60 {p : Program} {l : Launch} {e : Env} {s : State} {m : MethodId} {args : Array Value} {below : List Frame} {meth : Method} {c : Code} {Γ : Gm} {A : Nat → Prop} {G : Gs} {o : Nat} {r : Rec} {v1 : Int32} {v2 : Int32} {v3 : Int32} {v4 : Int32} {v5 : Int32} {v6 : Int32} {v7 : Int32} {q : ((Int32 × Int32 × Int32) ⊕ ((Int32 × Int32 × Int32) ⊕ ((Int32 × Rec) ⊕ ((Int32 × Rec) ⊕ Rec))))} {fin : Rec} (C : Cx p s m args meth c yX10_findTellings cX10_findTellings 9 none Γ A) (hk : kd Γ o = some 10) (hf : bX10_findTellings_60 r v1 v2 v3 v4 v5 v6 v7 = some q) (hq : (KC (fun st : Int32 × Int32 × Int32 => Wk p l e { frames := 4, cells := 0, slots := 0, locals := 91 } s m args below meth c Γ A (ug G o fin) none 60 9 [(0, .ref (ad Γ o)), (1, .int v1), (2, .int v2), (3, .int v3), (4, .int st.1), (5, .int st.2.1), (6, .int v6), (7, .int st.2.2)] [] (ug G o r)) (KC (fun st : Int32 × Int32 × Int32 => Wk p l e { frames := 4, cells := 0, slots := 0, locals := 91 } s m args below meth c Γ A (ug G o fin) none 43 9 [(0, .ref (ad Γ o)), (1, .int v1), (2, .int v2), (3, .int v3), (4, .int st.1), (5, .int st.2.1), (6, .int st.2.2)] [] (ug G o r)) (KC (fun st : Int32 × Rec => Wk p l e { frames := 4, cells := 0, slots := 0, locals := 91 } s m args below meth c Γ A (ug G o fin) none 13 9 [(0, .ref (ad Γ o)), (1, .int v1), (2, .int v2), (3, .int st.1)] [] (ug G o st.2)) (KC (fun st : Int32 × Rec => Wk p l e { frames := 4, cells := 0, slots := 0, locals := 91 } s m args below meth c Γ A (ug G o fin) none 7 9 [(0, .ref (ad Γ o)), (1, .int v1), (2, .int st.1)] [] (ug G o st.2)) (fun x => x = fin))))) q) : Wk p l e { frames := 4, cells := 0, slots := 0, locals := 91 } s m args below meth c Γ A (ug G o fin) none 60 9 [(0, .ref (ad Γ o)), (1, .int v1), (2, .int v2), (3, .int v3), (4, .int v4), (5, .int v5), (6, .int v6), (7, .int v7)] [] (ug G o r) := by
  intro H locs ls hw hS hl
  unfold bX10_findTellings_60 at hf
  obtain ⟨hx, hb, hml, hr, hown, htw, hlocks, hE⟩ := id C
  have hown : s.vm.findClass RX10 = some m.cls := hown
  refine lv_iload hx hb dX10_findTellings_60 (lv_at hl 7 rfl) ?_
  refine lv_iload_n hx hb dX10_findTellings_62 rfl (lv_at hl 1 rfl) ?_
  refine lv_icmp_ge (tgt := 140) hx hb dX10_findTellings_63 (by decide) (fun c18 => ?_) (fun c18 => ?_)
  · have hf := ifp c18 hf
    obtain ⟨q6, hfq6, eq6⟩ := out1_some hf
    subst eq6
    have hf := hfq6
    have hq := hq.2 _ rfl
    exact wX10_findTellings_140 C hk hf hq H locs ls hw hS (lv_sub hl [0, 1, 2, 3, 4, 5, 6] rfl)
  · have hf := ifn c18 hf
    refine lv_iload_n hx hb dX10_findTellings_66 rfl (lv_at hl 3 rfl) ?_
    refine lv_iload hx hb dX10_findTellings_67 (lv_at hl 6 rfl) ?_
    obtain ⟨z7, hz7, hf⟩ := bd hf
    refine cl_Ss (rest := []) (kX10_has (l := l) (Γ := Γ) (A := A) (G := (ug G o r)) hz7) ⟨hx, hb, hml, hown, htw⟩ hE hw hS mw1561 mw1562 mw129 mw1563 pdX10_has ⟨Nat.le_of_ble_eq_true rfl, Nat.le_of_ble_eq_true rfl⟩ rfl rfl hl.1 (Nat.le_of_ble_eq_true rfl) dX10_findTellings_69 (fun H locs hw hS => ?_)
    refine lv_if_ne (tgt := 140) hx hb dX10_findTellings_72 (by decide) (fun c17 => ?_) (fun c17 => ?_)
    · have hf := ifn c17 hf
      obtain ⟨q8, hfq8, eq8⟩ := out1_some hf
      subst eq8
      have hf := hfq8
      have hq := hq.2 _ rfl
      exact wX10_findTellings_140 C hk hf hq H locs ls hw hS (lv_sub hl [0, 1, 2, 3, 4, 5, 6] rfl)
    · have hf := ifp c17 hf
      refine lv_aload_n hx hb dX10_findTellings_75 rfl (lv_at hl 0 rfl) ?_
      refine lv_iload hx hb dX10_findTellings_76 (lv_at hl 6 rfl) ?_
      refine lv_iload_n hx hb dX10_findTellings_78 rfl (lv_at hl 2 rfl) ?_
      refine lv_iload hx hb dX10_findTellings_79 (lv_at hl 7 rfl) ?_
      obtain ⟨z9, hz9, hf⟩ := bd hf
      refine cl_Vs (rest := []) (kX10_serves (l := l) (Γ := Γ) (A := A) (G := G) (o := o) hk hz9) ⟨hx, hb, hml, hown, htw⟩ hE hw hS (wo_me hw hk) (q0 := 0) rfl rfl mw1677 mw1679 mw93 mw129 mw1680 pdX10_serves ⟨Nat.le_of_ble_eq_true rfl, Nat.le_of_ble_eq_true rfl⟩ rfl rfl hl.1 (Nat.le_of_ble_eq_true rfl) dX10_findTellings_81 (fun H locs hw hS => ?_)
      refine lv_if_eq (tgt := 140) hx hb dX10_findTellings_84 (by decide) (fun c16 => ?_) (fun c16 => ?_)
      · have hf := ifp c16 hf
        obtain ⟨q10, hfq10, eq10⟩ := out1_some hf
        subst eq10
        have hf := hfq10
        have hq := hq.2 _ rfl
        exact wX10_findTellings_140 C hk hf hq H locs ls hw hS (lv_sub hl [0, 1, 2, 3, 4, 5, 6] rfl)
      · have hf := ifn c16 hf
        refine lv_sipush (v := 1024) hx hb dX10_findTellings_87 (by decide) ?_
        refine lv_iload hx hb dX10_findTellings_90 (lv_at hl 7 rfl) ?_
        refine lv_iconst (v := 1) hx hb dX10_findTellings_92 (by decide) ?_
        refine lv_iadd hx hb dX10_findTellings_93 ?_
        refine lv_imul hx hb dX10_findTellings_94 ?_
        refine lv_iload_n hx hb dX10_findTellings_95 rfl (lv_at hl 3 rfl) ?_
        refine lv_iconst (v := 1) hx hb dX10_findTellings_96 (by decide) ?_
        refine lv_iload hx hb dX10_findTellings_97 (lv_at hl 6 rfl) ?_
        refine lv_ishl hx hb dX10_findTellings_99 ?_
        refine lv_ior hx hb dX10_findTellings_100 ?_
        refine lv_iadd hx hb dX10_findTellings_101 ?_
        obtain ⟨x11, hx11, hf⟩ := bd hf
        have hx11 := Option.some.inj hx11
        refine tp1i hx11 ?_
        refine lv_istore (lv' := [(8, .int x11), (0, .ref (ad Γ o)), (1, .int v1), (2, .int v2), (3, .int v3), (4, .int v4), (5, .int v5), (6, .int v6), (7, .int v7)]) hx hb dX10_findTellings_102 hl (by decide) rfl (fun ls hl => ?_)
        refine lv_iload hx hb dX10_findTellings_104 (lv_at hl 5 rfl) ?_
        refine lv_iconst (v := 1) hx hb dX10_findTellings_106 (by decide) ?_
        refine lv_aload_n hx hb dX10_findTellings_107 rfl (lv_at hl 1 rfl) ?_
        refine va_get (ci := 10) (v := .ref (aa Γ o 36)) (C := RX10) (T := TX10) (N := 49) hx hb htw uwX10 hown hE.1 (wo_me hw hk) 0 rfl rfl 36 (by decide) (htw _ mw1279) (fun _ h9 => h9) rfl dX10_findTellings_108 ?_
        refine lv_iload hx hb dX10_findTellings_111 (lv_at hl 0 rfl) ?_
        obtain ⟨g12, hf⟩ := gd_some hf
        refine va_iald hx hb hE.1 (wo_me hw hk) 15 0 rfl rfl (inR_in g12) dX10_findTellings_113 ?_
        refine lv_iadd hx hb dX10_findTellings_114 ?_
        obtain ⟨z13, hz13, hf⟩ := bd hf
        refine cl_Ss (rest := []) (kX10_lesser (l := l) (Γ := Γ) (A := A) (G := (ug G o r)) hz13) ⟨hx, hb, hml, hown, htw⟩ hE hw hS mw1681 mw1682 mw129 mw1683 pdX10_lesser ⟨Nat.le_of_ble_eq_true rfl, Nat.le_of_ble_eq_true rfl⟩ rfl rfl hl.1 (Nat.le_of_ble_eq_true rfl) dX10_findTellings_115 (fun H locs hw hS => ?_)
        refine lv_istore (lv' := [(4, .int z13), (8, .int x11), (0, .ref (ad Γ o)), (1, .int v1), (2, .int v2), (3, .int v3), (5, .int v5), (6, .int v6), (7, .int v7)]) hx hb dX10_findTellings_118 hl (by decide) rfl (fun ls hl => ?_)
        refine lv_iload hx hb dX10_findTellings_120 (lv_at hl 6 rfl) ?_
        refine lv_aload_n hx hb dX10_findTellings_122 rfl (lv_at hl 2 rfl) ?_
        refine va_get (ci := 10) (v := .ref (aa Γ o 37)) (C := RX10) (T := TX10) (N := 49) hx hb htw uwX10 hown hE.1 (wo_me hw hk) 0 rfl rfl 37 (by decide) (htw _ mw1280) (fun _ h9 => h9) rfl dX10_findTellings_123 ?_
        refine lv_iload hx hb dX10_findTellings_126 (lv_at hl 1 rfl) ?_
        obtain ⟨g14, hf⟩ := gd_some hf
        refine va_iald hx hb hE.1 (wo_me hw hk) 16 0 rfl rfl (inR_in g14) dX10_findTellings_128 ?_
        obtain ⟨z15, hz15, hf⟩ := bd hf
        refine cl_Ss (rest := []) (kX10_greater (l := l) (Γ := Γ) (A := A) (G := (ug G o r)) hz15) ⟨hx, hb, hml, hown, htw⟩ hE hw hS mw1467 mw1468 mw129 mw1469 pdX10_greater ⟨Nat.le_of_ble_eq_true rfl, Nat.le_of_ble_eq_true rfl⟩ rfl rfl hl.1 (Nat.le_of_ble_eq_true rfl) dX10_findTellings_129 (fun H locs hw hS => ?_)
        refine lv_istore (lv' := [(5, .int z15), (4, .int z13), (8, .int x11), (0, .ref (ad Γ o)), (1, .int v1), (2, .int v2), (3, .int v3), (6, .int v6), (7, .int v7)]) hx hb dX10_findTellings_132 hl (by decide) rfl (fun ls hl => ?_)
        refine lv_iinc (v := v7 + 1) (lv' := [(7, .int (v7 + 1)), (5, .int z15), (4, .int z13), (8, .int x11), (0, .ref (ad Γ o)), (1, .int v1), (2, .int v2), (3, .int v3), (6, .int v6)]) hx hb dX10_findTellings_134 hl (k := 8) rfl (by rfl) (by decide) rfl (fun ls hl => ?_)
        refine lv_goto (tgt := 60) hx hb dX10_findTellings_137 (by decide) ?_
        obtain rfl := Option.some.inj hf
        exact hq.1 _ rfl H locs ls hw hS (lv_sub hl [4, 5, 6, 7, 2, 1, 8, 0] rfl)

set_option maxRecDepth 100000 in
set_option maxHeartbeats 4000000 in
theorem lwX10_findTellings_60 {p : Program} {l : Launch} {e : Env} {s : State} {m : MethodId} {args : Array Value} {below : List Frame} {meth : Method} {c : Code} {Γ : Gm} {A : Nat → Prop} {G : Gs} {o : Nat} {r : Rec} {v1 : Int32} {v2 : Int32} {v3 : Int32} {v4 : Int32} {v5 : Int32} {v6 : Int32} {v7 : Int32} {q : ((Int32 × Int32 × Int32) ⊕ ((Int32 × Rec) ⊕ ((Int32 × Rec) ⊕ Rec)))} {fin : Rec} (C : Cx p s m args meth c yX10_findTellings cX10_findTellings 9 none Γ A) (hk : kd Γ o = some 10) (hf : iter (fun st : Int32 × Int32 × Int32 => bX10_findTellings_60 r v1 v2 v3 st.1 st.2.1 v6 st.2.2) (v4, v5, v7) = some q) (hq : (KC (fun st : Int32 × Int32 × Int32 => Wk p l e { frames := 4, cells := 0, slots := 0, locals := 91 } s m args below meth c Γ A (ug G o fin) none 43 9 [(0, .ref (ad Γ o)), (1, .int v1), (2, .int v2), (3, .int v3), (4, .int st.1), (5, .int st.2.1), (6, .int st.2.2)] [] (ug G o r)) (KC (fun st : Int32 × Rec => Wk p l e { frames := 4, cells := 0, slots := 0, locals := 91 } s m args below meth c Γ A (ug G o fin) none 13 9 [(0, .ref (ad Γ o)), (1, .int v1), (2, .int v2), (3, .int st.1)] [] (ug G o st.2)) (KC (fun st : Int32 × Rec => Wk p l e { frames := 4, cells := 0, slots := 0, locals := 91 } s m args below meth c Γ A (ug G o fin) none 7 9 [(0, .ref (ad Γ o)), (1, .int v1), (2, .int st.1)] [] (ug G o st.2)) (fun x => x = fin)))) q) : Wk p l e { frames := 4, cells := 0, slots := 0, locals := 91 } s m args below meth c Γ A (ug G o fin) none 60 9 [(0, .ref (ad Γ o)), (1, .int v1), (2, .int v2), (3, .int v3), (4, .int v4), (5, .int v5), (6, .int v6), (7, .int v7)] [] (ug G o r) := by
  intro H locs ls hw hS hl
  refine iter_walk (P := (fun st : Int32 × Int32 × Int32 => Wk p l e { frames := 4, cells := 0, slots := 0, locals := 91 } s m args below meth c Γ A (ug G o fin) none 60 9 [(0, .ref (ad Γ o)), (1, .int v1), (2, .int v2), (3, .int v3), (4, .int st.1), (5, .int st.2.1), (6, .int v6), (7, .int st.2.2)] [] (ug G o r))) (K := (KC (fun st : Int32 × Int32 × Int32 => Wk p l e { frames := 4, cells := 0, slots := 0, locals := 91 } s m args below meth c Γ A (ug G o fin) none 43 9 [(0, .ref (ad Γ o)), (1, .int v1), (2, .int v2), (3, .int v3), (4, .int st.1), (5, .int st.2.1), (6, .int st.2.2)] [] (ug G o r)) (KC (fun st : Int32 × Rec => Wk p l e { frames := 4, cells := 0, slots := 0, locals := 91 } s m args below meth c Γ A (ug G o fin) none 13 9 [(0, .ref (ad Γ o)), (1, .int v1), (2, .int v2), (3, .int st.1)] [] (ug G o st.2)) (KC (fun st : Int32 × Rec => Wk p l e { frames := 4, cells := 0, slots := 0, locals := 91 } s m args below meth c Γ A (ug G o fin) none 7 9 [(0, .ref (ad Γ o)), (1, .int v1), (2, .int st.1)] [] (ug G o st.2)) (fun x => x = fin))))) (fun st q hq1 h1 h2 => ?_) hf hq H locs ls hw hS hl
  exact wX10_findTellings_60 (v4 := st.1) (v5 := st.2.1) (v7 := st.2.2) C hk hq1 ⟨h1, h2⟩

noncomputable def bX10_findTellings_43 (r : Rec) (v1 : Int32) (v2 : Int32) (v3 : Int32) (v4 : Int32) (v5 : Int32) (v6 : Int32) : Option ((Int32 × Int32 × Int32) ⊕ ((Int32 × Rec) ⊕ ((Int32 × Rec) ⊕ Rec))) :=
  if (gi r 27) ≤ v6 then out1 (bX10_findTellings_146 r v1 v2 v3 v4 v5) else if v1 ≤ v2 then out1 (bX10_findTellings_146 r v1 v2 v3 v4 v5) else iter (fun st : Int32 × Int32 × Int32 => bX10_findTellings_60 r v1 v2 v3 st.1 st.2.1 v6 st.2.2) (v4, v5, v2)
set_option maxRecDepth 100000 in
set_option maxHeartbeats 4000000 in
theorem wX10_findTellings_43 {p : Program} {l : Launch} {e : Env} {s : State} {m : MethodId} {args : Array Value} {below : List Frame} {meth : Method} {c : Code} {Γ : Gm} {A : Nat → Prop} {G : Gs} {o : Nat} {r : Rec} {v1 : Int32} {v2 : Int32} {v3 : Int32} {v4 : Int32} {v5 : Int32} {v6 : Int32} {q : ((Int32 × Int32 × Int32) ⊕ ((Int32 × Rec) ⊕ ((Int32 × Rec) ⊕ Rec)))} {fin : Rec} (C : Cx p s m args meth c yX10_findTellings cX10_findTellings 9 none Γ A) (hk : kd Γ o = some 10) (hf : bX10_findTellings_43 r v1 v2 v3 v4 v5 v6 = some q) (hq : (KC (fun st : Int32 × Int32 × Int32 => Wk p l e { frames := 4, cells := 0, slots := 0, locals := 91 } s m args below meth c Γ A (ug G o fin) none 43 9 [(0, .ref (ad Γ o)), (1, .int v1), (2, .int v2), (3, .int v3), (4, .int st.1), (5, .int st.2.1), (6, .int st.2.2)] [] (ug G o r)) (KC (fun st : Int32 × Rec => Wk p l e { frames := 4, cells := 0, slots := 0, locals := 91 } s m args below meth c Γ A (ug G o fin) none 13 9 [(0, .ref (ad Γ o)), (1, .int v1), (2, .int v2), (3, .int st.1)] [] (ug G o st.2)) (KC (fun st : Int32 × Rec => Wk p l e { frames := 4, cells := 0, slots := 0, locals := 91 } s m args below meth c Γ A (ug G o fin) none 7 9 [(0, .ref (ad Γ o)), (1, .int v1), (2, .int st.1)] [] (ug G o st.2)) (fun x => x = fin)))) q) : Wk p l e { frames := 4, cells := 0, slots := 0, locals := 91 } s m args below meth c Γ A (ug G o fin) none 43 9 [(0, .ref (ad Γ o)), (1, .int v1), (2, .int v2), (3, .int v3), (4, .int v4), (5, .int v5), (6, .int v6)] [] (ug G o r) := by
  intro H locs ls hw hS hl
  unfold bX10_findTellings_43 at hf
  obtain ⟨hx, hb, hml, hr, hown, htw, hlocks, hE⟩ := id C
  have hown : s.vm.findClass RX10 = some m.cls := hown
  refine lv_iload hx hb dX10_findTellings_43 (lv_at hl 6 rfl) ?_
  refine lv_aload_n hx hb dX10_findTellings_45 rfl (lv_at hl 0 rfl) ?_
  refine va_get (ci := 10) (v := .int (gi r 27)) (C := RX10) (T := TX10) (N := 49) hx hb htw uwX10 hown hE.1 (wo_me hw hk) 0 rfl rfl 27 (by decide) (htw _ mw1270) (fun _ h9 => h9) rfl dX10_findTellings_46 ?_
  refine lv_icmp_ge (tgt := 146) hx hb dX10_findTellings_49 (by decide) (fun c22 => ?_) (fun c22 => ?_)
  · have hf := ifp c22 hf
    obtain ⟨q19, hfq19, eq19⟩ := out1_some hf
    subst eq19
    have hf := hfq19
    have hq := hq.2 _ rfl
    exact wX10_findTellings_146 C hk hf hq H locs ls hw hS (lv_sub hl [0, 1, 2, 3, 4, 5] rfl)
  · have hf := ifn c22 hf
    refine lv_iload_n hx hb dX10_findTellings_52 rfl (lv_at hl 2 rfl) ?_
    refine lv_iload_n hx hb dX10_findTellings_53 rfl (lv_at hl 1 rfl) ?_
    refine lv_icmp_ge (tgt := 146) hx hb dX10_findTellings_54 (by decide) (fun c21 => ?_) (fun c21 => ?_)
    · have hf := ifp c21 hf
      obtain ⟨q20, hfq20, eq20⟩ := out1_some hf
      subst eq20
      have hf := hfq20
      have hq := hq.2 _ rfl
      exact wX10_findTellings_146 C hk hf hq H locs ls hw hS (lv_sub hl [0, 1, 2, 3, 4, 5] rfl)
    · have hf := ifn c21 hf
      refine lv_iload_n hx hb dX10_findTellings_57 rfl (lv_at hl 2 rfl) ?_
      refine lv_istore (lv' := [(7, .int v2), (0, .ref (ad Γ o)), (1, .int v1), (2, .int v2), (3, .int v3), (4, .int v4), (5, .int v5), (6, .int v6)]) hx hb dX10_findTellings_58 hl (by decide) rfl (fun ls hl => ?_)
      exact lwX10_findTellings_60 C hk hf hq H locs ls hw hS (lv_sub hl [1, 2, 3, 4, 5, 6, 7, 0] rfl)

set_option maxRecDepth 100000 in
set_option maxHeartbeats 4000000 in
theorem lwX10_findTellings_43 {p : Program} {l : Launch} {e : Env} {s : State} {m : MethodId} {args : Array Value} {below : List Frame} {meth : Method} {c : Code} {Γ : Gm} {A : Nat → Prop} {G : Gs} {o : Nat} {r : Rec} {v1 : Int32} {v2 : Int32} {v3 : Int32} {v4 : Int32} {v5 : Int32} {v6 : Int32} {q : ((Int32 × Rec) ⊕ ((Int32 × Rec) ⊕ Rec))} {fin : Rec} (C : Cx p s m args meth c yX10_findTellings cX10_findTellings 9 none Γ A) (hk : kd Γ o = some 10) (hf : iter (fun st : Int32 × Int32 × Int32 => bX10_findTellings_43 r v1 v2 v3 st.1 st.2.1 st.2.2) (v4, v5, v6) = some q) (hq : (KC (fun st : Int32 × Rec => Wk p l e { frames := 4, cells := 0, slots := 0, locals := 91 } s m args below meth c Γ A (ug G o fin) none 13 9 [(0, .ref (ad Γ o)), (1, .int v1), (2, .int v2), (3, .int st.1)] [] (ug G o st.2)) (KC (fun st : Int32 × Rec => Wk p l e { frames := 4, cells := 0, slots := 0, locals := 91 } s m args below meth c Γ A (ug G o fin) none 7 9 [(0, .ref (ad Γ o)), (1, .int v1), (2, .int st.1)] [] (ug G o st.2)) (fun x => x = fin))) q) : Wk p l e { frames := 4, cells := 0, slots := 0, locals := 91 } s m args below meth c Γ A (ug G o fin) none 43 9 [(0, .ref (ad Γ o)), (1, .int v1), (2, .int v2), (3, .int v3), (4, .int v4), (5, .int v5), (6, .int v6)] [] (ug G o r) := by
  intro H locs ls hw hS hl
  refine iter_walk (P := (fun st : Int32 × Int32 × Int32 => Wk p l e { frames := 4, cells := 0, slots := 0, locals := 91 } s m args below meth c Γ A (ug G o fin) none 43 9 [(0, .ref (ad Γ o)), (1, .int v1), (2, .int v2), (3, .int v3), (4, .int st.1), (5, .int st.2.1), (6, .int st.2.2)] [] (ug G o r))) (K := (KC (fun st : Int32 × Rec => Wk p l e { frames := 4, cells := 0, slots := 0, locals := 91 } s m args below meth c Γ A (ug G o fin) none 13 9 [(0, .ref (ad Γ o)), (1, .int v1), (2, .int v2), (3, .int st.1)] [] (ug G o st.2)) (KC (fun st : Int32 × Rec => Wk p l e { frames := 4, cells := 0, slots := 0, locals := 91 } s m args below meth c Γ A (ug G o fin) none 7 9 [(0, .ref (ad Γ o)), (1, .int v1), (2, .int st.1)] [] (ug G o st.2)) (fun x => x = fin)))) (fun st q hq1 h1 h2 => ?_) hf hq H locs ls hw hS hl
  exact wX10_findTellings_43 (v4 := st.1) (v5 := st.2.1) (v6 := st.2.2) C hk hq1 ⟨h1, h2⟩

noncomputable def bX10_findTellings_35 (r : Rec) (v1 : Int32) (v2 : Int32) (v3 : Int32) (s0 : Int32) : Option ((Int32 × Rec) ⊕ ((Int32 × Rec) ⊕ Rec)) :=
  iter (fun st : Int32 × Int32 × Int32 => bX10_findTellings_43 r v1 v2 v3 st.1 st.2.1 st.2.2) (s0, v2, 0)
set_option maxRecDepth 100000 in
set_option maxHeartbeats 4000000 in
theorem wX10_findTellings_35 {p : Program} {l : Launch} {e : Env} {s : State} {m : MethodId} {args : Array Value} {below : List Frame} {meth : Method} {c : Code} {Γ : Gm} {A : Nat → Prop} {G : Gs} {o : Nat} {r : Rec} {v1 : Int32} {v2 : Int32} {v3 : Int32} {s0 : Int32} {q : ((Int32 × Rec) ⊕ ((Int32 × Rec) ⊕ Rec))} {fin : Rec} (C : Cx p s m args meth c yX10_findTellings cX10_findTellings 9 none Γ A) (hk : kd Γ o = some 10) (hf : bX10_findTellings_35 r v1 v2 v3 s0 = some q) (hq : (KC (fun st : Int32 × Rec => Wk p l e { frames := 4, cells := 0, slots := 0, locals := 91 } s m args below meth c Γ A (ug G o fin) none 13 9 [(0, .ref (ad Γ o)), (1, .int v1), (2, .int v2), (3, .int st.1)] [] (ug G o st.2)) (KC (fun st : Int32 × Rec => Wk p l e { frames := 4, cells := 0, slots := 0, locals := 91 } s m args below meth c Γ A (ug G o fin) none 7 9 [(0, .ref (ad Γ o)), (1, .int v1), (2, .int st.1)] [] (ug G o st.2)) (fun x => x = fin))) q) : Wk p l e { frames := 4, cells := 0, slots := 0, locals := 91 } s m args below meth c Γ A (ug G o fin) none 35 9 [(0, .ref (ad Γ o)), (1, .int v1), (2, .int v2), (3, .int v3)] [.int s0] (ug G o r) := by
  intro H locs ls hw hS hl
  unfold bX10_findTellings_35 at hf
  obtain ⟨hx, hb, hml, hr, hown, htw, hlocks, hE⟩ := id C
  have hown : s.vm.findClass RX10 = some m.cls := hown
  refine lv_istore (lv' := [(4, .int s0), (0, .ref (ad Γ o)), (1, .int v1), (2, .int v2), (3, .int v3)]) hx hb dX10_findTellings_35 hl (by decide) rfl (fun ls hl => ?_)
  refine lv_iload_n hx hb dX10_findTellings_37 rfl (lv_at hl 3 rfl) ?_
  refine lv_istore (lv' := [(5, .int v2), (4, .int s0), (0, .ref (ad Γ o)), (1, .int v1), (2, .int v2), (3, .int v3)]) hx hb dX10_findTellings_38 hl (by decide) rfl (fun ls hl => ?_)
  refine lv_iconst (v := 0) hx hb dX10_findTellings_40 (by decide) ?_
  refine lv_istore (lv' := [(6, .int 0), (5, .int v2), (4, .int s0), (0, .ref (ad Γ o)), (1, .int v1), (2, .int v2), (3, .int v3)]) hx hb dX10_findTellings_41 hl (by decide) rfl (fun ls hl => ?_)
  exact lwX10_findTellings_43 C hk hf hq H locs ls hw hS (lv_sub hl [3, 4, 5, 6, 2, 1, 0] rfl)

noncomputable def bX10_findTellings_13 (r : Rec) (v1 : Int32) (v2 : Int32) (v3 : Int32) : Option ((Int32 × Rec) ⊕ ((Int32 × Rec) ⊕ Rec)) :=
  if ((1 : Int32) <<< ((gi r 27) &&& 31)) ≤ v3 then out1 (bX10_findTellings_186 r v1 v2) else if v2 = v1 then bX10_findTellings_35 r v1 v2 v3 0 else bX10_findTellings_35 r v1 v2 v3 1000000
set_option maxRecDepth 100000 in
set_option maxHeartbeats 4000000 in
theorem wX10_findTellings_13 {p : Program} {l : Launch} {e : Env} {s : State} {m : MethodId} {args : Array Value} {below : List Frame} {meth : Method} {c : Code} {Γ : Gm} {A : Nat → Prop} {G : Gs} {o : Nat} {r : Rec} {v1 : Int32} {v2 : Int32} {v3 : Int32} {q : ((Int32 × Rec) ⊕ ((Int32 × Rec) ⊕ Rec))} {fin : Rec} (C : Cx p s m args meth c yX10_findTellings cX10_findTellings 9 none Γ A) (hk : kd Γ o = some 10) (hf : bX10_findTellings_13 r v1 v2 v3 = some q) (hq : (KC (fun st : Int32 × Rec => Wk p l e { frames := 4, cells := 0, slots := 0, locals := 91 } s m args below meth c Γ A (ug G o fin) none 13 9 [(0, .ref (ad Γ o)), (1, .int v1), (2, .int v2), (3, .int st.1)] [] (ug G o st.2)) (KC (fun st : Int32 × Rec => Wk p l e { frames := 4, cells := 0, slots := 0, locals := 91 } s m args below meth c Γ A (ug G o fin) none 7 9 [(0, .ref (ad Γ o)), (1, .int v1), (2, .int st.1)] [] (ug G o st.2)) (fun x => x = fin))) q) : Wk p l e { frames := 4, cells := 0, slots := 0, locals := 91 } s m args below meth c Γ A (ug G o fin) none 13 9 [(0, .ref (ad Γ o)), (1, .int v1), (2, .int v2), (3, .int v3)] [] (ug G o r) := by
  intro H locs ls hw hS hl
  unfold bX10_findTellings_13 at hf
  obtain ⟨hx, hb, hml, hr, hown, htw, hlocks, hE⟩ := id C
  have hown : s.vm.findClass RX10 = some m.cls := hown
  refine lv_iload_n hx hb dX10_findTellings_13 rfl (lv_at hl 3 rfl) ?_
  refine lv_iconst (v := 1) hx hb dX10_findTellings_14 (by decide) ?_
  refine lv_aload_n hx hb dX10_findTellings_15 rfl (lv_at hl 0 rfl) ?_
  refine va_get (ci := 10) (v := .int (gi r 27)) (C := RX10) (T := TX10) (N := 49) hx hb htw uwX10 hown hE.1 (wo_me hw hk) 0 rfl rfl 27 (by decide) (htw _ mw1270) (fun _ h9 => h9) rfl dX10_findTellings_16 ?_
  refine lv_ishl hx hb dX10_findTellings_19 ?_
  refine lv_icmp_ge (tgt := 186) hx hb dX10_findTellings_20 (by decide) (fun c25 => ?_) (fun c25 => ?_)
  · have hf := ifp c25 hf
    obtain ⟨q23, hfq23, eq23⟩ := out1_some hf
    subst eq23
    have hf := hfq23
    have hq := hq.2 _ rfl
    exact wX10_findTellings_186 C hk hf hq H locs ls hw hS (lv_sub hl [0, 1, 2] rfl)
  · have hf := ifn c25 hf
    refine lv_iload_n hx hb dX10_findTellings_23 rfl (lv_at hl 2 rfl) ?_
    refine lv_iload_n hx hb dX10_findTellings_24 rfl (lv_at hl 1 rfl) ?_
    refine lv_icmp_ne (tgt := 32) hx hb dX10_findTellings_25 (by decide) (fun c24 => ?_) (fun c24 => ?_)
    · have hf := ifn c24 hf
      refine lv_ldcw hx hb hown (htw _ mw1676) dX10_findTellings_32 ?_
      exact wX10_findTellings_35 C hk hf hq H locs ls hw hS hl
    · have hf := ifp c24 hf
      refine lv_iconst (v := 0) hx hb dX10_findTellings_28 (by decide) ?_
      refine lv_goto (tgt := 35) hx hb dX10_findTellings_29 (by decide) ?_
      exact wX10_findTellings_35 C hk hf hq H locs ls hw hS hl

set_option maxRecDepth 100000 in
set_option maxHeartbeats 4000000 in
theorem lwX10_findTellings_13 {p : Program} {l : Launch} {e : Env} {s : State} {m : MethodId} {args : Array Value} {below : List Frame} {meth : Method} {c : Code} {Γ : Gm} {A : Nat → Prop} {G : Gs} {o : Nat} {r : Rec} {v1 : Int32} {v2 : Int32} {v3 : Int32} {q : ((Int32 × Rec) ⊕ Rec)} {fin : Rec} (C : Cx p s m args meth c yX10_findTellings cX10_findTellings 9 none Γ A) (hk : kd Γ o = some 10) (hf : iter (fun st : Int32 × Rec => bX10_findTellings_13 st.2 v1 v2 st.1) (v3, r) = some q) (hq : (KC (fun st : Int32 × Rec => Wk p l e { frames := 4, cells := 0, slots := 0, locals := 91 } s m args below meth c Γ A (ug G o fin) none 7 9 [(0, .ref (ad Γ o)), (1, .int v1), (2, .int st.1)] [] (ug G o st.2)) (fun x => x = fin)) q) : Wk p l e { frames := 4, cells := 0, slots := 0, locals := 91 } s m args below meth c Γ A (ug G o fin) none 13 9 [(0, .ref (ad Γ o)), (1, .int v1), (2, .int v2), (3, .int v3)] [] (ug G o r) := by
  intro H locs ls hw hS hl
  refine iter_walk (P := (fun st : Int32 × Rec => Wk p l e { frames := 4, cells := 0, slots := 0, locals := 91 } s m args below meth c Γ A (ug G o fin) none 13 9 [(0, .ref (ad Γ o)), (1, .int v1), (2, .int v2), (3, .int st.1)] [] (ug G o st.2))) (K := (KC (fun st : Int32 × Rec => Wk p l e { frames := 4, cells := 0, slots := 0, locals := 91 } s m args below meth c Γ A (ug G o fin) none 7 9 [(0, .ref (ad Γ o)), (1, .int v1), (2, .int st.1)] [] (ug G o st.2)) (fun x => x = fin))) (fun st q hq1 h1 h2 => ?_) hf hq H locs ls hw hS hl
  exact wX10_findTellings_13 (r := st.2) (v3 := st.1) C hk hq1 ⟨h1, h2⟩

noncomputable def bX10_findTellings_7 (r : Rec) (v1 : Int32) (v2 : Int32) : Option ((Int32 × Rec) ⊕ Rec) :=
  if v2 < 0 then some (.inr (r)) else iter (fun st : Int32 × Rec => bX10_findTellings_13 st.2 v1 v2 st.1) (0, r)
set_option maxRecDepth 100000 in
set_option maxHeartbeats 4000000 in
theorem wX10_findTellings_7 {p : Program} {l : Launch} {e : Env} {s : State} {m : MethodId} {args : Array Value} {below : List Frame} {meth : Method} {c : Code} {Γ : Gm} {A : Nat → Prop} {G : Gs} {o : Nat} {r : Rec} {v1 : Int32} {v2 : Int32} {q : ((Int32 × Rec) ⊕ Rec)} {fin : Rec} (C : Cx p s m args meth c yX10_findTellings cX10_findTellings 9 none Γ A) (hk : kd Γ o = some 10) (hf : bX10_findTellings_7 r v1 v2 = some q) (hq : (KC (fun st : Int32 × Rec => Wk p l e { frames := 4, cells := 0, slots := 0, locals := 91 } s m args below meth c Γ A (ug G o fin) none 7 9 [(0, .ref (ad Γ o)), (1, .int v1), (2, .int st.1)] [] (ug G o st.2)) (fun x => x = fin)) q) : Wk p l e { frames := 4, cells := 0, slots := 0, locals := 91 } s m args below meth c Γ A (ug G o fin) none 7 9 [(0, .ref (ad Γ o)), (1, .int v1), (2, .int v2)] [] (ug G o r) := by
  intro H locs ls hw hS hl
  unfold bX10_findTellings_7 at hf
  obtain ⟨hx, hb, hml, hr, hown, htw, hlocks, hE⟩ := id C
  have hown : s.vm.findClass RX10 = some m.cls := hown
  refine lv_iload_n hx hb dX10_findTellings_7 rfl (lv_at hl 2 rfl) ?_
  refine lv_if_lt (tgt := 192) hx hb dX10_findTellings_8 (by decide) (fun c26 => ?_) (fun c26 => ?_)
  · have hf := ifp c26 hf
    obtain rfl := Option.some.inj hf
    have hq := hq.2 _ rfl
    subst hq
    exact rt_v C hw hS dX10_findTellings_192
  · have hf := ifn c26 hf
    refine lv_iconst (v := 0) hx hb dX10_findTellings_11 (by decide) ?_
    refine lv_istore_n (lv' := [(3, .int 0), (0, .ref (ad Γ o)), (1, .int v1), (2, .int v2)]) hx hb dX10_findTellings_12 rfl hl (by decide) rfl (fun ls hl => ?_)
    exact lwX10_findTellings_13 C hk hf hq H locs ls hw hS (lv_sub hl [1, 2, 3, 0] rfl)

set_option maxRecDepth 100000 in
set_option maxHeartbeats 4000000 in
theorem lwX10_findTellings_7 {p : Program} {l : Launch} {e : Env} {s : State} {m : MethodId} {args : Array Value} {below : List Frame} {meth : Method} {c : Code} {Γ : Gm} {A : Nat → Prop} {G : Gs} {o : Nat} {r : Rec} {v1 : Int32} {v2 : Int32} {q : Rec} {fin : Rec} (C : Cx p s m args meth c yX10_findTellings cX10_findTellings 9 none Γ A) (hk : kd Γ o = some 10) (hf : iter (fun st : Int32 × Rec => bX10_findTellings_7 st.2 v1 st.1) (v2, r) = some q) (hq : (fun x => x = fin) q) : Wk p l e { frames := 4, cells := 0, slots := 0, locals := 91 } s m args below meth c Γ A (ug G o fin) none 7 9 [(0, .ref (ad Γ o)), (1, .int v1), (2, .int v2)] [] (ug G o r) := by
  intro H locs ls hw hS hl
  refine iter_walk (P := (fun st : Int32 × Rec => Wk p l e { frames := 4, cells := 0, slots := 0, locals := 91 } s m args below meth c Γ A (ug G o fin) none 7 9 [(0, .ref (ad Γ o)), (1, .int v1), (2, .int st.1)] [] (ug G o st.2))) (K := (fun x => x = fin)) (fun st q hq1 h1 h2 => ?_) hf hq H locs ls hw hS hl
  exact wX10_findTellings_7 (r := st.2) (v2 := st.1) C hk hq1 ⟨h1, h2⟩

noncomputable def fX10_findTellings (r : Rec) : Option Rec :=
  (fX10_dinners r).bind fun z27 => iter (fun st : Int32 × Rec => bX10_findTellings_7 st.2 z27 st.1) (z27, r)
set_option maxRecDepth 100000 in
set_option maxHeartbeats 4000000 in
theorem wX10_findTellings_e {p : Program} {l : Launch} {e : Env} {s : State} {m : MethodId} {args : Array Value} {below : List Frame} {meth : Method} {c : Code} {Γ : Gm} {A : Nat → Prop} {G : Gs} {o : Nat} {r : Rec} {q : Rec} {fin : Rec} (C : Cx p s m args meth c yX10_findTellings cX10_findTellings 9 none Γ A) (hk : kd Γ o = some 10) (hf : fX10_findTellings r = some q) (hq : (fun x => x = fin) q) : Wk p l e { frames := 4, cells := 0, slots := 0, locals := 91 } s m args below meth c Γ A (ug G o fin) none 0 9 [(0, .ref (ad Γ o))] [] (ug G o r) := by
  intro H locs ls hw hS hl
  unfold fX10_findTellings at hf
  obtain ⟨hx, hb, hml, hr, hown, htw, hlocks, hE⟩ := id C
  have hown : s.vm.findClass RX10 = some m.cls := hown
  refine lv_aload_n hx hb dX10_findTellings_0 rfl (lv_at hl 0 rfl) ?_
  obtain ⟨z27, hz27, hf⟩ := bd hf
  refine cl_Vs (rest := []) (kX10_dinners (l := l) (Γ := Γ) (A := A) (G := G) (o := o) hk hz27) ⟨hx, hb, hml, hown, htw⟩ hE hw hS (wo_me hw hk) (q0 := 0) rfl rfl mw1660 mw1662 mw90 mw129 mw1663 pdX10_dinners ⟨Nat.le_of_ble_eq_true rfl, Nat.le_of_ble_eq_true rfl⟩ rfl rfl hl.1 (Nat.le_of_ble_eq_true rfl) dX10_findTellings_1 (fun H locs hw hS => ?_)
  refine lv_istore_n (lv' := [(1, .int z27), (0, .ref (ad Γ o))]) hx hb dX10_findTellings_4 rfl hl (by decide) rfl (fun ls hl => ?_)
  refine lv_iload_n hx hb dX10_findTellings_5 rfl (lv_at hl 0 rfl) ?_
  refine lv_istore_n (lv' := [(2, .int z27), (1, .int z27), (0, .ref (ad Γ o))]) hx hb dX10_findTellings_6 rfl hl (by decide) rfl (fun ls hl => ?_)
  exact lwX10_findTellings_7 C hk hf hq H locs ls hw hS (lv_sub hl [2, 1, 0] rfl)

theorem kX10_findTellings {l : Launch} {Γ : Gm} {A : Nat → Prop} {G : Gs} {o : Nat} {r : Rec} {fin : Rec} (hk : kd Γ o = some 10) (hf : fX10_findTellings r = some fin) : Kt l yX10_findTellings cX10_findTellings 9 none 4 91 Γ A (ug G o r) (ug G o fin) [.ref (ad Γ o)] none :=
  kt_of (by decide) (Nat.le_of_ble_eq_true rfl) (fun p e s m args below meth c C => wX10_findTellings_e C hk hf rfl)
theorem kgX10_findTellings {l : Launch} {Γ : Gm} {A : Nat → Prop} {G : Gs} {o : Nat} {fin : Rec} (hk : kd Γ o = some 10) (hf : fX10_findTellings (G o) = some fin) : Kt l yX10_findTellings cX10_findTellings 9 none 4 91 Γ A G (ug G o fin) [.ref (ad Γ o)] none := by
  have h := kX10_findTellings (l := l) (A := A) (G := G) (r := G o) hk hf
  rw [ug_self] at h
  exact h
noncomputable def bX10_toldAhead_177 (r : Rec) (v1 : Int32) (v2 : Int32) (v4 : Int32) (v6 : Int32) : Option ((Int32 × Int32 × Int32) ⊕ Int32) :=
  (some (v2 ||| ((1 : Int32) <<< (v4 &&& 31)))).bind fun x1 => some (.inl (x1, v6 + 1, v4))
set_option maxRecDepth 100000 in
set_option maxHeartbeats 4000000 in
theorem wX10_toldAhead_177 {p : Program} {l : Launch} {e : Env} {s : State} {m : MethodId} {args : Array Value} {below : List Frame} {meth : Method} {c : Code} {Γ : Gm} {A : Nat → Prop} {G : Gs} {o : Nat} {r : Rec} {v1 : Int32} {v2 : Int32} {v4 : Int32} {v6 : Int32} {q : ((Int32 × Int32 × Int32) ⊕ Int32)} {fin : Int32} (C : Cx p s m args meth c yX10_toldAhead cX10_toldAhead 10 (some .int) Γ A) (hk : kd Γ o = some 10) (hf : bX10_toldAhead_177 r v1 v2 v4 v6 = some q) (hq : (KC (fun st : Int32 × Int32 × Int32 => Wk p l e { frames := 4, cells := 0, slots := 0, locals := 91 } s m args below meth c Γ A (ug G o r) (some (.int fin)) 7 10 [(0, .ref (ad Γ o)), (1, .int v1), (2, .int st.1), (3, .int st.2.1), (4, .int st.2.2)] [] (ug G o r)) (fun x => x = fin)) q) : Wk p l e { frames := 4, cells := 0, slots := 0, locals := 91 } s m args below meth c Γ A (ug G o r) (some (.int fin)) 177 10 [(0, .ref (ad Γ o)), (1, .int v1), (2, .int v2), (4, .int v4), (6, .int v6)] [] (ug G o r) := by
  intro H locs ls hw hS hl
  unfold bX10_toldAhead_177 at hf
  obtain ⟨hx, hb, hml, hr, hown, htw, hlocks, hE⟩ := id C
  have hown : s.vm.findClass RX10 = some m.cls := hown
  refine lv_iload_n hx hb dX10_toldAhead_177 rfl (lv_at hl 2 rfl) ?_
  refine lv_iconst (v := 1) hx hb dX10_toldAhead_178 (by decide) ?_
  refine lv_iload hx hb dX10_toldAhead_179 (lv_at hl 3 rfl) ?_
  refine lv_ishl hx hb dX10_toldAhead_181 ?_
  refine lv_ior hx hb dX10_toldAhead_182 ?_
  obtain ⟨x1, hx1, hf⟩ := bd hf
  have hx1 := Option.some.inj hx1
  refine tp1i hx1 ?_
  refine lv_istore_n (lv' := [(2, .int x1), (0, .ref (ad Γ o)), (1, .int v1), (4, .int v4), (6, .int v6)]) hx hb dX10_toldAhead_183 rfl hl (by decide) rfl (fun ls hl => ?_)
  refine lv_iload hx hb dX10_toldAhead_184 (lv_at hl 4 rfl) ?_
  refine lv_iconst (v := 1) hx hb dX10_toldAhead_186 (by decide) ?_
  refine lv_iadd hx hb dX10_toldAhead_187 ?_
  refine lv_istore_n (lv' := [(3, .int (v6 + 1)), (2, .int x1), (0, .ref (ad Γ o)), (1, .int v1), (4, .int v4), (6, .int v6)]) hx hb dX10_toldAhead_188 rfl hl (by decide) rfl (fun ls hl => ?_)
  refine lv_goto (tgt := 7) hx hb dX10_toldAhead_189 (by decide) ?_
  obtain rfl := Option.some.inj hf
  exact hq.1 _ rfl H locs ls hw hS (lv_sub hl [2, 3, 1, 0, 4] rfl)

noncomputable def bX10_toldAhead_163 (r : Rec) (v1 : Int32) (v2 : Int32) (v3 : Int32) (v4 : Int32) (v6 : Int32) : Option ((Int32 × Int32 × Int32) ⊕ Int32) :=
  if v1 ≤ v3 then bX10_toldAhead_177 r v1 v2 v4 v6 else if v6 < v1 then bX10_toldAhead_177 r v1 v2 v4 v6 else some (.inr (10))
set_option maxRecDepth 100000 in
set_option maxHeartbeats 4000000 in
theorem wX10_toldAhead_163 {p : Program} {l : Launch} {e : Env} {s : State} {m : MethodId} {args : Array Value} {below : List Frame} {meth : Method} {c : Code} {Γ : Gm} {A : Nat → Prop} {G : Gs} {o : Nat} {r : Rec} {v1 : Int32} {v2 : Int32} {v3 : Int32} {v4 : Int32} {v6 : Int32} {q : ((Int32 × Int32 × Int32) ⊕ Int32)} {fin : Int32} (C : Cx p s m args meth c yX10_toldAhead cX10_toldAhead 10 (some .int) Γ A) (hk : kd Γ o = some 10) (hf : bX10_toldAhead_163 r v1 v2 v3 v4 v6 = some q) (hq : (KC (fun st : Int32 × Int32 × Int32 => Wk p l e { frames := 4, cells := 0, slots := 0, locals := 91 } s m args below meth c Γ A (ug G o r) (some (.int fin)) 7 10 [(0, .ref (ad Γ o)), (1, .int v1), (2, .int st.1), (3, .int st.2.1), (4, .int st.2.2)] [] (ug G o r)) (fun x => x = fin)) q) : Wk p l e { frames := 4, cells := 0, slots := 0, locals := 91 } s m args below meth c Γ A (ug G o r) (some (.int fin)) 163 10 [(0, .ref (ad Γ o)), (1, .int v1), (2, .int v2), (3, .int v3), (4, .int v4), (6, .int v6)] [] (ug G o r) := by
  intro H locs ls hw hS hl
  unfold bX10_toldAhead_163 at hf
  obtain ⟨hx, hb, hml, hr, hown, htw, hlocks, hE⟩ := id C
  have hown : s.vm.findClass RX10 = some m.cls := hown
  refine lv_iload_n hx hb dX10_toldAhead_163 rfl (lv_at hl 1 rfl) ?_
  refine lv_iload_n hx hb dX10_toldAhead_164 rfl (lv_at hl 3 rfl) ?_
  refine lv_icmp_le (tgt := 177) hx hb dX10_toldAhead_165 (by decide) (fun c3 => ?_) (fun c3 => ?_)
  · have hf := ifp c3 hf
    exact wX10_toldAhead_177 C hk hf hq H locs ls hw hS (lv_sub hl [0, 1, 2, 4, 5] rfl)
  · have hf := ifn c3 hf
    refine lv_iload_n hx hb dX10_toldAhead_168 rfl (lv_at hl 1 rfl) ?_
    refine lv_iload hx hb dX10_toldAhead_169 (lv_at hl 5 rfl) ?_
    refine lv_icmp_gt (tgt := 177) hx hb dX10_toldAhead_171 (by decide) (fun c2 => ?_) (fun c2 => ?_)
    · have hf := ifp c2 hf
      exact wX10_toldAhead_177 C hk hf hq H locs ls hw hS (lv_sub hl [0, 1, 2, 4, 5] rfl)
    · have hf := ifn c2 hf
      refine lv_bipush (v := 10) hx hb dX10_toldAhead_174 (by decide) ?_
      obtain rfl := Option.some.inj hf
      have hq := hq.2 _ rfl
      subst hq
      exact rt_i C hw hS dX10_toldAhead_176

noncomputable def bX10_toldAhead_157 (r : Rec) (v1 : Int32) (v2 : Int32) (v3 : Int32) (v4 : Int32) (v5 : Int32) (v6 : Int32) (v7 : Int32) : Option ((Int32 × Int32 × Int32) ⊕ ((Int32 × Int32 × Int32) ⊕ Int32)) :=
  some (.inl (v4, v6, v7 + 1))
set_option maxRecDepth 100000 in
set_option maxHeartbeats 4000000 in
theorem wX10_toldAhead_157 {p : Program} {l : Launch} {e : Env} {s : State} {m : MethodId} {args : Array Value} {below : List Frame} {meth : Method} {c : Code} {Γ : Gm} {A : Nat → Prop} {G : Gs} {o : Nat} {r : Rec} {v1 : Int32} {v2 : Int32} {v3 : Int32} {v4 : Int32} {v5 : Int32} {v6 : Int32} {v7 : Int32} {q : ((Int32 × Int32 × Int32) ⊕ ((Int32 × Int32 × Int32) ⊕ Int32))} {fin : Int32} (C : Cx p s m args meth c yX10_toldAhead cX10_toldAhead 10 (some .int) Γ A) (hk : kd Γ o = some 10) (hf : bX10_toldAhead_157 r v1 v2 v3 v4 v5 v6 v7 = some q) (hq : (KC (fun st : Int32 × Int32 × Int32 => Wk p l e { frames := 4, cells := 0, slots := 0, locals := 91 } s m args below meth c Γ A (ug G o r) (some (.int fin)) 35 10 [(0, .ref (ad Γ o)), (1, .int v1), (2, .int v2), (3, .int v3), (4, .int st.1), (5, .int v5), (6, .int st.2.1), (7, .int st.2.2)] [] (ug G o r)) (KC (fun st : Int32 × Int32 × Int32 => Wk p l e { frames := 4, cells := 0, slots := 0, locals := 91 } s m args below meth c Γ A (ug G o r) (some (.int fin)) 7 10 [(0, .ref (ad Γ o)), (1, .int v1), (2, .int st.1), (3, .int st.2.1), (4, .int st.2.2)] [] (ug G o r)) (fun x => x = fin))) q) : Wk p l e { frames := 4, cells := 0, slots := 0, locals := 91 } s m args below meth c Γ A (ug G o r) (some (.int fin)) 157 10 [(0, .ref (ad Γ o)), (1, .int v1), (2, .int v2), (3, .int v3), (4, .int v4), (5, .int v5), (6, .int v6), (7, .int v7)] [] (ug G o r) := by
  intro H locs ls hw hS hl
  unfold bX10_toldAhead_157 at hf
  obtain ⟨hx, hb, hml, hr, hown, htw, hlocks, hE⟩ := id C
  have hown : s.vm.findClass RX10 = some m.cls := hown
  refine lv_iinc (v := v7 + 1) (lv' := [(7, .int (v7 + 1)), (0, .ref (ad Γ o)), (1, .int v1), (2, .int v2), (3, .int v3), (4, .int v4), (5, .int v5), (6, .int v6)]) hx hb dX10_toldAhead_157 hl (k := 7) rfl (by rfl) (by decide) rfl (fun ls hl => ?_)
  refine lv_goto (tgt := 35) hx hb dX10_toldAhead_160 (by decide) ?_
  obtain rfl := Option.some.inj hf
  exact hq.1 _ rfl H locs ls hw hS (lv_sub hl [1, 2, 3, 4, 5, 6, 7, 0] rfl)

noncomputable def bX10_toldAhead_149 (r : Rec) (v1 : Int32) (v2 : Int32) (v3 : Int32) (v4 : Int32) (v5 : Int32) (v7 : Int32) (v8 : Int32) (s0 : Int32) : Option ((Int32 × Int32 × Int32) ⊕ ((Int32 × Int32 × Int32) ⊕ ((Int32 × Int32 × Int32) ⊕ Int32))) :=
  some (.inl (v4, s0, v8 + 1))
set_option maxRecDepth 100000 in
set_option maxHeartbeats 4000000 in
theorem wX10_toldAhead_149 {p : Program} {l : Launch} {e : Env} {s : State} {m : MethodId} {args : Array Value} {below : List Frame} {meth : Method} {c : Code} {Γ : Gm} {A : Nat → Prop} {G : Gs} {o : Nat} {r : Rec} {v1 : Int32} {v2 : Int32} {v3 : Int32} {v4 : Int32} {v5 : Int32} {v7 : Int32} {v8 : Int32} {s0 : Int32} {q : ((Int32 × Int32 × Int32) ⊕ ((Int32 × Int32 × Int32) ⊕ ((Int32 × Int32 × Int32) ⊕ Int32)))} {fin : Int32} (C : Cx p s m args meth c yX10_toldAhead cX10_toldAhead 10 (some .int) Γ A) (hk : kd Γ o = some 10) (hf : bX10_toldAhead_149 r v1 v2 v3 v4 v5 v7 v8 s0 = some q) (hq : (KC (fun st : Int32 × Int32 × Int32 => Wk p l e { frames := 4, cells := 0, slots := 0, locals := 91 } s m args below meth c Γ A (ug G o r) (some (.int fin)) 53 10 [(0, .ref (ad Γ o)), (1, .int v1), (2, .int v2), (3, .int v3), (4, .int st.1), (5, .int v5), (6, .int st.2.1), (7, .int v7), (8, .int st.2.2)] [] (ug G o r)) (KC (fun st : Int32 × Int32 × Int32 => Wk p l e { frames := 4, cells := 0, slots := 0, locals := 91 } s m args below meth c Γ A (ug G o r) (some (.int fin)) 35 10 [(0, .ref (ad Γ o)), (1, .int v1), (2, .int v2), (3, .int v3), (4, .int st.1), (5, .int v5), (6, .int st.2.1), (7, .int st.2.2)] [] (ug G o r)) (KC (fun st : Int32 × Int32 × Int32 => Wk p l e { frames := 4, cells := 0, slots := 0, locals := 91 } s m args below meth c Γ A (ug G o r) (some (.int fin)) 7 10 [(0, .ref (ad Γ o)), (1, .int v1), (2, .int st.1), (3, .int st.2.1), (4, .int st.2.2)] [] (ug G o r)) (fun x => x = fin)))) q) : Wk p l e { frames := 4, cells := 0, slots := 0, locals := 91 } s m args below meth c Γ A (ug G o r) (some (.int fin)) 149 10 [(0, .ref (ad Γ o)), (1, .int v1), (2, .int v2), (3, .int v3), (4, .int v4), (5, .int v5), (7, .int v7), (8, .int v8)] [.int s0] (ug G o r) := by
  intro H locs ls hw hS hl
  unfold bX10_toldAhead_149 at hf
  obtain ⟨hx, hb, hml, hr, hown, htw, hlocks, hE⟩ := id C
  have hown : s.vm.findClass RX10 = some m.cls := hown
  refine lv_istore (lv' := [(6, .int s0), (0, .ref (ad Γ o)), (1, .int v1), (2, .int v2), (3, .int v3), (4, .int v4), (5, .int v5), (7, .int v7), (8, .int v8)]) hx hb dX10_toldAhead_149 hl (by decide) rfl (fun ls hl => ?_)
  refine lv_iinc (v := v8 + 1) (lv' := [(8, .int (v8 + 1)), (6, .int s0), (0, .ref (ad Γ o)), (1, .int v1), (2, .int v2), (3, .int v3), (4, .int v4), (5, .int v5), (7, .int v7)]) hx hb dX10_toldAhead_151 hl (k := 8) rfl (by rfl) (by decide) rfl (fun ls hl => ?_)
  refine lv_goto (tgt := 53) hx hb dX10_toldAhead_154 (by decide) ?_
  obtain rfl := Option.some.inj hf
  exact hq.1 _ rfl H locs ls hw hS (lv_sub hl [2, 3, 4, 5, 6, 7, 1, 8, 0] rfl)

noncomputable def bX10_toldAhead_135 (r : Rec) (v1 : Int32) (v2 : Int32) (v3 : Int32) (v5 : Int32) (v6 : Int32) (v7 : Int32) (v8 : Int32) (v9 : Int32) (s0 : Int32) : Option ((Int32 × Int32 × Int32) ⊕ ((Int32 × Int32 × Int32) ⊕ ((Int32 × Int32 × Int32) ⊕ Int32))) :=
  if v9 = 0 then bX10_toldAhead_149 r v1 v2 v3 s0 v5 v7 v8 v6 else bX10_toldAhead_149 r v1 v2 v3 s0 v5 v7 v8 v8
set_option maxRecDepth 100000 in
set_option maxHeartbeats 4000000 in
theorem wX10_toldAhead_135 {p : Program} {l : Launch} {e : Env} {s : State} {m : MethodId} {args : Array Value} {below : List Frame} {meth : Method} {c : Code} {Γ : Gm} {A : Nat → Prop} {G : Gs} {o : Nat} {r : Rec} {v1 : Int32} {v2 : Int32} {v3 : Int32} {v5 : Int32} {v6 : Int32} {v7 : Int32} {v8 : Int32} {v9 : Int32} {s0 : Int32} {q : ((Int32 × Int32 × Int32) ⊕ ((Int32 × Int32 × Int32) ⊕ ((Int32 × Int32 × Int32) ⊕ Int32)))} {fin : Int32} (C : Cx p s m args meth c yX10_toldAhead cX10_toldAhead 10 (some .int) Γ A) (hk : kd Γ o = some 10) (hf : bX10_toldAhead_135 r v1 v2 v3 v5 v6 v7 v8 v9 s0 = some q) (hq : (KC (fun st : Int32 × Int32 × Int32 => Wk p l e { frames := 4, cells := 0, slots := 0, locals := 91 } s m args below meth c Γ A (ug G o r) (some (.int fin)) 53 10 [(0, .ref (ad Γ o)), (1, .int v1), (2, .int v2), (3, .int v3), (4, .int st.1), (5, .int v5), (6, .int st.2.1), (7, .int v7), (8, .int st.2.2)] [] (ug G o r)) (KC (fun st : Int32 × Int32 × Int32 => Wk p l e { frames := 4, cells := 0, slots := 0, locals := 91 } s m args below meth c Γ A (ug G o r) (some (.int fin)) 35 10 [(0, .ref (ad Γ o)), (1, .int v1), (2, .int v2), (3, .int v3), (4, .int st.1), (5, .int v5), (6, .int st.2.1), (7, .int st.2.2)] [] (ug G o r)) (KC (fun st : Int32 × Int32 × Int32 => Wk p l e { frames := 4, cells := 0, slots := 0, locals := 91 } s m args below meth c Γ A (ug G o r) (some (.int fin)) 7 10 [(0, .ref (ad Γ o)), (1, .int v1), (2, .int st.1), (3, .int st.2.1), (4, .int st.2.2)] [] (ug G o r)) (fun x => x = fin)))) q) : Wk p l e { frames := 4, cells := 0, slots := 0, locals := 91 } s m args below meth c Γ A (ug G o r) (some (.int fin)) 135 10 [(0, .ref (ad Γ o)), (1, .int v1), (2, .int v2), (3, .int v3), (5, .int v5), (6, .int v6), (7, .int v7), (8, .int v8), (9, .int v9)] [.int s0] (ug G o r) := by
  intro H locs ls hw hS hl
  unfold bX10_toldAhead_135 at hf
  obtain ⟨hx, hb, hml, hr, hown, htw, hlocks, hE⟩ := id C
  have hown : s.vm.findClass RX10 = some m.cls := hown
  refine lv_istore (lv' := [(4, .int s0), (0, .ref (ad Γ o)), (1, .int v1), (2, .int v2), (3, .int v3), (5, .int v5), (6, .int v6), (7, .int v7), (8, .int v8), (9, .int v9)]) hx hb dX10_toldAhead_135 hl (by decide) rfl (fun ls hl => ?_)
  refine lv_iload hx hb dX10_toldAhead_137 (lv_at hl 9 rfl) ?_
  refine lv_if_eq (tgt := 147) hx hb dX10_toldAhead_139 (by decide) (fun c4 => ?_) (fun c4 => ?_)
  · have hf := ifp c4 hf
    refine lv_iload hx hb dX10_toldAhead_147 (lv_at hl 6 rfl) ?_
    exact wX10_toldAhead_149 C hk hf hq H locs ls hw hS (lv_sub hl [1, 2, 3, 4, 0, 5, 7, 8] rfl)
  · have hf := ifn c4 hf
    refine lv_iload hx hb dX10_toldAhead_142 (lv_at hl 8 rfl) ?_
    refine lv_goto (tgt := 149) hx hb dX10_toldAhead_144 (by decide) ?_
    exact wX10_toldAhead_149 C hk hf hq H locs ls hw hS (lv_sub hl [1, 2, 3, 4, 0, 5, 7, 8] rfl)

noncomputable def bX10_toldAhead_121 (r : Rec) (v1 : Int32) (v2 : Int32) (v3 : Int32) (v4 : Int32) (v5 : Int32) (v6 : Int32) (v7 : Int32) (v8 : Int32) (s0 : Int32) : Option ((Int32 × Int32 × Int32) ⊕ ((Int32 × Int32 × Int32) ⊕ ((Int32 × Int32 × Int32) ⊕ Int32))) :=
  if s0 = 0 then bX10_toldAhead_135 r v1 v2 v3 v5 v6 v7 v8 s0 v4 else bX10_toldAhead_135 r v1 v2 v3 v5 v6 v7 v8 s0 v7
set_option maxRecDepth 100000 in
set_option maxHeartbeats 4000000 in
theorem wX10_toldAhead_121 {p : Program} {l : Launch} {e : Env} {s : State} {m : MethodId} {args : Array Value} {below : List Frame} {meth : Method} {c : Code} {Γ : Gm} {A : Nat → Prop} {G : Gs} {o : Nat} {r : Rec} {v1 : Int32} {v2 : Int32} {v3 : Int32} {v4 : Int32} {v5 : Int32} {v6 : Int32} {v7 : Int32} {v8 : Int32} {s0 : Int32} {q : ((Int32 × Int32 × Int32) ⊕ ((Int32 × Int32 × Int32) ⊕ ((Int32 × Int32 × Int32) ⊕ Int32)))} {fin : Int32} (C : Cx p s m args meth c yX10_toldAhead cX10_toldAhead 10 (some .int) Γ A) (hk : kd Γ o = some 10) (hf : bX10_toldAhead_121 r v1 v2 v3 v4 v5 v6 v7 v8 s0 = some q) (hq : (KC (fun st : Int32 × Int32 × Int32 => Wk p l e { frames := 4, cells := 0, slots := 0, locals := 91 } s m args below meth c Γ A (ug G o r) (some (.int fin)) 53 10 [(0, .ref (ad Γ o)), (1, .int v1), (2, .int v2), (3, .int v3), (4, .int st.1), (5, .int v5), (6, .int st.2.1), (7, .int v7), (8, .int st.2.2)] [] (ug G o r)) (KC (fun st : Int32 × Int32 × Int32 => Wk p l e { frames := 4, cells := 0, slots := 0, locals := 91 } s m args below meth c Γ A (ug G o r) (some (.int fin)) 35 10 [(0, .ref (ad Γ o)), (1, .int v1), (2, .int v2), (3, .int v3), (4, .int st.1), (5, .int v5), (6, .int st.2.1), (7, .int st.2.2)] [] (ug G o r)) (KC (fun st : Int32 × Int32 × Int32 => Wk p l e { frames := 4, cells := 0, slots := 0, locals := 91 } s m args below meth c Γ A (ug G o r) (some (.int fin)) 7 10 [(0, .ref (ad Γ o)), (1, .int v1), (2, .int st.1), (3, .int st.2.1), (4, .int st.2.2)] [] (ug G o r)) (fun x => x = fin)))) q) : Wk p l e { frames := 4, cells := 0, slots := 0, locals := 91 } s m args below meth c Γ A (ug G o r) (some (.int fin)) 121 10 [(0, .ref (ad Γ o)), (1, .int v1), (2, .int v2), (3, .int v3), (4, .int v4), (5, .int v5), (6, .int v6), (7, .int v7), (8, .int v8)] [.int s0] (ug G o r) := by
  intro H locs ls hw hS hl
  unfold bX10_toldAhead_121 at hf
  obtain ⟨hx, hb, hml, hr, hown, htw, hlocks, hE⟩ := id C
  have hown : s.vm.findClass RX10 = some m.cls := hown
  refine lv_istore (lv' := [(9, .int s0), (0, .ref (ad Γ o)), (1, .int v1), (2, .int v2), (3, .int v3), (4, .int v4), (5, .int v5), (6, .int v6), (7, .int v7), (8, .int v8)]) hx hb dX10_toldAhead_121 hl (by decide) rfl (fun ls hl => ?_)
  refine lv_iload hx hb dX10_toldAhead_123 (lv_at hl 0 rfl) ?_
  refine lv_if_eq (tgt := 133) hx hb dX10_toldAhead_125 (by decide) (fun c5 => ?_) (fun c5 => ?_)
  · have hf := ifp c5 hf
    refine lv_iload hx hb dX10_toldAhead_133 (lv_at hl 5 rfl) ?_
    exact wX10_toldAhead_135 C hk hf hq H locs ls hw hS (lv_sub hl [1, 2, 3, 4, 6, 7, 8, 9, 0] rfl)
  · have hf := ifn c5 hf
    refine lv_iload hx hb dX10_toldAhead_128 (lv_at hl 8 rfl) ?_
    refine lv_goto (tgt := 135) hx hb dX10_toldAhead_130 (by decide) ?_
    exact wX10_toldAhead_135 C hk hf hq H locs ls hw hS (lv_sub hl [1, 2, 3, 4, 6, 7, 8, 9, 0] rfl)

noncomputable def bX10_toldAhead_53 (r : Rec) (v1 : Int32) (v2 : Int32) (v3 : Int32) (v4 : Int32) (v5 : Int32) (v6 : Int32) (v7 : Int32) (v8 : Int32) : Option ((Int32 × Int32 × Int32) ⊕ ((Int32 × Int32 × Int32) ⊕ ((Int32 × Int32 × Int32) ⊕ Int32))) :=
  (fX10_dinners r).bind fun z6 => if z6 ≤ v8 then out1 (bX10_toldAhead_157 r v1 v2 v3 v4 v5 v6 v7) else if v4 = (-1) then (fX10_has v2 v7).bind fun z9 => if z9 = 0 then (fX10_serves r v7 v3 v8).bind fun z11 => if z11 = 0 then out1 (bX10_toldAhead_157 r v1 v2 v3 v4 v5 v6 v7) else (some ((1024 * (v8 + 1)) + (v2 ||| ((1 : Int32) <<< (v7 &&& 31))))).bind fun x13 => gd (inR x13 9216) (if (1 + (ga r 36 (Int32.toNatClampNeg x13))) = v5 then bX10_toldAhead_121 r v1 v2 v3 v4 v5 v6 v7 v8 1 else bX10_toldAhead_121 r v1 v2 v3 v4 v5 v6 v7 v8 0) else out1 (bX10_toldAhead_157 r v1 v2 v3 v4 v5 v6 v7) else out1 (bX10_toldAhead_157 r v1 v2 v3 v4 v5 v6 v7)
set_option maxRecDepth 100000 in
set_option maxHeartbeats 4000000 in
theorem wX10_toldAhead_53 {p : Program} {l : Launch} {e : Env} {s : State} {m : MethodId} {args : Array Value} {below : List Frame} {meth : Method} {c : Code} {Γ : Gm} {A : Nat → Prop} {G : Gs} {o : Nat} {r : Rec} {v1 : Int32} {v2 : Int32} {v3 : Int32} {v4 : Int32} {v5 : Int32} {v6 : Int32} {v7 : Int32} {v8 : Int32} {q : ((Int32 × Int32 × Int32) ⊕ ((Int32 × Int32 × Int32) ⊕ ((Int32 × Int32 × Int32) ⊕ Int32)))} {fin : Int32} (C : Cx p s m args meth c yX10_toldAhead cX10_toldAhead 10 (some .int) Γ A) (hk : kd Γ o = some 10) (hf : bX10_toldAhead_53 r v1 v2 v3 v4 v5 v6 v7 v8 = some q) (hq : (KC (fun st : Int32 × Int32 × Int32 => Wk p l e { frames := 4, cells := 0, slots := 0, locals := 91 } s m args below meth c Γ A (ug G o r) (some (.int fin)) 53 10 [(0, .ref (ad Γ o)), (1, .int v1), (2, .int v2), (3, .int v3), (4, .int st.1), (5, .int v5), (6, .int st.2.1), (7, .int v7), (8, .int st.2.2)] [] (ug G o r)) (KC (fun st : Int32 × Int32 × Int32 => Wk p l e { frames := 4, cells := 0, slots := 0, locals := 91 } s m args below meth c Γ A (ug G o r) (some (.int fin)) 35 10 [(0, .ref (ad Γ o)), (1, .int v1), (2, .int v2), (3, .int v3), (4, .int st.1), (5, .int v5), (6, .int st.2.1), (7, .int st.2.2)] [] (ug G o r)) (KC (fun st : Int32 × Int32 × Int32 => Wk p l e { frames := 4, cells := 0, slots := 0, locals := 91 } s m args below meth c Γ A (ug G o r) (some (.int fin)) 7 10 [(0, .ref (ad Γ o)), (1, .int v1), (2, .int st.1), (3, .int st.2.1), (4, .int st.2.2)] [] (ug G o r)) (fun x => x = fin)))) q) : Wk p l e { frames := 4, cells := 0, slots := 0, locals := 91 } s m args below meth c Γ A (ug G o r) (some (.int fin)) 53 10 [(0, .ref (ad Γ o)), (1, .int v1), (2, .int v2), (3, .int v3), (4, .int v4), (5, .int v5), (6, .int v6), (7, .int v7), (8, .int v8)] [] (ug G o r) := by
  intro H locs ls hw hS hl
  unfold bX10_toldAhead_53 at hf
  obtain ⟨hx, hb, hml, hr, hown, htw, hlocks, hE⟩ := id C
  have hown : s.vm.findClass RX10 = some m.cls := hown
  refine lv_iload hx hb dX10_toldAhead_53 (lv_at hl 8 rfl) ?_
  refine lv_aload_n hx hb dX10_toldAhead_55 rfl (lv_at hl 0 rfl) ?_
  obtain ⟨z6, hz6, hf⟩ := bd hf
  refine cl_Vs (rest := [.int v8]) (kX10_dinners (l := l) (Γ := Γ) (A := A) (G := G) (o := o) hk hz6) ⟨hx, hb, hml, hown, htw⟩ hE hw hS (wo_me hw hk) (q0 := 0) rfl rfl mw1660 mw1662 mw90 mw129 mw1663 pdX10_dinners ⟨Nat.le_of_ble_eq_true rfl, Nat.le_of_ble_eq_true rfl⟩ rfl rfl hl.1 (Nat.le_of_ble_eq_true rfl) dX10_toldAhead_56 (fun H locs hw hS => ?_)
  refine lv_icmp_ge (tgt := 157) hx hb dX10_toldAhead_59 (by decide) (fun c19 => ?_) (fun c19 => ?_)
  · have hf := ifp c19 hf
    obtain ⟨q7, hfq7, eq7⟩ := out1_some hf
    subst eq7
    have hf := hfq7
    have hq := hq.2 _ rfl
    exact wX10_toldAhead_157 C hk hf hq H locs ls hw hS (lv_sub hl [0, 1, 2, 3, 4, 5, 6, 7] rfl)
  · have hf := ifn c19 hf
    refine lv_iload hx hb dX10_toldAhead_62 (lv_at hl 4 rfl) ?_
    refine lv_iconst (v := (-1)) hx hb dX10_toldAhead_64 (by decide) ?_
    refine lv_icmp_ne (tgt := 157) hx hb dX10_toldAhead_65 (by decide) (fun c18 => ?_) (fun c18 => ?_)
    · have hf := ifn c18 hf
      obtain ⟨q8, hfq8, eq8⟩ := out1_some hf
      subst eq8
      have hf := hfq8
      have hq := hq.2 _ rfl
      exact wX10_toldAhead_157 C hk hf hq H locs ls hw hS (lv_sub hl [0, 1, 2, 3, 4, 5, 6, 7] rfl)
    · have hf := ifp c18 hf
      refine lv_iload_n hx hb dX10_toldAhead_68 rfl (lv_at hl 2 rfl) ?_
      refine lv_iload hx hb dX10_toldAhead_69 (lv_at hl 7 rfl) ?_
      obtain ⟨z9, hz9, hf⟩ := bd hf
      refine cl_Ss (rest := []) (kX10_has (l := l) (Γ := Γ) (A := A) (G := (ug G o r)) hz9) ⟨hx, hb, hml, hown, htw⟩ hE hw hS mw1561 mw1562 mw129 mw1563 pdX10_has ⟨Nat.le_of_ble_eq_true rfl, Nat.le_of_ble_eq_true rfl⟩ rfl rfl hl.1 (Nat.le_of_ble_eq_true rfl) dX10_toldAhead_71 (fun H locs hw hS => ?_)
      refine lv_if_ne (tgt := 157) hx hb dX10_toldAhead_74 (by decide) (fun c17 => ?_) (fun c17 => ?_)
      · have hf := ifn c17 hf
        obtain ⟨q10, hfq10, eq10⟩ := out1_some hf
        subst eq10
        have hf := hfq10
        have hq := hq.2 _ rfl
        exact wX10_toldAhead_157 C hk hf hq H locs ls hw hS (lv_sub hl [0, 1, 2, 3, 4, 5, 6, 7] rfl)
      · have hf := ifp c17 hf
        refine lv_aload_n hx hb dX10_toldAhead_77 rfl (lv_at hl 0 rfl) ?_
        refine lv_iload hx hb dX10_toldAhead_78 (lv_at hl 7 rfl) ?_
        refine lv_iload_n hx hb dX10_toldAhead_80 rfl (lv_at hl 3 rfl) ?_
        refine lv_iload hx hb dX10_toldAhead_81 (lv_at hl 8 rfl) ?_
        obtain ⟨z11, hz11, hf⟩ := bd hf
        refine cl_Vs (rest := []) (kX10_serves (l := l) (Γ := Γ) (A := A) (G := G) (o := o) hk hz11) ⟨hx, hb, hml, hown, htw⟩ hE hw hS (wo_me hw hk) (q0 := 0) rfl rfl mw1677 mw1679 mw93 mw129 mw1680 pdX10_serves ⟨Nat.le_of_ble_eq_true rfl, Nat.le_of_ble_eq_true rfl⟩ rfl rfl hl.1 (Nat.le_of_ble_eq_true rfl) dX10_toldAhead_83 (fun H locs hw hS => ?_)
        refine lv_if_eq (tgt := 157) hx hb dX10_toldAhead_86 (by decide) (fun c16 => ?_) (fun c16 => ?_)
        · have hf := ifp c16 hf
          obtain ⟨q12, hfq12, eq12⟩ := out1_some hf
          subst eq12
          have hf := hfq12
          have hq := hq.2 _ rfl
          exact wX10_toldAhead_157 C hk hf hq H locs ls hw hS (lv_sub hl [0, 1, 2, 3, 4, 5, 6, 7] rfl)
        · have hf := ifn c16 hf
          refine lv_iconst (v := 1) hx hb dX10_toldAhead_89 (by decide) ?_
          refine lv_aload_n hx hb dX10_toldAhead_90 rfl (lv_at hl 0 rfl) ?_
          refine va_get (ci := 10) (v := .ref (aa Γ o 36)) (C := RX10) (T := TX10) (N := 49) hx hb htw uwX10 hown hE.1 (wo_me hw hk) 0 rfl rfl 36 (by decide) (htw _ mw1279) (fun _ h9 => h9) rfl dX10_toldAhead_91 ?_
          refine lv_sipush (v := 1024) hx hb dX10_toldAhead_94 (by decide) ?_
          refine lv_iload hx hb dX10_toldAhead_97 (lv_at hl 8 rfl) ?_
          refine lv_iconst (v := 1) hx hb dX10_toldAhead_99 (by decide) ?_
          refine lv_iadd hx hb dX10_toldAhead_100 ?_
          refine lv_imul hx hb dX10_toldAhead_101 ?_
          refine lv_iload_n hx hb dX10_toldAhead_102 rfl (lv_at hl 2 rfl) ?_
          refine lv_iconst (v := 1) hx hb dX10_toldAhead_103 (by decide) ?_
          refine lv_iload hx hb dX10_toldAhead_104 (lv_at hl 7 rfl) ?_
          refine lv_ishl hx hb dX10_toldAhead_106 ?_
          refine lv_ior hx hb dX10_toldAhead_107 ?_
          refine lv_iadd hx hb dX10_toldAhead_108 ?_
          obtain ⟨x13, hx13, hf⟩ := bd hf
          have hx13 := Option.some.inj hx13
          refine tp1i hx13 ?_
          obtain ⟨g14, hf⟩ := gd_some hf
          refine va_iald hx hb hE.1 (wo_me hw hk) 15 0 rfl rfl (inR_in g14) dX10_toldAhead_109 ?_
          refine lv_iadd hx hb dX10_toldAhead_110 ?_
          refine lv_iload hx hb dX10_toldAhead_111 (lv_at hl 5 rfl) ?_
          refine lv_icmp_ne (tgt := 120) hx hb dX10_toldAhead_113 (by decide) (fun c15 => ?_) (fun c15 => ?_)
          · have hf := ifn c15 hf
            refine lv_iconst (v := 0) hx hb dX10_toldAhead_120 (by decide) ?_
            exact wX10_toldAhead_121 C hk hf hq H locs ls hw hS hl
          · have hf := ifp c15 hf
            refine lv_iconst (v := 1) hx hb dX10_toldAhead_116 (by decide) ?_
            refine lv_goto (tgt := 121) hx hb dX10_toldAhead_117 (by decide) ?_
            exact wX10_toldAhead_121 C hk hf hq H locs ls hw hS hl

set_option maxRecDepth 100000 in
set_option maxHeartbeats 4000000 in
theorem lwX10_toldAhead_53 {p : Program} {l : Launch} {e : Env} {s : State} {m : MethodId} {args : Array Value} {below : List Frame} {meth : Method} {c : Code} {Γ : Gm} {A : Nat → Prop} {G : Gs} {o : Nat} {r : Rec} {v1 : Int32} {v2 : Int32} {v3 : Int32} {v4 : Int32} {v5 : Int32} {v6 : Int32} {v7 : Int32} {v8 : Int32} {q : ((Int32 × Int32 × Int32) ⊕ ((Int32 × Int32 × Int32) ⊕ Int32))} {fin : Int32} (C : Cx p s m args meth c yX10_toldAhead cX10_toldAhead 10 (some .int) Γ A) (hk : kd Γ o = some 10) (hf : iter (fun st : Int32 × Int32 × Int32 => bX10_toldAhead_53 r v1 v2 v3 st.1 v5 st.2.1 v7 st.2.2) (v4, v6, v8) = some q) (hq : (KC (fun st : Int32 × Int32 × Int32 => Wk p l e { frames := 4, cells := 0, slots := 0, locals := 91 } s m args below meth c Γ A (ug G o r) (some (.int fin)) 35 10 [(0, .ref (ad Γ o)), (1, .int v1), (2, .int v2), (3, .int v3), (4, .int st.1), (5, .int v5), (6, .int st.2.1), (7, .int st.2.2)] [] (ug G o r)) (KC (fun st : Int32 × Int32 × Int32 => Wk p l e { frames := 4, cells := 0, slots := 0, locals := 91 } s m args below meth c Γ A (ug G o r) (some (.int fin)) 7 10 [(0, .ref (ad Γ o)), (1, .int v1), (2, .int st.1), (3, .int st.2.1), (4, .int st.2.2)] [] (ug G o r)) (fun x => x = fin))) q) : Wk p l e { frames := 4, cells := 0, slots := 0, locals := 91 } s m args below meth c Γ A (ug G o r) (some (.int fin)) 53 10 [(0, .ref (ad Γ o)), (1, .int v1), (2, .int v2), (3, .int v3), (4, .int v4), (5, .int v5), (6, .int v6), (7, .int v7), (8, .int v8)] [] (ug G o r) := by
  intro H locs ls hw hS hl
  refine iter_walk (P := (fun st : Int32 × Int32 × Int32 => Wk p l e { frames := 4, cells := 0, slots := 0, locals := 91 } s m args below meth c Γ A (ug G o r) (some (.int fin)) 53 10 [(0, .ref (ad Γ o)), (1, .int v1), (2, .int v2), (3, .int v3), (4, .int st.1), (5, .int v5), (6, .int st.2.1), (7, .int v7), (8, .int st.2.2)] [] (ug G o r))) (K := (KC (fun st : Int32 × Int32 × Int32 => Wk p l e { frames := 4, cells := 0, slots := 0, locals := 91 } s m args below meth c Γ A (ug G o r) (some (.int fin)) 35 10 [(0, .ref (ad Γ o)), (1, .int v1), (2, .int v2), (3, .int v3), (4, .int st.1), (5, .int v5), (6, .int st.2.1), (7, .int st.2.2)] [] (ug G o r)) (KC (fun st : Int32 × Int32 × Int32 => Wk p l e { frames := 4, cells := 0, slots := 0, locals := 91 } s m args below meth c Γ A (ug G o r) (some (.int fin)) 7 10 [(0, .ref (ad Γ o)), (1, .int v1), (2, .int st.1), (3, .int st.2.1), (4, .int st.2.2)] [] (ug G o r)) (fun x => x = fin)))) (fun st q hq1 h1 h2 => ?_) hf hq H locs ls hw hS hl
  exact wX10_toldAhead_53 (v4 := st.1) (v6 := st.2.1) (v8 := st.2.2) C hk hq1 ⟨h1, h2⟩

noncomputable def bX10_toldAhead_35 (r : Rec) (v1 : Int32) (v2 : Int32) (v3 : Int32) (v4 : Int32) (v5 : Int32) (v6 : Int32) (v7 : Int32) : Option ((Int32 × Int32 × Int32) ⊕ ((Int32 × Int32 × Int32) ⊕ Int32)) :=
  if (gi r 27) ≤ v7 then out1 (bX10_toldAhead_163 r v1 v2 v3 v4 v6) else if v4 = (-1) then iter (fun st : Int32 × Int32 × Int32 => bX10_toldAhead_53 r v1 v2 v3 st.1 v5 st.2.1 v7 st.2.2) (v4, v6, v3) else out1 (bX10_toldAhead_163 r v1 v2 v3 v4 v6)
set_option maxRecDepth 100000 in
set_option maxHeartbeats 4000000 in
theorem wX10_toldAhead_35 {p : Program} {l : Launch} {e : Env} {s : State} {m : MethodId} {args : Array Value} {below : List Frame} {meth : Method} {c : Code} {Γ : Gm} {A : Nat → Prop} {G : Gs} {o : Nat} {r : Rec} {v1 : Int32} {v2 : Int32} {v3 : Int32} {v4 : Int32} {v5 : Int32} {v6 : Int32} {v7 : Int32} {q : ((Int32 × Int32 × Int32) ⊕ ((Int32 × Int32 × Int32) ⊕ Int32))} {fin : Int32} (C : Cx p s m args meth c yX10_toldAhead cX10_toldAhead 10 (some .int) Γ A) (hk : kd Γ o = some 10) (hf : bX10_toldAhead_35 r v1 v2 v3 v4 v5 v6 v7 = some q) (hq : (KC (fun st : Int32 × Int32 × Int32 => Wk p l e { frames := 4, cells := 0, slots := 0, locals := 91 } s m args below meth c Γ A (ug G o r) (some (.int fin)) 35 10 [(0, .ref (ad Γ o)), (1, .int v1), (2, .int v2), (3, .int v3), (4, .int st.1), (5, .int v5), (6, .int st.2.1), (7, .int st.2.2)] [] (ug G o r)) (KC (fun st : Int32 × Int32 × Int32 => Wk p l e { frames := 4, cells := 0, slots := 0, locals := 91 } s m args below meth c Γ A (ug G o r) (some (.int fin)) 7 10 [(0, .ref (ad Γ o)), (1, .int v1), (2, .int st.1), (3, .int st.2.1), (4, .int st.2.2)] [] (ug G o r)) (fun x => x = fin))) q) : Wk p l e { frames := 4, cells := 0, slots := 0, locals := 91 } s m args below meth c Γ A (ug G o r) (some (.int fin)) 35 10 [(0, .ref (ad Γ o)), (1, .int v1), (2, .int v2), (3, .int v3), (4, .int v4), (5, .int v5), (6, .int v6), (7, .int v7)] [] (ug G o r) := by
  intro H locs ls hw hS hl
  unfold bX10_toldAhead_35 at hf
  obtain ⟨hx, hb, hml, hr, hown, htw, hlocks, hE⟩ := id C
  have hown : s.vm.findClass RX10 = some m.cls := hown
  refine lv_iload hx hb dX10_toldAhead_35 (lv_at hl 7 rfl) ?_
  refine lv_aload_n hx hb dX10_toldAhead_37 rfl (lv_at hl 0 rfl) ?_
  refine va_get (ci := 10) (v := .int (gi r 27)) (C := RX10) (T := TX10) (N := 49) hx hb htw uwX10 hown hE.1 (wo_me hw hk) 0 rfl rfl 27 (by decide) (htw _ mw1270) (fun _ h9 => h9) rfl dX10_toldAhead_38 ?_
  refine lv_icmp_ge (tgt := 163) hx hb dX10_toldAhead_41 (by decide) (fun c23 => ?_) (fun c23 => ?_)
  · have hf := ifp c23 hf
    obtain ⟨q20, hfq20, eq20⟩ := out1_some hf
    subst eq20
    have hf := hfq20
    have hq := hq.2 _ rfl
    exact wX10_toldAhead_163 C hk hf hq H locs ls hw hS (lv_sub hl [0, 1, 2, 3, 4, 6] rfl)
  · have hf := ifn c23 hf
    refine lv_iload hx hb dX10_toldAhead_44 (lv_at hl 4 rfl) ?_
    refine lv_iconst (v := (-1)) hx hb dX10_toldAhead_46 (by decide) ?_
    refine lv_icmp_ne (tgt := 163) hx hb dX10_toldAhead_47 (by decide) (fun c22 => ?_) (fun c22 => ?_)
    · have hf := ifn c22 hf
      obtain ⟨q21, hfq21, eq21⟩ := out1_some hf
      subst eq21
      have hf := hfq21
      have hq := hq.2 _ rfl
      exact wX10_toldAhead_163 C hk hf hq H locs ls hw hS (lv_sub hl [0, 1, 2, 3, 4, 6] rfl)
    · have hf := ifp c22 hf
      refine lv_iload_n hx hb dX10_toldAhead_50 rfl (lv_at hl 3 rfl) ?_
      refine lv_istore (lv' := [(8, .int v3), (0, .ref (ad Γ o)), (1, .int v1), (2, .int v2), (3, .int v3), (4, .int v4), (5, .int v5), (6, .int v6), (7, .int v7)]) hx hb dX10_toldAhead_51 hl (by decide) rfl (fun ls hl => ?_)
      exact lwX10_toldAhead_53 C hk hf hq H locs ls hw hS (lv_sub hl [1, 2, 3, 4, 5, 6, 7, 8, 0] rfl)

set_option maxRecDepth 100000 in
set_option maxHeartbeats 4000000 in
theorem lwX10_toldAhead_35 {p : Program} {l : Launch} {e : Env} {s : State} {m : MethodId} {args : Array Value} {below : List Frame} {meth : Method} {c : Code} {Γ : Gm} {A : Nat → Prop} {G : Gs} {o : Nat} {r : Rec} {v1 : Int32} {v2 : Int32} {v3 : Int32} {v4 : Int32} {v5 : Int32} {v6 : Int32} {v7 : Int32} {q : ((Int32 × Int32 × Int32) ⊕ Int32)} {fin : Int32} (C : Cx p s m args meth c yX10_toldAhead cX10_toldAhead 10 (some .int) Γ A) (hk : kd Γ o = some 10) (hf : iter (fun st : Int32 × Int32 × Int32 => bX10_toldAhead_35 r v1 v2 v3 st.1 v5 st.2.1 st.2.2) (v4, v6, v7) = some q) (hq : (KC (fun st : Int32 × Int32 × Int32 => Wk p l e { frames := 4, cells := 0, slots := 0, locals := 91 } s m args below meth c Γ A (ug G o r) (some (.int fin)) 7 10 [(0, .ref (ad Γ o)), (1, .int v1), (2, .int st.1), (3, .int st.2.1), (4, .int st.2.2)] [] (ug G o r)) (fun x => x = fin)) q) : Wk p l e { frames := 4, cells := 0, slots := 0, locals := 91 } s m args below meth c Γ A (ug G o r) (some (.int fin)) 35 10 [(0, .ref (ad Γ o)), (1, .int v1), (2, .int v2), (3, .int v3), (4, .int v4), (5, .int v5), (6, .int v6), (7, .int v7)] [] (ug G o r) := by
  intro H locs ls hw hS hl
  refine iter_walk (P := (fun st : Int32 × Int32 × Int32 => Wk p l e { frames := 4, cells := 0, slots := 0, locals := 91 } s m args below meth c Γ A (ug G o r) (some (.int fin)) 35 10 [(0, .ref (ad Γ o)), (1, .int v1), (2, .int v2), (3, .int v3), (4, .int st.1), (5, .int v5), (6, .int st.2.1), (7, .int st.2.2)] [] (ug G o r))) (K := (KC (fun st : Int32 × Int32 × Int32 => Wk p l e { frames := 4, cells := 0, slots := 0, locals := 91 } s m args below meth c Γ A (ug G o r) (some (.int fin)) 7 10 [(0, .ref (ad Γ o)), (1, .int v1), (2, .int st.1), (3, .int st.2.1), (4, .int st.2.2)] [] (ug G o r)) (fun x => x = fin))) (fun st q hq1 h1 h2 => ?_) hf hq H locs ls hw hS hl
  exact wX10_toldAhead_35 (v4 := st.1) (v6 := st.2.1) (v7 := st.2.2) C hk hq1 ⟨h1, h2⟩

noncomputable def bX10_toldAhead_7 (r : Rec) (v1 : Int32) (v2 : Int32) (v3 : Int32) (v4 : Int32) : Option ((Int32 × Int32 × Int32) ⊕ Int32) :=
  if v1 < v3 then some (.inr (v4)) else gd (inR ((1024 * v3) + v2) 9216) ((some (ga r 36 (Int32.toNatClampNeg ((1024 * v3) + v2)))).bind fun x25 => iter (fun st : Int32 × Int32 × Int32 => bX10_toldAhead_35 r v1 v2 v3 st.1 x25 st.2.1 st.2.2) ((-1), (-1), 0))
set_option maxRecDepth 100000 in
set_option maxHeartbeats 4000000 in
theorem wX10_toldAhead_7 {p : Program} {l : Launch} {e : Env} {s : State} {m : MethodId} {args : Array Value} {below : List Frame} {meth : Method} {c : Code} {Γ : Gm} {A : Nat → Prop} {G : Gs} {o : Nat} {r : Rec} {v1 : Int32} {v2 : Int32} {v3 : Int32} {v4 : Int32} {q : ((Int32 × Int32 × Int32) ⊕ Int32)} {fin : Int32} (C : Cx p s m args meth c yX10_toldAhead cX10_toldAhead 10 (some .int) Γ A) (hk : kd Γ o = some 10) (hf : bX10_toldAhead_7 r v1 v2 v3 v4 = some q) (hq : (KC (fun st : Int32 × Int32 × Int32 => Wk p l e { frames := 4, cells := 0, slots := 0, locals := 91 } s m args below meth c Γ A (ug G o r) (some (.int fin)) 7 10 [(0, .ref (ad Γ o)), (1, .int v1), (2, .int st.1), (3, .int st.2.1), (4, .int st.2.2)] [] (ug G o r)) (fun x => x = fin)) q) : Wk p l e { frames := 4, cells := 0, slots := 0, locals := 91 } s m args below meth c Γ A (ug G o r) (some (.int fin)) 7 10 [(0, .ref (ad Γ o)), (1, .int v1), (2, .int v2), (3, .int v3), (4, .int v4)] [] (ug G o r) := by
  intro H locs ls hw hS hl
  unfold bX10_toldAhead_7 at hf
  obtain ⟨hx, hb, hml, hr, hown, htw, hlocks, hE⟩ := id C
  have hown : s.vm.findClass RX10 = some m.cls := hown
  refine lv_iload_n hx hb dX10_toldAhead_7 rfl (lv_at hl 3 rfl) ?_
  refine lv_iload_n hx hb dX10_toldAhead_8 rfl (lv_at hl 1 rfl) ?_
  refine lv_icmp_gt (tgt := 192) hx hb dX10_toldAhead_9 (by decide) (fun c26 => ?_) (fun c26 => ?_)
  · have hf := ifp c26 hf
    refine lv_iload hx hb dX10_toldAhead_192 (lv_at hl 4 rfl) ?_
    obtain rfl := Option.some.inj hf
    have hq := hq.2 _ rfl
    subst hq
    exact rt_i C hw hS dX10_toldAhead_194
  · have hf := ifn c26 hf
    refine lv_aload_n hx hb dX10_toldAhead_12 rfl (lv_at hl 0 rfl) ?_
    refine va_get (ci := 10) (v := .ref (aa Γ o 36)) (C := RX10) (T := TX10) (N := 49) hx hb htw uwX10 hown hE.1 (wo_me hw hk) 0 rfl rfl 36 (by decide) (htw _ mw1279) (fun _ h9 => h9) rfl dX10_toldAhead_13 ?_
    refine lv_sipush (v := 1024) hx hb dX10_toldAhead_16 (by decide) ?_
    refine lv_iload_n hx hb dX10_toldAhead_19 rfl (lv_at hl 3 rfl) ?_
    refine lv_imul hx hb dX10_toldAhead_20 ?_
    refine lv_iload_n hx hb dX10_toldAhead_21 rfl (lv_at hl 2 rfl) ?_
    refine lv_iadd hx hb dX10_toldAhead_22 ?_
    obtain ⟨g24, hf⟩ := gd_some hf
    refine va_iald hx hb hE.1 (wo_me hw hk) 15 0 rfl rfl (inR_in g24) dX10_toldAhead_23 ?_
    obtain ⟨x25, hx25, hf⟩ := bd hf
    have hx25 := Option.some.inj hx25
    refine tp1i hx25 ?_
    refine lv_istore (lv' := [(5, .int x25), (0, .ref (ad Γ o)), (1, .int v1), (2, .int v2), (3, .int v3), (4, .int v4)]) hx hb dX10_toldAhead_24 hl (by decide) rfl (fun ls hl => ?_)
    refine lv_iconst (v := (-1)) hx hb dX10_toldAhead_26 (by decide) ?_
    refine lv_istore (lv' := [(6, .int (-1)), (5, .int x25), (0, .ref (ad Γ o)), (1, .int v1), (2, .int v2), (3, .int v3), (4, .int v4)]) hx hb dX10_toldAhead_27 hl (by decide) rfl (fun ls hl => ?_)
    refine lv_iconst (v := (-1)) hx hb dX10_toldAhead_29 (by decide) ?_
    refine lv_istore (lv' := [(4, .int (-1)), (6, .int (-1)), (5, .int x25), (0, .ref (ad Γ o)), (1, .int v1), (2, .int v2), (3, .int v3)]) hx hb dX10_toldAhead_30 hl (by decide) rfl (fun ls hl => ?_)
    refine lv_iconst (v := 0) hx hb dX10_toldAhead_32 (by decide) ?_
    refine lv_istore (lv' := [(7, .int 0), (4, .int (-1)), (6, .int (-1)), (5, .int x25), (0, .ref (ad Γ o)), (1, .int v1), (2, .int v2), (3, .int v3)]) hx hb dX10_toldAhead_33 hl (by decide) rfl (fun ls hl => ?_)
    exact lwX10_toldAhead_35 C hk hf hq H locs ls hw hS (lv_sub hl [4, 5, 6, 7, 1, 3, 2, 0] rfl)

set_option maxRecDepth 100000 in
set_option maxHeartbeats 4000000 in
theorem lwX10_toldAhead_7 {p : Program} {l : Launch} {e : Env} {s : State} {m : MethodId} {args : Array Value} {below : List Frame} {meth : Method} {c : Code} {Γ : Gm} {A : Nat → Prop} {G : Gs} {o : Nat} {r : Rec} {v1 : Int32} {v2 : Int32} {v3 : Int32} {v4 : Int32} {q : Int32} {fin : Int32} (C : Cx p s m args meth c yX10_toldAhead cX10_toldAhead 10 (some .int) Γ A) (hk : kd Γ o = some 10) (hf : iter (fun st : Int32 × Int32 × Int32 => bX10_toldAhead_7 r v1 st.1 st.2.1 st.2.2) (v2, v3, v4) = some q) (hq : (fun x => x = fin) q) : Wk p l e { frames := 4, cells := 0, slots := 0, locals := 91 } s m args below meth c Γ A (ug G o r) (some (.int fin)) 7 10 [(0, .ref (ad Γ o)), (1, .int v1), (2, .int v2), (3, .int v3), (4, .int v4)] [] (ug G o r) := by
  intro H locs ls hw hS hl
  refine iter_walk (P := (fun st : Int32 × Int32 × Int32 => Wk p l e { frames := 4, cells := 0, slots := 0, locals := 91 } s m args below meth c Γ A (ug G o r) (some (.int fin)) 7 10 [(0, .ref (ad Γ o)), (1, .int v1), (2, .int st.1), (3, .int st.2.1), (4, .int st.2.2)] [] (ug G o r))) (K := (fun x => x = fin)) (fun st q hq1 h1 h2 => ?_) hf hq H locs ls hw hS hl
  exact wX10_toldAhead_7 (v2 := st.1) (v3 := st.2.1) (v4 := st.2.2) C hk hq1 ⟨h1, h2⟩

noncomputable def fX10_toldAhead (r : Rec) (v1 : Int32) : Option Int32 :=
  iter (fun st : Int32 × Int32 × Int32 => bX10_toldAhead_7 r v1 st.1 st.2.1 st.2.2) (0, 0, (-1))
set_option maxRecDepth 100000 in
set_option maxHeartbeats 4000000 in
theorem wX10_toldAhead_e {p : Program} {l : Launch} {e : Env} {s : State} {m : MethodId} {args : Array Value} {below : List Frame} {meth : Method} {c : Code} {Γ : Gm} {A : Nat → Prop} {G : Gs} {o : Nat} {r : Rec} {v1 : Int32} {q : Int32} {fin : Int32} (C : Cx p s m args meth c yX10_toldAhead cX10_toldAhead 10 (some .int) Γ A) (hk : kd Γ o = some 10) (hf : fX10_toldAhead r v1 = some q) (hq : (fun x => x = fin) q) : Wk p l e { frames := 4, cells := 0, slots := 0, locals := 91 } s m args below meth c Γ A (ug G o r) (some (.int fin)) 0 10 [(0, .ref (ad Γ o)), (1, .int v1)] [] (ug G o r) := by
  intro H locs ls hw hS hl
  unfold fX10_toldAhead at hf
  obtain ⟨hx, hb, hml, hr, hown, htw, hlocks, hE⟩ := id C
  have hown : s.vm.findClass RX10 = some m.cls := hown
  refine lv_iconst (v := 0) hx hb dX10_toldAhead_0 (by decide) ?_
  refine lv_istore_n (lv' := [(2, .int 0), (0, .ref (ad Γ o)), (1, .int v1)]) hx hb dX10_toldAhead_1 rfl hl (by decide) rfl (fun ls hl => ?_)
  refine lv_iconst (v := 0) hx hb dX10_toldAhead_2 (by decide) ?_
  refine lv_istore_n (lv' := [(3, .int 0), (2, .int 0), (0, .ref (ad Γ o)), (1, .int v1)]) hx hb dX10_toldAhead_3 rfl hl (by decide) rfl (fun ls hl => ?_)
  refine lv_iconst (v := (-1)) hx hb dX10_toldAhead_4 (by decide) ?_
  refine lv_istore (lv' := [(4, .int (-1)), (3, .int 0), (2, .int 0), (0, .ref (ad Γ o)), (1, .int v1)]) hx hb dX10_toldAhead_5 hl (by decide) rfl (fun ls hl => ?_)
  exact lwX10_toldAhead_7 C hk hf hq H locs ls hw hS (lv_sub hl [3, 4, 2, 1, 0] rfl)

theorem kX10_toldAhead {l : Launch} {Γ : Gm} {A : Nat → Prop} {G : Gs} {o : Nat} {r : Rec} {v1 : Int32} {fin : Int32} (hk : kd Γ o = some 10) (hf : fX10_toldAhead r v1 = some fin) : Kt l yX10_toldAhead cX10_toldAhead 10 (some .int) 4 91 Γ A (ug G o r) (ug G o r) [.ref (ad Γ o), .int v1] (some (.int fin)) :=
  kt_of (by decide) (Nat.le_of_ble_eq_true rfl) (fun p e s m args below meth c C => wX10_toldAhead_e C hk hf rfl)
theorem kgX10_toldAhead {l : Launch} {Γ : Gm} {A : Nat → Prop} {G : Gs} {o : Nat} {v1 : Int32} {fin : Int32} (hk : kd Γ o = some 10) (hf : fX10_toldAhead (G o) v1 = some fin) : Kt l yX10_toldAhead cX10_toldAhead 10 (some .int) 4 91 Γ A G G [.ref (ad Γ o), .int v1] (some (.int fin)) := by
  have h := kX10_toldAhead (l := l) (A := A) (G := G) (r := G o) hk hf
  rw [ug_self] at h
  exact h
noncomputable def bX10_served_72 (r : Rec) (v3 : Int32) : Option (Rec × Int32) :=
  (fX10_findTellings r).bind fun z1 => if v3 = (-2) then some ((z1, ga z1 37 (Int32.toNatClampNeg 0))) else if (ga z1 36 (Int32.toNatClampNeg 0)) < 1000000 then if v3 = (-1) then some ((z1, ga z1 36 (Int32.toNatClampNeg 0))) else (fX10_toldAhead z1 v3).bind fun z2 => some ((z1, z2)) else some ((z1, (-1)))
set_option maxRecDepth 100000 in
set_option maxHeartbeats 4000000 in
theorem wX10_served_72 {p : Program} {l : Launch} {e : Env} {s : State} {m : MethodId} {args : Array Value} {below : List Frame} {meth : Method} {c : Code} {Γ : Gm} {A : Nat → Prop} {G : Gs} {o : Nat} {r : Rec} {v3 : Int32} {q : (Rec × Int32)} {fin : Rec × Int32} (C : Cx p s m args meth c yX10_served cX10_served 5 (some .int) Γ A) (hk : kd Γ o = some 10) (hf : bX10_served_72 r v3 = some q) (hq : (fun x => x = fin) q) : Wk p l e { frames := 5, cells := 0, slots := 0, locals := 120 } s m args below meth c Γ A (ug G o fin.1) (some (.int fin.2)) 72 5 [(0, .ref (ad Γ o)), (3, .int v3)] [] (ug G o r) := by
  intro H locs ls hw hS hl
  unfold bX10_served_72 at hf
  obtain ⟨hx, hb, hml, hr, hown, htw, hlocks, hE⟩ := id C
  have hown : s.vm.findClass RX10 = some m.cls := hown
  refine lv_aload_n hx hb dX10_served_72 rfl (lv_at hl 0 rfl) ?_
  obtain ⟨z1, hz1, hf⟩ := bd hf
  refine cl_Vv (rest := []) (kX10_findTellings (l := l) (Γ := Γ) (A := A) (G := G) (o := o) hk hz1) ⟨hx, hb, hml, hown, htw⟩ hE hw hS (wo_me hw hk) (q0 := 0) rfl rfl mw1672 mw1674 mw92 mw129 mw1675 pdX10_findTellings ⟨Nat.le_of_ble_eq_true rfl, Nat.le_of_ble_eq_true rfl⟩ rfl rfl hl.1 (Nat.le_of_ble_eq_true rfl) dX10_served_73 (fun H locs hw hS => ?_)
  refine lv_iload_n hx hb dX10_served_76 rfl (lv_at hl 1 rfl) ?_
  refine lv_bipush (v := (-2)) hx hb dX10_served_77 (by decide) ?_
  refine lv_icmp_ne (tgt := 89) hx hb dX10_served_79 (by decide) (fun c5 => ?_) (fun c5 => ?_)
  · have hf := ifn c5 hf
    refine lv_aload_n hx hb dX10_served_89 rfl (lv_at hl 0 rfl) ?_
    refine va_get (ci := 10) (v := .ref (aa Γ o 36)) (C := RX10) (T := TX10) (N := 49) hx hb htw uwX10 hown hE.1 (wo_me hw hk) 0 rfl rfl 36 (by decide) (htw _ mw1279) (fun _ h9 => h9) rfl dX10_served_90 ?_
    refine lv_iconst (v := 0) hx hb dX10_served_93 (by decide) ?_
    refine va_iald hx hb hE.1 (wo_me hw hk) 15 0 rfl rfl (inR_in (i := 0) (n := 9216) (by decide)) dX10_served_94 ?_
    refine lv_ldcw hx hb hown (htw _ mw1676) dX10_served_95 ?_
    refine lv_icmp_lt (tgt := 105) hx hb dX10_served_98 (by decide) (fun c4 => ?_) (fun c4 => ?_)
    · have hf := ifp c4 hf
      refine lv_iload_n hx hb dX10_served_105 rfl (lv_at hl 1 rfl) ?_
      refine lv_iconst (v := (-1)) hx hb dX10_served_106 (by decide) ?_
      refine lv_icmp_ne (tgt := 119) hx hb dX10_served_107 (by decide) (fun c3 => ?_) (fun c3 => ?_)
      · have hf := ifn c3 hf
        refine lv_aload_n hx hb dX10_served_119 rfl (lv_at hl 0 rfl) ?_
        refine lv_iload_n hx hb dX10_served_120 rfl (lv_at hl 1 rfl) ?_
        obtain ⟨z2, hz2, hf⟩ := bd hf
        refine cl_Vs (rest := []) (kX10_toldAhead (l := l) (Γ := Γ) (A := A) (G := G) (o := o) hk hz2) ⟨hx, hb, hml, hown, htw⟩ hE hw hS (wo_me hw hk) (q0 := 0) rfl rfl mw1684 mw1686 mw94 mw129 mw1687 pdX10_toldAhead ⟨Nat.le_of_ble_eq_true rfl, Nat.le_of_ble_eq_true rfl⟩ rfl rfl hl.1 (Nat.le_of_ble_eq_true rfl) dX10_served_121 (fun H locs hw hS => ?_)
        obtain rfl := Option.some.inj hf
        subst hq
        exact rt_i C hw hS dX10_served_124
      · have hf := ifp c3 hf
        refine lv_aload_n hx hb dX10_served_110 rfl (lv_at hl 0 rfl) ?_
        refine va_get (ci := 10) (v := .ref (aa Γ o 36)) (C := RX10) (T := TX10) (N := 49) hx hb htw uwX10 hown hE.1 (wo_me hw hk) 0 rfl rfl 36 (by decide) (htw _ mw1279) (fun _ h9 => h9) rfl dX10_served_111 ?_
        refine lv_iconst (v := 0) hx hb dX10_served_114 (by decide) ?_
        refine va_iald hx hb hE.1 (wo_me hw hk) 15 0 rfl rfl (inR_in (i := 0) (n := 9216) (by decide)) dX10_served_115 ?_
        refine lv_goto (tgt := 124) hx hb dX10_served_116 (by decide) ?_
        obtain rfl := Option.some.inj hf
        subst hq
        exact rt_i C hw hS dX10_served_124
    · have hf := ifn c4 hf
      refine lv_iconst (v := (-1)) hx hb dX10_served_101 (by decide) ?_
      refine lv_goto (tgt := 124) hx hb dX10_served_102 (by decide) ?_
      obtain rfl := Option.some.inj hf
      subst hq
      exact rt_i C hw hS dX10_served_124
  · have hf := ifp c5 hf
    refine lv_aload_n hx hb dX10_served_82 rfl (lv_at hl 0 rfl) ?_
    refine va_get (ci := 10) (v := .ref (aa Γ o 37)) (C := RX10) (T := TX10) (N := 49) hx hb htw uwX10 hown hE.1 (wo_me hw hk) 0 rfl rfl 37 (by decide) (htw _ mw1280) (fun _ h9 => h9) rfl dX10_served_83 ?_
    refine lv_iconst (v := 0) hx hb dX10_served_86 (by decide) ?_
    refine va_iald hx hb hE.1 (wo_me hw hk) 16 0 rfl rfl (inR_in (i := 0) (n := 9216) (by decide)) dX10_served_87 ?_
    obtain rfl := Option.some.inj hf
    subst hq
    exact rt_i C hw hS dX10_served_88

noncomputable def bX10_served_41 (r : Rec) (v3 : Int32) (v4 : Int32) : Option (Int32 ⊕ (Rec × Int32)) :=
  (fX10_dinners r).bind fun z6 => if z6 ≤ v4 then out1 (bX10_served_72 r v3) else (fX10_dinnerOf r v4 1).bind fun z8 => (fX10_isPiece r z8).bind fun z9 => if z9 = 0 then some (.inr ((r, (-1)))) else some (.inl (v4 + 1))
set_option maxRecDepth 100000 in
set_option maxHeartbeats 4000000 in
theorem wX10_served_41 {p : Program} {l : Launch} {e : Env} {s : State} {m : MethodId} {args : Array Value} {below : List Frame} {meth : Method} {c : Code} {Γ : Gm} {A : Nat → Prop} {G : Gs} {o : Nat} {r : Rec} {v3 : Int32} {v4 : Int32} {q : (Int32 ⊕ (Rec × Int32))} {fin : Rec × Int32} (C : Cx p s m args meth c yX10_served cX10_served 5 (some .int) Γ A) (hk : kd Γ o = some 10) (hf : bX10_served_41 r v3 v4 = some q) (hq : (KC (fun st : Int32 => Wk p l e { frames := 5, cells := 0, slots := 0, locals := 120 } s m args below meth c Γ A (ug G o fin.1) (some (.int fin.2)) 41 5 [(0, .ref (ad Γ o)), (3, .int v3), (4, .int st)] [] (ug G o r)) (fun x => x = fin)) q) : Wk p l e { frames := 5, cells := 0, slots := 0, locals := 120 } s m args below meth c Γ A (ug G o fin.1) (some (.int fin.2)) 41 5 [(0, .ref (ad Γ o)), (3, .int v3), (4, .int v4)] [] (ug G o r) := by
  intro H locs ls hw hS hl
  unfold bX10_served_41 at hf
  obtain ⟨hx, hb, hml, hr, hown, htw, hlocks, hE⟩ := id C
  have hown : s.vm.findClass RX10 = some m.cls := hown
  refine lv_iload hx hb dX10_served_41 (lv_at hl 2 rfl) ?_
  refine lv_aload_n hx hb dX10_served_43 rfl (lv_at hl 0 rfl) ?_
  obtain ⟨z6, hz6, hf⟩ := bd hf
  refine cl_Vs (rest := [.int v4]) (kX10_dinners (l := l) (Γ := Γ) (A := A) (G := G) (o := o) hk hz6) ⟨hx, hb, hml, hown, htw⟩ hE hw hS (wo_me hw hk) (q0 := 0) rfl rfl mw1660 mw1662 mw90 mw129 mw1663 pdX10_dinners ⟨Nat.le_of_ble_eq_true rfl, Nat.le_of_ble_eq_true rfl⟩ rfl rfl hl.1 (Nat.le_of_ble_eq_true rfl) dX10_served_44 (fun H locs hw hS => ?_)
  refine lv_icmp_ge (tgt := 72) hx hb dX10_served_47 (by decide) (fun c11 => ?_) (fun c11 => ?_)
  · have hf := ifp c11 hf
    obtain ⟨q7, hfq7, eq7⟩ := out1_some hf
    subst eq7
    have hf := hfq7
    have hq := hq.2 _ rfl
    exact wX10_served_72 C hk hf hq H locs ls hw hS (lv_sub hl [0, 1] rfl)
  · have hf := ifn c11 hf
    refine lv_aload_n hx hb dX10_served_50 rfl (lv_at hl 0 rfl) ?_
    refine lv_aload_n hx hb dX10_served_51 rfl (lv_at hl 0 rfl) ?_
    refine lv_iload hx hb dX10_served_52 (lv_at hl 2 rfl) ?_
    refine lv_iconst (v := 1) hx hb dX10_served_54 (by decide) ?_
    obtain ⟨z8, hz8, hf⟩ := bd hf
    refine cl_Vs (rest := [.ref (ad Γ o)]) (kX10_dinnerOf (l := l) (Γ := Γ) (A := A) (G := G) (o := o) hk hz8) ⟨hx, hb, hml, hown, htw⟩ hE hw hS (wo_me hw hk) (q0 := 0) rfl rfl mw1664 mw1666 mw91 mw129 mw1667 pdX10_dinnerOf ⟨Nat.le_of_ble_eq_true rfl, Nat.le_of_ble_eq_true rfl⟩ rfl rfl hl.1 (Nat.le_of_ble_eq_true rfl) dX10_served_55 (fun H locs hw hS => ?_)
    obtain ⟨z9, hz9, hf⟩ := bd hf
    refine cl_Vs (rest := []) (kX10_isPiece (l := l) (Γ := Γ) (A := A) (G := G) (o := o) hk hz9) ⟨hx, hb, hml, hown, htw⟩ hE hw hS (wo_me hw hk) (q0 := 0) rfl rfl mw1553 mw1555 mw68 mw129 mw1556 pdX10_isPiece ⟨Nat.le_of_ble_eq_true rfl, Nat.le_of_ble_eq_true rfl⟩ rfl rfl hl.1 (Nat.le_of_ble_eq_true rfl) dX10_served_58 (fun H locs hw hS => ?_)
    refine lv_if_ne (tgt := 66) hx hb dX10_served_61 (by decide) (fun c10 => ?_) (fun c10 => ?_)
    · have hf := ifn c10 hf
      refine lv_iinc (v := v4 + 1) (lv' := [(4, .int (v4 + 1)), (0, .ref (ad Γ o)), (3, .int v3)]) hx hb dX10_served_66 hl (k := 2) rfl (by rfl) (by decide) rfl (fun ls hl => ?_)
      refine lv_goto (tgt := 41) hx hb dX10_served_69 (by decide) ?_
      obtain rfl := Option.some.inj hf
      exact hq.1 _ rfl H locs ls hw hS (lv_sub hl [1, 2, 0] rfl)
    · have hf := ifp c10 hf
      refine lv_iconst (v := (-1)) hx hb dX10_served_64 (by decide) ?_
      obtain rfl := Option.some.inj hf
      have hq := hq.2 _ rfl
      subst hq
      exact rt_i C hw hS dX10_served_65

set_option maxRecDepth 100000 in
set_option maxHeartbeats 4000000 in
theorem lwX10_served_41 {p : Program} {l : Launch} {e : Env} {s : State} {m : MethodId} {args : Array Value} {below : List Frame} {meth : Method} {c : Code} {Γ : Gm} {A : Nat → Prop} {G : Gs} {o : Nat} {r : Rec} {v3 : Int32} {v4 : Int32} {q : (Rec × Int32)} {fin : Rec × Int32} (C : Cx p s m args meth c yX10_served cX10_served 5 (some .int) Γ A) (hk : kd Γ o = some 10) (hf : iter (fun st : Int32 => bX10_served_41 r v3 st) v4 = some q) (hq : (fun x => x = fin) q) : Wk p l e { frames := 5, cells := 0, slots := 0, locals := 120 } s m args below meth c Γ A (ug G o fin.1) (some (.int fin.2)) 41 5 [(0, .ref (ad Γ o)), (3, .int v3), (4, .int v4)] [] (ug G o r) := by
  intro H locs ls hw hS hl
  refine iter_walk (P := (fun st : Int32 => Wk p l e { frames := 5, cells := 0, slots := 0, locals := 120 } s m args below meth c Γ A (ug G o fin.1) (some (.int fin.2)) 41 5 [(0, .ref (ad Γ o)), (3, .int v3), (4, .int st)] [] (ug G o r))) (K := (fun x => x = fin)) (fun st q hq1 h1 h2 => ?_) hf hq H locs ls hw hS hl
  exact wX10_served_41 (v4 := st) C hk hq1 ⟨h1, h2⟩

noncomputable def fX10_served (r : Rec) (v1 : Int32) (v2 : Int32) (v3 : Int32) : Option (Rec × Int32) :=
  (some (si r 0 0)).bind fun r12 => (fX10_hasTable r12 v2).bind fun z13 => if z13.2 = 0 then some ((z13.1, (-1))) else (fX10_hand z13.1 v1).bind fun z14 => if z14.2 = 0 then some ((z14.1, (-1))) else (fX10_dinners z14.1).bind fun z15 => (fX10_in v3 (-2) (z15 - 1)).bind fun z16 => if z16 = 0 then some ((z14.1, (-1))) else iter (fun st : Int32 => bX10_served_41 z14.1 v3 st) 0
set_option maxRecDepth 100000 in
set_option maxHeartbeats 4000000 in
theorem wX10_served_e {p : Program} {l : Launch} {e : Env} {s : State} {m : MethodId} {args : Array Value} {below : List Frame} {meth : Method} {c : Code} {Γ : Gm} {A : Nat → Prop} {G : Gs} {o : Nat} {r : Rec} {v1 : Int32} {v2 : Int32} {v3 : Int32} {q : (Rec × Int32)} {fin : Rec × Int32} (C : Cx p s m args meth c yX10_served cX10_served 5 (some .int) Γ A) (hk : kd Γ o = some 10) (hf : fX10_served r v1 v2 v3 = some q) (hq : (fun x => x = fin) q) : Wk p l e { frames := 5, cells := 0, slots := 0, locals := 120 } s m args below meth c Γ A (ug G o fin.1) (some (.int fin.2)) 0 5 [(0, .ref (ad Γ o)), (1, .int v1), (2, .int v2), (3, .int v3)] [] (ug G o r) := by
  intro H locs ls hw hS hl
  unfold fX10_served at hf
  obtain ⟨hx, hb, hml, hr, hown, htw, hlocks, hE⟩ := id C
  have hown : s.vm.findClass RX10 = some m.cls := hown
  refine lv_aload_n hx hb dX10_served_0 rfl (lv_at hl 0 rfl) ?_
  refine lv_iconst (v := 0) hx hb dX10_served_1 (by decide) ?_
  obtain ⟨r12, hr12, hf⟩ := bd hf
  have hr12 := Option.some.inj hr12
  refine wo_put (C := RX10) (T := TX10) (N := 49) (v := .int 0) (ty := .int) hx hb htw uwX10 tyX10 tyX10_ok nmX10 hown hE hw hS hk rfl rfl 0 (by decide) (htw _ mw1243) (fun _ h9 => h9) rfl (tyX10_ok 0 (by decide)) rfl rfl (Nat.le_of_ble_eq_true rfl) (st10_0 hr12) dX10_served_2 (fun H locs hw hS => ?_)
  refine lv_aload_n hx hb dX10_served_5 rfl (lv_at hl 0 rfl) ?_
  refine lv_iload_n hx hb dX10_served_6 rfl (lv_at hl 2 rfl) ?_
  obtain ⟨z13, hz13, hf⟩ := bd hf
  refine cl_Vs (rest := []) (kX10_hasTable (l := l) (Γ := Γ) (A := A) (G := G) (o := o) hk hz13) ⟨hx, hb, hml, hown, htw⟩ hE hw hS (wo_me hw hk) (q0 := 0) rfl rfl mw1656 mw1658 mw89 mw129 mw1659 pdX10_hasTable ⟨Nat.le_of_ble_eq_true rfl, Nat.le_of_ble_eq_true rfl⟩ rfl rfl hl.1 (Nat.le_of_ble_eq_true rfl) dX10_served_7 (fun H locs hw hS => ?_)
  refine lv_if_eq (tgt := 36) hx hb dX10_served_10 (by decide) (fun c19 => ?_) (fun c19 => ?_)
  · have hf := ifp c19 hf
    refine lv_iconst (v := (-1)) hx hb dX10_served_36 (by decide) ?_
    obtain rfl := Option.some.inj hf
    subst hq
    exact rt_i C hw hS dX10_served_37
  · have hf := ifn c19 hf
    refine lv_aload_n hx hb dX10_served_13 rfl (lv_at hl 0 rfl) ?_
    refine lv_iload_n hx hb dX10_served_14 rfl (lv_at hl 1 rfl) ?_
    obtain ⟨z14, hz14, hf⟩ := bd hf
    refine cl_Vs (rest := []) (kX10_hand (l := l) (Γ := Γ) (A := A) (G := G) (o := o) hk hz14) ⟨hx, hb, hml, hown, htw⟩ hE hw hS (wo_me hw hk) (q0 := 0) rfl rfl mw1537 mw1539 mw65 mw129 mw1540 pdX10_hand ⟨Nat.le_of_ble_eq_true rfl, Nat.le_of_ble_eq_true rfl⟩ rfl rfl hl.1 (Nat.le_of_ble_eq_true rfl) dX10_served_15 (fun H locs hw hS => ?_)
    refine lv_if_eq (tgt := 36) hx hb dX10_served_18 (by decide) (fun c18 => ?_) (fun c18 => ?_)
    · have hf := ifp c18 hf
      refine lv_iconst (v := (-1)) hx hb dX10_served_36 (by decide) ?_
      obtain rfl := Option.some.inj hf
      subst hq
      exact rt_i C hw hS dX10_served_37
    · have hf := ifn c18 hf
      refine lv_iload_n hx hb dX10_served_21 rfl (lv_at hl 3 rfl) ?_
      refine lv_bipush (v := (-2)) hx hb dX10_served_22 (by decide) ?_
      refine lv_aload_n hx hb dX10_served_24 rfl (lv_at hl 0 rfl) ?_
      obtain ⟨z15, hz15, hf⟩ := bd hf
      refine cl_Vs (rest := [.int (-2), .int v3]) (kX10_dinners (l := l) (Γ := Γ) (A := A) (G := G) (o := o) hk hz15) ⟨hx, hb, hml, hown, htw⟩ hE hw hS (wo_me hw hk) (q0 := 0) rfl rfl mw1660 mw1662 mw90 mw129 mw1663 pdX10_dinners ⟨Nat.le_of_ble_eq_true rfl, Nat.le_of_ble_eq_true rfl⟩ rfl rfl hl.1 (Nat.le_of_ble_eq_true rfl) dX10_served_25 (fun H locs hw hS => ?_)
      refine lv_iconst (v := 1) hx hb dX10_served_28 (by decide) ?_
      refine lv_isub hx hb dX10_served_29 ?_
      obtain ⟨z16, hz16, hf⟩ := bd hf
      refine cl_Ss (rest := []) (kX10_in (l := l) (Γ := Γ) (A := A) (G := (ug G o z14.1)) hz16) ⟨hx, hb, hml, hown, htw⟩ hE hw hS mw1404 mw1405 mw129 mw1406 pdX10_in ⟨Nat.le_of_ble_eq_true rfl, Nat.le_of_ble_eq_true rfl⟩ rfl rfl hl.1 (Nat.le_of_ble_eq_true rfl) dX10_served_30 (fun H locs hw hS => ?_)
      refine lv_if_ne (tgt := 38) hx hb dX10_served_33 (by decide) (fun c17 => ?_) (fun c17 => ?_)
      · have hf := ifn c17 hf
        refine lv_iconst (v := 0) hx hb dX10_served_38 (by decide) ?_
        refine lv_istore (lv' := [(4, .int 0), (0, .ref (ad Γ o)), (1, .int v1), (2, .int v2), (3, .int v3)]) hx hb dX10_served_39 hl (by decide) rfl (fun ls hl => ?_)
        exact lwX10_served_41 C hk hf hq H locs ls hw hS (lv_sub hl [1, 4, 0] rfl)
      · have hf := ifp c17 hf
        refine lv_iconst (v := (-1)) hx hb dX10_served_36 (by decide) ?_
        obtain rfl := Option.some.inj hf
        subst hq
        exact rt_i C hw hS dX10_served_37

theorem kX10_served {l : Launch} {Γ : Gm} {A : Nat → Prop} {G : Gs} {o : Nat} {r : Rec} {v1 : Int32} {v2 : Int32} {v3 : Int32} {fin : Rec × Int32} (hk : kd Γ o = some 10) (hf : fX10_served r v1 v2 v3 = some fin) : Kt l yX10_served cX10_served 5 (some .int) 5 120 Γ A (ug G o r) (ug G o fin.1) [.ref (ad Γ o), .int v1, .int v2, .int v3] (some (.int fin.2)) :=
  kt_of (by decide) (Nat.le_of_ble_eq_true rfl) (fun p e s m args below meth c C => wX10_served_e C hk hf rfl)
theorem kgX10_served {l : Launch} {Γ : Gm} {A : Nat → Prop} {G : Gs} {o : Nat} {v1 : Int32} {v2 : Int32} {v3 : Int32} {fin : Rec × Int32} (hk : kd Γ o = some 10) (hf : fX10_served (G o) v1 v2 v3 = some fin) : Kt l yX10_served cX10_served 5 (some .int) 5 120 Γ A G (ug G o fin.1) [.ref (ad Γ o), .int v1, .int v2, .int v3] (some (.int fin.2)) := by
  have h := kX10_served (l := l) (A := A) (G := G) (r := G o) hk hf
  rw [ug_self] at h
  exact h
noncomputable def fX10_linkOf (r : Rec) (v1 : Int32) (v2 : Int32) : Option Int32 :=
  (fX10_of r ((47 + (8 * v2)) + v1)).bind fun z1 => some (z1)
set_option maxRecDepth 100000 in
set_option maxHeartbeats 4000000 in
theorem wX10_linkOf_e {p : Program} {l : Launch} {e : Env} {s : State} {m : MethodId} {args : Array Value} {below : List Frame} {meth : Method} {c : Code} {Γ : Gm} {A : Nat → Prop} {G : Gs} {o : Nat} {r : Rec} {v1 : Int32} {v2 : Int32} {q : Int32} {fin : Int32} (C : Cx p s m args meth c yX10_linkOf cX10_linkOf 3 (some .int) Γ A) (hk : kd Γ o = some 10) (hf : fX10_linkOf r v1 v2 = some q) (hq : (fun x => x = fin) q) : Wk p l e { frames := 1, cells := 0, slots := 0, locals := 21 } s m args below meth c Γ A (ug G o r) (some (.int fin)) 0 3 [(0, .ref (ad Γ o)), (1, .int v1), (2, .int v2)] [] (ug G o r) := by
  intro H locs ls hw hS hl
  unfold fX10_linkOf at hf
  obtain ⟨hx, hb, hml, hr, hown, htw, hlocks, hE⟩ := id C
  have hown : s.vm.findClass RX10 = some m.cls := hown
  refine lv_aload_n hx hb dX10_linkOf_0 rfl (lv_at hl 0 rfl) ?_
  refine lv_bipush (v := 47) hx hb dX10_linkOf_1 (by decide) ?_
  refine lv_bipush (v := 8) hx hb dX10_linkOf_3 (by decide) ?_
  refine lv_iload_n hx hb dX10_linkOf_5 rfl (lv_at hl 2 rfl) ?_
  refine lv_imul hx hb dX10_linkOf_6 ?_
  refine lv_iadd hx hb dX10_linkOf_7 ?_
  refine lv_iload_n hx hb dX10_linkOf_8 rfl (lv_at hl 1 rfl) ?_
  refine lv_iadd hx hb dX10_linkOf_9 ?_
  obtain ⟨z1, hz1, hf⟩ := bd hf
  refine cl_Vs (rest := []) (kX10_of (l := l) (Γ := Γ) (A := A) (G := G) (o := o) hk hz1) ⟨hx, hb, hml, hown, htw⟩ hE hw hS (wo_me hw hk) (q0 := 0) rfl rfl mw1541 mw1543 mw66 mw129 mw1544 pdX10_of ⟨Nat.le_of_ble_eq_true rfl, Nat.le_of_ble_eq_true rfl⟩ rfl rfl hl.1 (Nat.le_of_ble_eq_true rfl) dX10_linkOf_10 (fun H locs hw hS => ?_)
  obtain rfl := Option.some.inj hf
  subst hq
  exact rt_i C hw hS dX10_linkOf_13

theorem kX10_linkOf {l : Launch} {Γ : Gm} {A : Nat → Prop} {G : Gs} {o : Nat} {r : Rec} {v1 : Int32} {v2 : Int32} {fin : Int32} (hk : kd Γ o = some 10) (hf : fX10_linkOf r v1 v2 = some fin) : Kt l yX10_linkOf cX10_linkOf 3 (some .int) 1 21 Γ A (ug G o r) (ug G o r) [.ref (ad Γ o), .int v1, .int v2] (some (.int fin)) :=
  kt_of (by decide) (Nat.le_of_ble_eq_true rfl) (fun p e s m args below meth c C => wX10_linkOf_e C hk hf rfl)
theorem kgX10_linkOf {l : Launch} {Γ : Gm} {A : Nat → Prop} {G : Gs} {o : Nat} {v1 : Int32} {v2 : Int32} {fin : Int32} (hk : kd Γ o = some 10) (hf : fX10_linkOf (G o) v1 v2 = some fin) : Kt l yX10_linkOf cX10_linkOf 3 (some .int) 1 21 Γ A G G [.ref (ad Γ o), .int v1, .int v2] (some (.int fin)) := by
  have h := kX10_linkOf (l := l) (A := A) (G := G) (r := G o) hk hf
  rw [ug_self] at h
  exact h
noncomputable def fX10_makes (r : Rec) (v1 : Int32) (v2 : Int32) : Option Int32 :=
  (fX10_linkOf r v1 0).bind fun z1 => (fX10_has v2 z1).bind fun z2 => if z2 = 0 then some (0) else (fX10_linkOf r v1 1).bind fun z3 => (fX10_has v2 z3).bind fun z4 => if z4 = 0 then some (0) else some (1)
set_option maxRecDepth 100000 in
set_option maxHeartbeats 4000000 in
theorem wX10_makes_e {p : Program} {l : Launch} {e : Env} {s : State} {m : MethodId} {args : Array Value} {below : List Frame} {meth : Method} {c : Code} {Γ : Gm} {A : Nat → Prop} {G : Gs} {o : Nat} {r : Rec} {v1 : Int32} {v2 : Int32} {q : Int32} {fin : Int32} (C : Cx p s m args meth c yX10_makes cX10_makes 3 (some .boolean) Γ A) (hk : kd Γ o = some 10) (hf : fX10_makes r v1 v2 = some q) (hq : (fun x => x = fin) q) : Wk p l e { frames := 2, cells := 0, slots := 0, locals := 43 } s m args below meth c Γ A (ug G o r) (some (.int fin)) 0 3 [(0, .ref (ad Γ o)), (1, .int v1), (2, .int v2)] [] (ug G o r) := by
  intro H locs ls hw hS hl
  unfold fX10_makes at hf
  obtain ⟨hx, hb, hml, hr, hown, htw, hlocks, hE⟩ := id C
  have hown : s.vm.findClass RX10 = some m.cls := hown
  refine lv_iload_n hx hb dX10_makes_0 rfl (lv_at hl 2 rfl) ?_
  refine lv_aload_n hx hb dX10_makes_1 rfl (lv_at hl 0 rfl) ?_
  refine lv_iload_n hx hb dX10_makes_2 rfl (lv_at hl 1 rfl) ?_
  refine lv_iconst (v := 0) hx hb dX10_makes_3 (by decide) ?_
  obtain ⟨z1, hz1, hf⟩ := bd hf
  refine cl_Vs (rest := [.int v2]) (kX10_linkOf (l := l) (Γ := Γ) (A := A) (G := G) (o := o) hk hz1) ⟨hx, hb, hml, hown, htw⟩ hE hw hS (wo_me hw hk) (q0 := 0) rfl rfl mw1708 mw1710 mw99 mw129 mw1711 pdX10_linkOf ⟨Nat.le_of_ble_eq_true rfl, Nat.le_of_ble_eq_true rfl⟩ rfl rfl hl.1 (Nat.le_of_ble_eq_true rfl) dX10_makes_4 (fun H locs hw hS => ?_)
  obtain ⟨z2, hz2, hf⟩ := bd hf
  refine cl_Ss (rest := []) (kX10_has (l := l) (Γ := Γ) (A := A) (G := (ug G o r)) hz2) ⟨hx, hb, hml, hown, htw⟩ hE hw hS mw1561 mw1562 mw129 mw1563 pdX10_has ⟨Nat.le_of_ble_eq_true rfl, Nat.le_of_ble_eq_true rfl⟩ rfl rfl hl.1 (Nat.le_of_ble_eq_true rfl) dX10_makes_7 (fun H locs hw hS => ?_)
  refine lv_if_eq (tgt := 30) hx hb dX10_makes_10 (by decide) (fun c6 => ?_) (fun c6 => ?_)
  · have hf := ifp c6 hf
    refine lv_iconst (v := 0) hx hb dX10_makes_30 (by decide) ?_
    obtain rfl := Option.some.inj hf
    subst hq
    exact rt_z C (Or.inl rfl) hw hS dX10_makes_31
  · have hf := ifn c6 hf
    refine lv_iload_n hx hb dX10_makes_13 rfl (lv_at hl 2 rfl) ?_
    refine lv_aload_n hx hb dX10_makes_14 rfl (lv_at hl 0 rfl) ?_
    refine lv_iload_n hx hb dX10_makes_15 rfl (lv_at hl 1 rfl) ?_
    refine lv_iconst (v := 1) hx hb dX10_makes_16 (by decide) ?_
    obtain ⟨z3, hz3, hf⟩ := bd hf
    refine cl_Vs (rest := [.int v2]) (kX10_linkOf (l := l) (Γ := Γ) (A := A) (G := G) (o := o) hk hz3) ⟨hx, hb, hml, hown, htw⟩ hE hw hS (wo_me hw hk) (q0 := 0) rfl rfl mw1708 mw1710 mw99 mw129 mw1711 pdX10_linkOf ⟨Nat.le_of_ble_eq_true rfl, Nat.le_of_ble_eq_true rfl⟩ rfl rfl hl.1 (Nat.le_of_ble_eq_true rfl) dX10_makes_17 (fun H locs hw hS => ?_)
    obtain ⟨z4, hz4, hf⟩ := bd hf
    refine cl_Ss (rest := []) (kX10_has (l := l) (Γ := Γ) (A := A) (G := (ug G o r)) hz4) ⟨hx, hb, hml, hown, htw⟩ hE hw hS mw1561 mw1562 mw129 mw1563 pdX10_has ⟨Nat.le_of_ble_eq_true rfl, Nat.le_of_ble_eq_true rfl⟩ rfl rfl hl.1 (Nat.le_of_ble_eq_true rfl) dX10_makes_20 (fun H locs hw hS => ?_)
    refine lv_if_eq (tgt := 30) hx hb dX10_makes_23 (by decide) (fun c5 => ?_) (fun c5 => ?_)
    · have hf := ifp c5 hf
      refine lv_iconst (v := 0) hx hb dX10_makes_30 (by decide) ?_
      obtain rfl := Option.some.inj hf
      subst hq
      exact rt_z C (Or.inl rfl) hw hS dX10_makes_31
    · have hf := ifn c5 hf
      refine lv_iconst (v := 1) hx hb dX10_makes_26 (by decide) ?_
      refine lv_goto (tgt := 31) hx hb dX10_makes_27 (by decide) ?_
      obtain rfl := Option.some.inj hf
      subst hq
      exact rt_z C (Or.inr rfl) hw hS dX10_makes_31

theorem kX10_makes {l : Launch} {Γ : Gm} {A : Nat → Prop} {G : Gs} {o : Nat} {r : Rec} {v1 : Int32} {v2 : Int32} {fin : Int32} (hk : kd Γ o = some 10) (hf : fX10_makes r v1 v2 = some fin) : Kt l yX10_makes cX10_makes 3 (some .boolean) 2 43 Γ A (ug G o r) (ug G o r) [.ref (ad Γ o), .int v1, .int v2] (some (.int fin)) :=
  kt_of (by decide) (Nat.le_of_ble_eq_true rfl) (fun p e s m args below meth c C => wX10_makes_e C hk hf rfl)
theorem kgX10_makes {l : Launch} {Γ : Gm} {A : Nat → Prop} {G : Gs} {o : Nat} {v1 : Int32} {v2 : Int32} {fin : Int32} (hk : kd Γ o = some 10) (hf : fX10_makes (G o) v1 v2 = some fin) : Kt l yX10_makes cX10_makes 3 (some .boolean) 2 43 Γ A G G [.ref (ad Γ o), .int v1, .int v2] (some (.int fin)) := by
  have h := kX10_makes (l := l) (A := A) (G := G) (r := G o) hk hf
  rw [ug_self] at h
  exact h
