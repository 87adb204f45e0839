noncomputable def fX9_fault (g : Gs) (v1 : Int32) : Option Int32 :=
  if v1 = 0 then some (gi (g 800) 2) else if v1 = 1 then some (gi (g 800) 3) else some ((-1))
set_option maxRecDepth 100000 in
set_option maxHeartbeats 4000000 in
theorem wX9_fault_e {p : Program} {l : Launch} {e : Env} {s : State} {m : MethodId} {args : Array Value} {below : List Frame} {meth : Method} {c : Code} {Γ : Gm} {A : Nat → Prop} {g : Gs} {v1 : Int32} {q : Int32} {fin : Int32} (C : Cx p s m args meth c yX9_fault cX9_fault 2 (some .int) Γ A) (hf : fX9_fault g v1 = some q) (hq : (fun x => x = fin) q) : Wk p l e { frames := 0, cells := 0, slots := 0, locals := 0 } s m args below meth c Γ A g (some (.int fin)) 0 2 [(0, .ref (ad Γ 901)), (1, .int v1)] [] g := by
  intro H locs ls hw hS hl
  unfold fX9_fault at hf
  obtain ⟨hx, hb, hml, hr, hown, htw, hlocks, hE⟩ := id C
  have hown : s.vm.findClass RX9 = some m.cls := hown
  refine lv_iload_n hx hb dX9_fault_0 rfl (lv_at hl 1 rfl) ?_
  refine lv_if_ne (tgt := 12) hx hb dX9_fault_1 (by decide) (fun c2 => ?_) (fun c2 => ?_)
  · have hf := ifn c2 hf
    refine lv_iload_n hx hb dX9_fault_12 rfl (lv_at hl 1 rfl) ?_
    refine lv_iconst (v := 1) hx hb dX9_fault_13 (by decide) ?_
    refine lv_icmp_ne (tgt := 27) hx hb dX9_fault_14 (by decide) (fun c1 => ?_) (fun c1 => ?_)
    · have hf := ifn c1 hf
      refine lv_iconst (v := (-1)) hx hb dX9_fault_27 (by decide) ?_
      obtain rfl := Option.some.inj hf
      subst hq
      exact rt_i C hw hS dX9_fault_28
    · have hf := ifp c1 hf
      refine lv_aload_n hx hb dX9_fault_17 rfl (lv_at hl 0 rfl) ?_
      refine va_get (ci := 9) (v := .ref (ad Γ 800)) (C := RX9) (T := TX9) (N := 8) hx hb htw uwX9 hown hE.1 (hw _ _ (wf_901 hE)) 0 rfl rfl 0 (by decide) (htw _ mw433) (fun _ h9 => h9) rfl dX9_fault_18 ?_
      refine va_get (ci := 8) (v := .int (gi (g 800) 3)) (C := RX8) (T := TX8) (N := 9) hx hb htw uwX8 hown hE.1 (hw _ _ (wf_800 hE)) 0 rfl rfl 3 (by decide) (htw _ mw250) (fun _ h9 => h9) rfl dX9_fault_21 ?_
      refine lv_goto (tgt := 28) hx hb dX9_fault_24 (by decide) ?_
      obtain rfl := Option.some.inj hf
      subst hq
      exact rt_i C hw hS dX9_fault_28
  · have hf := ifp c2 hf
    refine lv_aload_n hx hb dX9_fault_4 rfl (lv_at hl 0 rfl) ?_
    refine va_get (ci := 9) (v := .ref (ad Γ 800)) (C := RX9) (T := TX9) (N := 8) hx hb htw uwX9 hown hE.1 (hw _ _ (wf_901 hE)) 0 rfl rfl 0 (by decide) (htw _ mw433) (fun _ h9 => h9) rfl dX9_fault_5 ?_
    refine va_get (ci := 8) (v := .int (gi (g 800) 2)) (C := RX8) (T := TX8) (N := 9) hx hb htw uwX8 hown hE.1 (hw _ _ (wf_800 hE)) 0 rfl rfl 2 (by decide) (htw _ mw248) (fun _ h9 => h9) rfl dX9_fault_8 ?_
    obtain rfl := Option.some.inj hf
    subst hq
    exact rt_i C hw hS dX9_fault_11

theorem kX9_fault {l : Launch} {Γ : Gm} {A : Nat → Prop} {g : Gs} {v1 : Int32} {fin : Int32} (hf : fX9_fault g v1 = some fin) : Kt l yX9_fault cX9_fault 2 (some .int) 0 0 Γ A g g [.ref (ad Γ 901), .int v1] (some (.int fin)) :=
  kt_of (by decide) (Nat.le_of_ble_eq_true rfl) (fun p e s m args below meth c C => wX9_fault_e C hf rfl)
noncomputable def fX9_house (g : Gs) (v1 : Int32) (v2 : Int32) : Option Int32 :=
  (fX8_houseAt (g 800) 800 v1).bind fun z1 => oc z1 (some ((-1))) (fun h2 => gd (isHm h2) (if 0 ≤ v2 then if v2 = 0 then some (gi (g h2) 0) else if v2 = 1 then some (gi (g h2) 1) else if v2 = 2 then some (gi (g h2) 2) else (fX2_detail (g h2) (v2 / 10) (v2 - v2 / 10 * 10)).bind fun z4 => some (z4) else some ((-1))))
set_option maxRecDepth 100000 in
set_option maxHeartbeats 4000000 in
theorem wX9_house_e {p : Program} {l : Launch} {e : Env} {s : State} {m : MethodId} {args : Array Value} {below : List Frame} {meth : Method} {c : Code} {Γ : Gm} {A : Nat → Prop} {g : Gs} {v1 : Int32} {v2 : Int32} {q : Int32} {fin : Int32} (C : Cx p s m args meth c yX9_house cX9_house 4 (some .int) Γ A) (hf : fX9_house g v1 v2 = some q) (hq : (fun x => x = fin) q) : Wk p l e { frames := 2, cells := 0, slots := 0, locals := 44 } s m args below meth c Γ A g (some (.int fin)) 0 4 [(0, .ref (ad Γ 901)), (1, .int v1), (2, .int v2)] [] g := by
  intro H locs ls hw hS hl
  unfold fX9_house at hf
  obtain ⟨hx, hb, hml, hr, hown, htw, hlocks, hE⟩ := id C
  have hown : s.vm.findClass RX9 = some m.cls := hown
  refine lv_aload_n hx hb dX9_house_0 rfl (lv_at hl 0 rfl) ?_
  refine va_get (ci := 9) (v := .ref (ad Γ 800)) (C := RX9) (T := TX9) (N := 8) hx hb htw uwX9 hown hE.1 (hw _ _ (wf_901 hE)) 0 rfl rfl 0 (by decide) (htw _ mw433) (fun _ h9 => h9) rfl dX9_house_1 ?_
  refine lv_iload_n hx hb dX9_house_4 rfl (lv_at hl 1 rfl) ?_
  obtain ⟨z1, hz1, hf⟩ := bd hf
  refine cl_Vs (rest := []) (kgX8_houseAt (l := l) (Γ := Γ) (A := A) (G := g) (o := 800) (wf_800 hE) hz1) ⟨hx, hb, hml, hown, htw⟩ hE hw hS (hw _ _ (wf_800 hE)) (q0 := 0) rfl rfl mw629 mw630 mw631 mw119 mw632 pdX8_houseAt ⟨Nat.le_of_ble_eq_true rfl, Nat.le_of_ble_eq_true rfl⟩ rfl rfl hl.1 (Nat.le_of_ble_eq_true rfl) dX9_house_5 (fun H locs hw hS => ?_)
  cases z1 with
  | none =>
    have hf := oc_none hf
    refine lv_astore_nN (lv' := [(3, .null), (0, .ref (ad Γ 901)), (1, .int v1), (2, .int v2)]) hx hb dX9_house_8 rfl hl (by decide) rfl (fun ls hl => ?_)
    refine lv_aload_nN hx hb dX9_house_9 rfl (lv_at hl 0 rfl) ?_
    refine lv_ifnullN (tgt := 17) hx hb dX9_house_10 (by decide) ?_
    refine lv_iconst (v := (-1)) hx hb dX9_house_17 (by decide) ?_
    obtain rfl := Option.some.inj hf
    subst hq
    exact rt_i C hw hS dX9_house_18
  | some h2 =>
    have hf := oc_some hf
    obtain ⟨g3, hf⟩ := gd_some hf
    refine lv_astore_n (lv' := [(3, .ref (ad Γ h2)), (0, .ref (ad Γ 901)), (1, .int v1), (2, .int v2)]) hx hb dX9_house_8 rfl hl (by decide) rfl (fun ls hl => ?_)
    refine lv_aload_n hx hb dX9_house_9 rfl (lv_at hl 0 rfl) ?_
    refine lv_ifnull hx hb dX9_house_10 ?_
    refine lv_iload_n hx hb dX9_house_13 rfl (lv_at hl 3 rfl) ?_
    refine lv_if_ge (tgt := 19) hx hb dX9_house_14 (by decide) (fun c8 => ?_) (fun c8 => ?_)
    · have hf := ifp c8 hf
      refine lv_iload_n hx hb dX9_house_19 rfl (lv_at hl 3 rfl) ?_
      by_cases c5 : v2 = 0
      · have hf := ifp c5 hf
        rw [c5]
        refine lv_tableIn (off := 28) (tgt := 48) hx hb dX9_house_20 (by decide) (by decide) (by rfl) (by decide) ?_
        refine lv_aload_n hx hb dX9_house_48 rfl (lv_at hl 0 rfl) ?_
        refine va_get (ci := 2) (v := .int (gi (g h2) 0)) (C := RX2) (T := TX2) (N := 11) hx hb htw uwX2 hown hE.1 (hw _ _ (hm_kd hE g3)) 0 rfl rfl 0 (by decide) (htw _ mw163) (fun _ h9 => h9) rfl dX9_house_49 ?_
        obtain rfl := Option.some.inj hf
        subst hq
        exact rt_i C hw hS dX9_house_52
      have hf := ifn c5 hf
      by_cases c6 : v2 = 1
      · have hf := ifp c6 hf
        rw [c6]
        refine lv_tableIn (off := 33) (tgt := 53) hx hb dX9_house_20 (by decide) (by decide) (by rfl) (by decide) ?_
        refine lv_aload_n hx hb dX9_house_53 rfl (lv_at hl 0 rfl) ?_
        refine va_get (ci := 2) (v := .int (gi (g h2) 1)) (C := RX2) (T := TX2) (N := 11) hx hb htw uwX2 hown hE.1 (hw _ _ (hm_kd hE g3)) 0 rfl rfl 1 (by decide) (htw _ mw169) (fun _ h9 => h9) rfl dX9_house_54 ?_
        obtain rfl := Option.some.inj hf
        subst hq
        exact rt_i C hw hS dX9_house_57
      have hf := ifn c6 hf
      by_cases c7 : v2 = 2
      · have hf := ifp c7 hf
        rw [c7]
        refine lv_tableIn (off := 38) (tgt := 58) hx hb dX9_house_20 (by decide) (by decide) (by rfl) (by decide) ?_
        refine lv_aload_n hx hb dX9_house_58 rfl (lv_at hl 0 rfl) ?_
        refine va_get (ci := 2) (v := .int (gi (g h2) 2)) (C := RX2) (T := TX2) (N := 11) hx hb htw uwX2 hown hE.1 (hw _ _ (hm_kd hE g3)) 0 rfl rfl 2 (by decide) (htw _ mw172) (fun _ h9 => h9) rfl dX9_house_59 ?_
        obtain rfl := Option.some.inj hf
        subst hq
        exact rt_i C hw hS dX9_house_62
      have hf := ifn c7 hf
      refine lv_tableOut (tgt := 63) hx hb dX9_house_20 (by have := And.intro (ts_ne (k := 0) (by decide) c5) (And.intro (ts_ne (k := 1) (by decide) c6) (And.intro (ts_ne (k := 2) (by decide) c7) (True.intro))); omega) (by decide) ?_
      refine lv_aload_n hx hb dX9_house_63 rfl (lv_at hl 0 rfl) ?_
      refine lv_iload_n hx hb dX9_house_64 rfl (lv_at hl 3 rfl) ?_
      refine lv_bipush (v := 10) hx hb dX9_house_65 (by decide) ?_
      refine lv_idiv hx hb dX9_house_67 (by decide) ?_
      refine lv_iload_n hx hb dX9_house_68 rfl (lv_at hl 3 rfl) ?_
      refine lv_bipush (v := 10) hx hb dX9_house_69 (by decide) ?_
      refine lv_irem hx hb dX9_house_71 (by decide) ?_
      obtain ⟨z4, hz4, hf⟩ := bd hf
      refine cl_Vs (rest := []) (kgX2_detail (l := l) (Γ := Γ) (A := A) (G := g) (o := h2) (hm_kd hE g3) hz4) ⟨hx, hb, hml, hown, htw⟩ hE hw hS (hw _ _ (hm_kd hE g3)) (q0 := 0) rfl rfl mw678 mw679 mw680 mw120 mw681 pdX2_detail ⟨Nat.le_of_ble_eq_true rfl, Nat.le_of_ble_eq_true rfl⟩ rfl rfl hl.1 (Nat.le_of_ble_eq_true rfl) dX9_house_72 (fun H locs hw hS => ?_)
      obtain rfl := Option.some.inj hf
      subst hq
      exact rt_i C hw hS dX9_house_75
    · have hf := ifn c8 hf
      refine lv_iconst (v := (-1)) hx hb dX9_house_17 (by decide) ?_
      obtain rfl := Option.some.inj hf
      subst hq
      exact rt_i C hw hS dX9_house_18

theorem kX9_house {l : Launch} {Γ : Gm} {A : Nat → Prop} {g : Gs} {v1 : Int32} {v2 : Int32} {fin : Int32} (hf : fX9_house g v1 v2 = some fin) : Kt l yX9_house cX9_house 4 (some .int) 2 44 Γ A g g [.ref (ad Γ 901), .int v1, .int v2] (some (.int fin)) :=
  kt_of (by decide) (Nat.le_of_ble_eq_true rfl) (fun p e s m args below meth c C => wX9_house_e C hf rfl)
noncomputable def fX9_worth (g : Gs) (v1 : Int32) (v2 : Int32) (v3 : Int32) : Option Int32 :=
  (fX8_houseAt (g 800) 800 v1).bind fun z1 => oc z1 (some ((-1))) (fun h2 => gd (isHm h2) ((fX2_hasSecret (g h2) v2).bind fun z4 => if z4 = 0 then some ((-1)) else (fX2_hasPiece (g h2) v3).bind fun z5 => if z5 = 0 then some ((-1)) else (fX2_worthTo (g h2) v2 v3).bind fun z6 => some (z6)))
set_option maxRecDepth 100000 in
set_option maxHeartbeats 4000000 in
theorem wX9_worth_e {p : Program} {l : Launch} {e : Env} {s : State} {m : MethodId} {args : Array Value} {below : List Frame} {meth : Method} {c : Code} {Γ : Gm} {A : Nat → Prop} {g : Gs} {v1 : Int32} {v2 : Int32} {v3 : Int32} {q : Int32} {fin : Int32} (C : Cx p s m args meth c yX9_worth cX9_worth 5 (some .int) Γ A) (hf : fX9_worth g v1 v2 v3 = some q) (hq : (fun x => x = fin) q) : Wk p l e { frames := 3, cells := 0, slots := 0, locals := 68 } s m args below meth c Γ A g (some (.int fin)) 0 5 [(0, .ref (ad Γ 901)), (1, .int v1), (2, .int v2), (3, .int v3)] [] g := by
  intro H locs ls hw hS hl
  unfold fX9_worth at hf
  obtain ⟨hx, hb, hml, hr, hown, htw, hlocks, hE⟩ := id C
  have hown : s.vm.findClass RX9 = some m.cls := hown
  refine lv_aload_n hx hb dX9_worth_0 rfl (lv_at hl 0 rfl) ?_
  refine va_get (ci := 9) (v := .ref (ad Γ 800)) (C := RX9) (T := TX9) (N := 8) hx hb htw uwX9 hown hE.1 (hw _ _ (wf_901 hE)) 0 rfl rfl 0 (by decide) (htw _ mw433) (fun _ h9 => h9) rfl dX9_worth_1 ?_
  refine lv_iload_n hx hb dX9_worth_4 rfl (lv_at hl 1 rfl) ?_
  obtain ⟨z1, hz1, hf⟩ := bd hf
  refine cl_Vs (rest := []) (kgX8_houseAt (l := l) (Γ := Γ) (A := A) (G := g) (o := 800) (wf_800 hE) hz1) ⟨hx, hb, hml, hown, htw⟩ hE hw hS (hw _ _ (wf_800 hE)) (q0 := 0) rfl rfl mw629 mw630 mw631 mw119 mw632 pdX8_houseAt ⟨Nat.le_of_ble_eq_true rfl, Nat.le_of_ble_eq_true rfl⟩ rfl rfl hl.1 (Nat.le_of_ble_eq_true rfl) dX9_worth_5 (fun H locs hw hS => ?_)
  cases z1 with
  | none =>
    have hf := oc_none hf
    refine lv_astoreN (lv' := [(4, .null), (0, .ref (ad Γ 901)), (1, .int v1), (2, .int v2), (3, .int v3)]) hx hb dX9_worth_8 hl (by decide) rfl (fun ls hl => ?_)
    refine lv_aloadN hx hb dX9_worth_10 (lv_at hl 0 rfl) ?_
    refine lv_ifnullN (tgt := 33) hx hb dX9_worth_12 (by decide) ?_
    refine lv_iconst (v := (-1)) hx hb dX9_worth_33 (by decide) ?_
    obtain rfl := Option.some.inj hf
    subst hq
    exact rt_i C hw hS dX9_worth_34
  | some h2 =>
    have hf := oc_some hf
    obtain ⟨g3, hf⟩ := gd_some hf
    refine lv_astore (lv' := [(4, .ref (ad Γ h2)), (0, .ref (ad Γ 901)), (1, .int v1), (2, .int v2), (3, .int v3)]) hx hb dX9_worth_8 hl (by decide) rfl (fun ls hl => ?_)
    refine lv_aload hx hb dX9_worth_10 (lv_at hl 0 rfl) ?_
    refine lv_ifnull hx hb dX9_worth_12 ?_
    refine lv_aload hx hb dX9_worth_15 (lv_at hl 0 rfl) ?_
    refine lv_iload_n hx hb dX9_worth_17 rfl (lv_at hl 3 rfl) ?_
    obtain ⟨z4, hz4, hf⟩ := bd hf
    refine cl_Vs (rest := []) (kgX2_hasSecret (l := l) (Γ := Γ) (A := A) (G := g) (o := h2) (hm_kd hE g3) hz4) ⟨hx, hb, hml, hown, htw⟩ hE hw hS (hw _ _ (hm_kd hE g3)) (q0 := 0) rfl rfl mw706 mw691 mw692 mw120 mw693 pdX2_hasSecret ⟨Nat.le_of_ble_eq_true rfl, Nat.le_of_ble_eq_true rfl⟩ rfl rfl hl.1 (Nat.le_of_ble_eq_true rfl) dX9_worth_18 (fun H locs hw hS => ?_)
    refine lv_if_eq (tgt := 33) hx hb dX9_worth_21 (by decide) (fun c8 => ?_) (fun c8 => ?_)
    · have hf := ifp c8 hf
      refine lv_iconst (v := (-1)) hx hb dX9_worth_33 (by decide) ?_
      obtain rfl := Option.some.inj hf
      subst hq
      exact rt_i C hw hS dX9_worth_34
    · have hf := ifn c8 hf
      refine lv_aload hx hb dX9_worth_24 (lv_at hl 0 rfl) ?_
      refine lv_iload_n hx hb dX9_worth_26 rfl (lv_at hl 4 rfl) ?_
      obtain ⟨z5, hz5, hf⟩ := bd hf
      refine cl_Vs (rest := []) (kgX2_hasPiece (l := l) (Γ := Γ) (A := A) (G := g) (o := h2) (hm_kd hE g3) hz5) ⟨hx, hb, hml, hown, htw⟩ hE hw hS (hw _ _ (hm_kd hE g3)) (q0 := 0) rfl rfl mw707 mw683 mw684 mw120 mw685 pdX2_hasPiece ⟨Nat.le_of_ble_eq_true rfl, Nat.le_of_ble_eq_true rfl⟩ rfl rfl hl.1 (Nat.le_of_ble_eq_true rfl) dX9_worth_27 (fun H locs hw hS => ?_)
      refine lv_if_ne (tgt := 35) hx hb dX9_worth_30 (by decide) (fun c7 => ?_) (fun c7 => ?_)
      · have hf := ifn c7 hf
        refine lv_aload hx hb dX9_worth_35 (lv_at hl 0 rfl) ?_
        refine lv_iload_n hx hb dX9_worth_37 rfl (lv_at hl 3 rfl) ?_
        refine lv_iload_n hx hb dX9_worth_38 rfl (lv_at hl 4 rfl) ?_
        obtain ⟨z6, hz6, hf⟩ := bd hf
        refine cl_Vs (rest := []) (kgX2_worthTo (l := l) (Γ := Γ) (A := A) (G := g) (o := h2) (hm_kd hE g3) hz6) ⟨hx, hb, hml, hown, htw⟩ hE hw hS (hw _ _ (hm_kd hE g3)) (q0 := 0) rfl rfl mw708 mw709 mw710 mw120 mw711 pdX2_worthTo ⟨Nat.le_of_ble_eq_true rfl, Nat.le_of_ble_eq_true rfl⟩ rfl rfl hl.1 (Nat.le_of_ble_eq_true rfl) dX9_worth_39 (fun H locs hw hS => ?_)
        obtain rfl := Option.some.inj hf
        subst hq
        exact rt_i C hw hS dX9_worth_42
      · have hf := ifp c7 hf
        refine lv_iconst (v := (-1)) hx hb dX9_worth_33 (by decide) ?_
        obtain rfl := Option.some.inj hf
        subst hq
        exact rt_i C hw hS dX9_worth_34

theorem kX9_worth {l : Launch} {Γ : Gm} {A : Nat → Prop} {g : Gs} {v1 : Int32} {v2 : Int32} {v3 : Int32} {fin : Int32} (hf : fX9_worth g v1 v2 v3 = some fin) : Kt l yX9_worth cX9_worth 5 (some .int) 3 68 Γ A g g [.ref (ad Γ 901), .int v1, .int v2, .int v3] (some (.int fin)) :=
  kt_of (by decide) (Nat.le_of_ble_eq_true rfl) (fun p e s m args below meth c C => wX9_worth_e C hf rfl)
noncomputable def fX9_deed (g : Gs) (v1 : Int32) (v2 : Int32) (v3 : Int32) : Option Int32 :=
  (fX8_rowsAt (g 800) 800 1 v1).bind fun z1 => oc z1 (some ((-2))) (fun h2 => gd (isRw h2) (if v2 = (-1) then if v3 = 0 then some (gi (g h2) 2) else some ((-2)) else (fX5_hasRow (g h2) v2).bind fun z4 => if z4 = 0 then some ((-2)) else if v3 < 0 then some ((-2)) else if v3 ≤ 3 then (fX5_cell (g h2) v2 v3).bind fun z5 => if v3 = 0 then some (z5 - 4) else some (z5) else some ((-2))))
set_option maxRecDepth 100000 in
set_option maxHeartbeats 4000000 in
theorem wX9_deed_e {p : Program} {l : Launch} {e : Env} {s : State} {m : MethodId} {args : Array Value} {below : List Frame} {meth : Method} {c : Code} {Γ : Gm} {A : Nat → Prop} {g : Gs} {v1 : Int32} {v2 : Int32} {v3 : Int32} {q : Int32} {fin : Int32} (C : Cx p s m args meth c yX9_deed cX9_deed 6 (some .int) Γ A) (hf : fX9_deed g v1 v2 v3 = some q) (hq : (fun x => x = fin) q) : Wk p l e { frames := 2, cells := 0, slots := 0, locals := 43 } s m args below meth c Γ A g (some (.int fin)) 0 6 [(0, .ref (ad Γ 901)), (1, .int v1), (2, .int v2), (3, .int v3)] [] g := by
  intro H locs ls hw hS hl
  unfold fX9_deed at hf
  obtain ⟨hx, hb, hml, hr, hown, htw, hlocks, hE⟩ := id C
  have hown : s.vm.findClass RX9 = some m.cls := hown
  refine lv_aload_n hx hb dX9_deed_0 rfl (lv_at hl 0 rfl) ?_
  refine va_get (ci := 9) (v := .ref (ad Γ 800)) (C := RX9) (T := TX9) (N := 8) hx hb htw uwX9 hown hE.1 (hw _ _ (wf_901 hE)) 0 rfl rfl 0 (by decide) (htw _ mw433) (fun _ h9 => h9) rfl dX9_deed_1 ?_
  refine lv_iconst (v := 1) hx hb dX9_deed_4 (by decide) ?_
  refine lv_iload_n hx hb dX9_deed_5 rfl (lv_at hl 1 rfl) ?_
  obtain ⟨z1, hz1, hf⟩ := bd hf
  refine cl_Vs (rest := []) (kgX8_rowsAt (l := l) (Γ := Γ) (A := A) (G := g) (o := 800) (wf_800 hE) hz1) ⟨hx, hb, hml, hown, htw⟩ hE hw hS (hw _ _ (wf_800 hE)) (q0 := 0) rfl rfl mw658 mw659 mw660 mw119 mw661 pdX8_rowsAt ⟨Nat.le_of_ble_eq_true rfl, Nat.le_of_ble_eq_true rfl⟩ rfl rfl hl.1 (Nat.le_of_ble_eq_true rfl) dX9_deed_6 (fun H locs hw hS => ?_)
  cases z1 with
  | none =>
    have hf := oc_none hf
    refine lv_astoreN (lv' := [(4, .null), (0, .ref (ad Γ 901)), (1, .int v1), (2, .int v2), (3, .int v3)]) hx hb dX9_deed_9 hl (by decide) rfl (fun ls hl => ?_)
    refine lv_aloadN hx hb dX9_deed_11 (lv_at hl 0 rfl) ?_
    refine lv_ifnonnullN hx hb dX9_deed_13 ?_
    refine lv_bipush (v := (-2)) hx hb dX9_deed_16 (by decide) ?_
    obtain rfl := Option.some.inj hf
    subst hq
    exact rt_i C hw hS dX9_deed_18
  | some h2 =>
    have hf := oc_some hf
    obtain ⟨g3, hf⟩ := gd_some hf
    refine lv_astore (lv' := [(4, .ref (ad Γ h2)), (0, .ref (ad Γ 901)), (1, .int v1), (2, .int v2), (3, .int v3)]) hx hb dX9_deed_9 hl (by decide) rfl (fun ls hl => ?_)
    refine lv_aload hx hb dX9_deed_11 (lv_at hl 0 rfl) ?_
    refine lv_ifnonnull (tgt := 19) hx hb dX9_deed_13 (by decide) ?_
    refine lv_iload_n hx hb dX9_deed_19 rfl (lv_at hl 3 rfl) ?_
    refine lv_iconst (v := (-1)) hx hb dX9_deed_20 (by decide) ?_
    refine lv_icmp_ne (tgt := 39) hx hb dX9_deed_21 (by decide) (fun c11 => ?_) (fun c11 => ?_)
    · have hf := ifn c11 hf
      refine lv_aload hx hb dX9_deed_39 (lv_at hl 0 rfl) ?_
      refine lv_iload_n hx hb dX9_deed_41 rfl (lv_at hl 3 rfl) ?_
      obtain ⟨z4, hz4, hf⟩ := bd hf
      refine cl_Vs (rest := []) (kgX5_hasRow (l := l) (Γ := Γ) (A := A) (G := g) (o := h2) (rw_kd hE g3) hz4) ⟨hx, hb, hml, hown, htw⟩ hE hw hS (hw _ _ (rw_kd hE g3)) (q0 := 0) rfl rfl mw726 mw727 mw728 mw121 mw729 pdX5_hasRow ⟨Nat.le_of_ble_eq_true rfl, Nat.le_of_ble_eq_true rfl⟩ rfl rfl hl.1 (Nat.le_of_ble_eq_true rfl) dX9_deed_42 (fun H locs hw hS => ?_)
      refine lv_if_eq (tgt := 57) hx hb dX9_deed_45 (by decide) (fun c9 => ?_) (fun c9 => ?_)
      · have hf := ifp c9 hf
        refine lv_bipush (v := (-2)) hx hb dX9_deed_57 (by decide) ?_
        obtain rfl := Option.some.inj hf
        subst hq
        exact rt_i C hw hS dX9_deed_59
      · have hf := ifn c9 hf
        refine lv_iload_n hx hb dX9_deed_48 rfl (lv_at hl 4 rfl) ?_
        refine lv_if_lt (tgt := 57) hx hb dX9_deed_49 (by decide) (fun c8 => ?_) (fun c8 => ?_)
        · have hf := ifp c8 hf
          refine lv_bipush (v := (-2)) hx hb dX9_deed_57 (by decide) ?_
          obtain rfl := Option.some.inj hf
          subst hq
          exact rt_i C hw hS dX9_deed_59
        · have hf := ifn c8 hf
          refine lv_iload_n hx hb dX9_deed_52 rfl (lv_at hl 4 rfl) ?_
          refine lv_iconst (v := 3) hx hb dX9_deed_53 (by decide) ?_
          refine lv_icmp_le (tgt := 60) hx hb dX9_deed_54 (by decide) (fun c7 => ?_) (fun c7 => ?_)
          · have hf := ifp c7 hf
            refine lv_aload hx hb dX9_deed_60 (lv_at hl 0 rfl) ?_
            refine lv_iload_n hx hb dX9_deed_62 rfl (lv_at hl 3 rfl) ?_
            refine lv_iload_n hx hb dX9_deed_63 rfl (lv_at hl 4 rfl) ?_
            obtain ⟨z5, hz5, hf⟩ := bd hf
            refine cl_Vs (rest := []) (kgX5_cell (l := l) (Γ := Γ) (A := A) (G := g) (o := h2) (rw_kd hE g3) hz5) ⟨hx, hb, hml, hown, htw⟩ hE hw hS (hw _ _ (rw_kd hE g3)) (q0 := 0) rfl rfl mw730 mw731 mw732 mw121 mw733 pdX5_cell ⟨Nat.le_of_ble_eq_true rfl, Nat.le_of_ble_eq_true rfl⟩ rfl rfl hl.1 (Nat.le_of_ble_eq_true rfl) dX9_deed_64 (fun H locs hw hS => ?_)
            refine lv_istore (lv' := [(5, .int z5), (4, .ref (ad Γ h2)), (0, .ref (ad Γ 901)), (1, .int v1), (2, .int v2), (3, .int v3)]) hx hb dX9_deed_67 hl (by decide) rfl (fun ls hl => ?_)
            refine lv_iload_n hx hb dX9_deed_69 rfl (lv_at hl 5 rfl) ?_
            refine lv_if_ne (tgt := 80) hx hb dX9_deed_70 (by decide) (fun c6 => ?_) (fun c6 => ?_)
            · have hf := ifn c6 hf
              refine lv_iload hx hb dX9_deed_80 (lv_at hl 0 rfl) ?_
              obtain rfl := Option.some.inj hf
              subst hq
              exact rt_i C hw hS dX9_deed_82
            · have hf := ifp c6 hf
              refine lv_iload hx hb dX9_deed_73 (lv_at hl 0 rfl) ?_
              refine lv_iconst (v := 4) hx hb dX9_deed_75 (by decide) ?_
              refine lv_isub hx hb dX9_deed_76 ?_
              refine lv_goto (tgt := 82) hx hb dX9_deed_77 (by decide) ?_
              obtain rfl := Option.some.inj hf
              subst hq
              exact rt_i C hw hS dX9_deed_82
          · have hf := ifn c7 hf
            refine lv_bipush (v := (-2)) hx hb dX9_deed_57 (by decide) ?_
            obtain rfl := Option.some.inj hf
            subst hq
            exact rt_i C hw hS dX9_deed_59
    · have hf := ifp c11 hf
      refine lv_iload_n hx hb dX9_deed_24 rfl (lv_at hl 4 rfl) ?_
      refine lv_if_ne (tgt := 36) hx hb dX9_deed_25 (by decide) (fun c10 => ?_) (fun c10 => ?_)
      · have hf := ifn c10 hf
        refine lv_bipush (v := (-2)) hx hb dX9_deed_36 (by decide) ?_
        obtain rfl := Option.some.inj hf
        subst hq
        exact rt_i C hw hS dX9_deed_38
      · have hf := ifp c10 hf
        refine lv_aload hx hb dX9_deed_28 (lv_at hl 0 rfl) ?_
        refine va_get (ci := 5) (v := .int (gi (g h2) 2)) (C := RX5) (T := TX5) (N := 3) hx hb htw uwX5 hown hE.1 (hw _ _ (rw_kd hE g3)) 0 rfl rfl 2 (by decide) (htw _ mw233) (fun _ h9 => h9) rfl dX9_deed_30 ?_
        refine lv_goto (tgt := 38) hx hb dX9_deed_33 (by decide) ?_
        obtain rfl := Option.some.inj hf
        subst hq
        exact rt_i C hw hS dX9_deed_38

theorem kX9_deed {l : Launch} {Γ : Gm} {A : Nat → Prop} {g : Gs} {v1 : Int32} {v2 : Int32} {v3 : Int32} {fin : Int32} (hf : fX9_deed g v1 v2 v3 = some fin) : Kt l yX9_deed cX9_deed 6 (some .int) 2 43 Γ A g g [.ref (ad Γ 901), .int v1, .int v2, .int v3] (some (.int fin)) :=
  kt_of (by decide) (Nat.le_of_ble_eq_true rfl) (fun p e s m args below meth c C => wX9_deed_e C hf rfl)
noncomputable def fX9_till (g : Gs) (v1 : Int32) (v2 : Int32) : Option (Gs × Int32) :=
  (fX8_houseAt (g 800) 800 v1).bind fun z1 => oc z1 ((fX8_rowsAt (g 800) 800 1 v2).bind fun z3 => oc z3 (some ((g, (-1)))) (fun h4 => gd (isRw h4) (some ((g, (-1)))))) (fun h2 => gd (isHm h2) ((fX8_rowsAt (g 800) 800 1 v2).bind fun z7 => oc z7 (some ((g, (-1)))) (fun h8 => gd (isRw h8) ((fX0_follow g h2 h8 (gi (g h8) 2)).bind fun z10 => some ((z10.1, z10.2))))))
set_option maxRecDepth 100000 in
set_option maxHeartbeats 4000000 in
theorem wX9_till_e {p : Program} {l : Launch} {e : Env} {s : State} {m : MethodId} {args : Array Value} {below : List Frame} {meth : Method} {c : Code} {Γ : Gm} {A : Nat → Prop} {g : Gs} {v1 : Int32} {v2 : Int32} {q : (Gs × Int32)} {fin : Gs × Int32} (C : Cx p s m args meth c yX9_till cX9_till 5 (some .int) Γ A) (hf : fX9_till g v1 v2 = some q) (hq : (fun x => x = fin) q) : Wk p l e { frames := 5, cells := 0, slots := 0, locals := 116 } s m args below meth c Γ A fin.1 (some (.int fin.2)) 0 5 [(0, .ref (ad Γ 901)), (1, .int v1), (2, .int v2)] [] g := by
  intro H locs ls hw hS hl
  unfold fX9_till at hf
  obtain ⟨hx, hb, hml, hr, hown, htw, hlocks, hE⟩ := id C
  have hown : s.vm.findClass RX9 = some m.cls := hown
  refine lv_aload_n hx hb dX9_till_0 rfl (lv_at hl 0 rfl) ?_
  refine va_get (ci := 9) (v := .ref (ad Γ 800)) (C := RX9) (T := TX9) (N := 8) hx hb htw uwX9 hown hE.1 (hw _ _ (wf_901 hE)) 0 rfl rfl 0 (by decide) (htw _ mw433) (fun _ h9 => h9) rfl dX9_till_1 ?_
  refine lv_iload_n hx hb dX9_till_4 rfl (lv_at hl 1 rfl) ?_
  obtain ⟨z1, hz1, hf⟩ := bd hf
  refine cl_Vs (rest := []) (kgX8_houseAt (l := l) (Γ := Γ) (A := A) (G := g) (o := 800) (wf_800 hE) hz1) ⟨hx, hb, hml, hown, htw⟩ hE hw hS (hw _ _ (wf_800 hE)) (q0 := 0) rfl rfl mw629 mw630 mw631 mw119 mw632 pdX8_houseAt ⟨Nat.le_of_ble_eq_true rfl, Nat.le_of_ble_eq_true rfl⟩ rfl rfl hl.1 (Nat.le_of_ble_eq_true rfl) dX9_till_5 (fun H locs hw hS => ?_)
  cases z1 with
  | none =>
    have hf := oc_none hf
    refine lv_astore_nN (lv' := [(3, .null), (0, .ref (ad Γ 901)), (1, .int v1), (2, .int v2)]) hx hb dX9_till_8 rfl hl (by decide) rfl (fun ls hl => ?_)
    refine lv_aload_n hx hb dX9_till_9 rfl (lv_at hl 1 rfl) ?_
    refine va_get (ci := 9) (v := .ref (ad Γ 800)) (C := RX9) (T := TX9) (N := 8) hx hb htw uwX9 hown hE.1 (hw _ _ (wf_901 hE)) 0 rfl rfl 0 (by decide) (htw _ mw433) (fun _ h9 => h9) rfl dX9_till_10 ?_
    refine lv_iconst (v := 1) hx hb dX9_till_13 (by decide) ?_
    refine lv_iload_n hx hb dX9_till_14 rfl (lv_at hl 3 rfl) ?_
    obtain ⟨z3, hz3, hf⟩ := bd hf
    refine cl_Vs (rest := []) (kgX8_rowsAt (l := l) (Γ := Γ) (A := A) (G := g) (o := 800) (wf_800 hE) hz3) ⟨hx, hb, hml, hown, htw⟩ hE hw hS (hw _ _ (wf_800 hE)) (q0 := 0) rfl rfl mw658 mw659 mw660 mw119 mw661 pdX8_rowsAt ⟨Nat.le_of_ble_eq_true rfl, Nat.le_of_ble_eq_true rfl⟩ rfl rfl hl.1 (Nat.le_of_ble_eq_true rfl) dX9_till_15 (fun H locs hw hS => ?_)
    cases z3 with
    | none =>
      have hf := oc_none hf
      refine lv_astoreN (lv' := [(4, .null), (3, .null), (0, .ref (ad Γ 901)), (1, .int v1), (2, .int v2)]) hx hb dX9_till_18 hl (by decide) rfl (fun ls hl => ?_)
      refine lv_aload_nN hx hb dX9_till_20 rfl (lv_at hl 1 rfl) ?_
      refine lv_ifnullN (tgt := 29) hx hb dX9_till_21 (by decide) ?_
      refine lv_iconst (v := (-1)) hx hb dX9_till_29 (by decide) ?_
      obtain rfl := Option.some.inj hf
      subst hq
      exact rt_i C hw hS dX9_till_30
    | some h4 =>
      have hf := oc_some hf
      obtain ⟨g5, hf⟩ := gd_some hf
      refine lv_astore (lv' := [(4, .ref (ad Γ h4)), (3, .null), (0, .ref (ad Γ 901)), (1, .int v1), (2, .int v2)]) hx hb dX9_till_18 hl (by decide) rfl (fun ls hl => ?_)
      refine lv_aload_nN hx hb dX9_till_20 rfl (lv_at hl 1 rfl) ?_
      refine lv_ifnullN (tgt := 29) hx hb dX9_till_21 (by decide) ?_
      refine lv_iconst (v := (-1)) hx hb dX9_till_29 (by decide) ?_
      obtain rfl := Option.some.inj hf
      subst hq
      exact rt_i C hw hS dX9_till_30
  | some h2 =>
    have hf := oc_some hf
    obtain ⟨g6, hf⟩ := gd_some hf
    refine lv_astore_n (lv' := [(3, .ref (ad Γ h2)), (0, .ref (ad Γ 901)), (1, .int v1), (2, .int v2)]) hx hb dX9_till_8 rfl hl (by decide) rfl (fun ls hl => ?_)
    refine lv_aload_n hx hb dX9_till_9 rfl (lv_at hl 1 rfl) ?_
    refine va_get (ci := 9) (v := .ref (ad Γ 800)) (C := RX9) (T := TX9) (N := 8) hx hb htw uwX9 hown hE.1 (hw _ _ (wf_901 hE)) 0 rfl rfl 0 (by decide) (htw _ mw433) (fun _ h9 => h9) rfl dX9_till_10 ?_
    refine lv_iconst (v := 1) hx hb dX9_till_13 (by decide) ?_
    refine lv_iload_n hx hb dX9_till_14 rfl (lv_at hl 3 rfl) ?_
    obtain ⟨z7, hz7, hf⟩ := bd hf
    refine cl_Vs (rest := []) (kgX8_rowsAt (l := l) (Γ := Γ) (A := A) (G := g) (o := 800) (wf_800 hE) hz7) ⟨hx, hb, hml, hown, htw⟩ hE hw hS (hw _ _ (wf_800 hE)) (q0 := 0) rfl rfl mw658 mw659 mw660 mw119 mw661 pdX8_rowsAt ⟨Nat.le_of_ble_eq_true rfl, Nat.le_of_ble_eq_true rfl⟩ rfl rfl hl.1 (Nat.le_of_ble_eq_true rfl) dX9_till_15 (fun H locs hw hS => ?_)
    cases z7 with
    | none =>
      have hf := oc_none hf
      refine lv_astoreN (lv' := [(4, .null), (3, .ref (ad Γ h2)), (0, .ref (ad Γ 901)), (1, .int v1), (2, .int v2)]) hx hb dX9_till_18 hl (by decide) rfl (fun ls hl => ?_)
      refine lv_aload_n hx hb dX9_till_20 rfl (lv_at hl 1 rfl) ?_
      refine lv_ifnull hx hb dX9_till_21 ?_
      refine lv_aloadN hx hb dX9_till_24 (lv_at hl 0 rfl) ?_
      refine lv_ifnonnullN hx hb dX9_till_26 ?_
      refine lv_iconst (v := (-1)) hx hb dX9_till_29 (by decide) ?_
      obtain rfl := Option.some.inj hf
      subst hq
      exact rt_i C hw hS dX9_till_30
    | some h8 =>
      have hf := oc_some hf
      obtain ⟨g9, hf⟩ := gd_some hf
      refine lv_astore (lv' := [(4, .ref (ad Γ h8)), (3, .ref (ad Γ h2)), (0, .ref (ad Γ 901)), (1, .int v1), (2, .int v2)]) hx hb dX9_till_18 hl (by decide) rfl (fun ls hl => ?_)
      refine lv_aload_n hx hb dX9_till_20 rfl (lv_at hl 1 rfl) ?_
      refine lv_ifnull hx hb dX9_till_21 ?_
      refine lv_aload hx hb dX9_till_24 (lv_at hl 0 rfl) ?_
      refine lv_ifnonnull (tgt := 31) hx hb dX9_till_26 (by decide) ?_
      refine lv_aload_n hx hb dX9_till_31 rfl (lv_at hl 2 rfl) ?_
      refine va_get (ci := 9) (v := .ref (ad Γ 1)) (C := RX9) (T := TX9) (N := 8) hx hb htw uwX9 hown hE.1 (hw _ _ (wf_901 hE)) 0 rfl rfl 3 (by decide) (htw _ mw436) (fun _ h9 => h9) rfl dX9_till_32 ?_
      refine lv_aload_n hx hb dX9_till_35 rfl (lv_at hl 1 rfl) ?_
      refine lv_aload hx hb dX9_till_36 (lv_at hl 0 rfl) ?_
      refine lv_aload hx hb dX9_till_38 (lv_at hl 0 rfl) ?_
      refine va_get (ci := 5) (v := .int (gi (g h8) 2)) (C := RX5) (T := TX5) (N := 3) hx hb htw uwX5 hown hE.1 (hw _ _ (rw_kd hE g9)) 0 rfl rfl 2 (by decide) (htw _ mw233) (fun _ h9 => h9) rfl dX9_till_40 ?_
      obtain ⟨z10, hz10, hf⟩ := bd hf
      refine cl_Vs (rest := []) (kX0_follow (l := l) (Γ := Γ) (A := A) (hm_kd hE g6) (rw_kd hE g9) hz10) ⟨hx, hb, hml, hown, htw⟩ hE hw hS (hw _ _ (wf_1 hE)) (q0 := 0) rfl rfl mw739 mw740 mw741 mw124 mw742 pdX0_follow ⟨Nat.le_of_ble_eq_true rfl, Nat.le_of_ble_eq_true rfl⟩ rfl rfl hl.1 (Nat.le_of_ble_eq_true rfl) dX9_till_43 (fun H locs hw hS => ?_)
      obtain rfl := Option.some.inj hf
      subst hq
      exact rt_i C hw hS dX9_till_46

theorem kX9_till {l : Launch} {Γ : Gm} {A : Nat → Prop} {g : Gs} {v1 : Int32} {v2 : Int32} {fin : Gs × Int32} (hf : fX9_till g v1 v2 = some fin) : Kt l yX9_till cX9_till 5 (some .int) 5 116 Γ A g fin.1 [.ref (ad Γ 901), .int v1, .int v2] (some (.int fin.2)) :=
  kt_of (by decide) (Nat.le_of_ble_eq_true rfl) (fun p e s m args below meth c C => wX9_till_e C hf rfl)
noncomputable def fX9_state (g : Gs) (v1 : Int32) (v2 : Int32) (v3 : Int32) (v4 : Int32) : Option (Gs × Int32) :=
  (fX8_houseAt (g 800) 800 v1).bind fun z1 => oc z1 ((fX8_rowsAt (g 800) 800 1 v2).bind fun z3 => oc z3 (some ((g, (-2)))) (fun h4 => gd (isRw h4) (some ((g, (-2)))))) (fun h2 => gd (isHm h2) ((fX8_rowsAt (g 800) 800 1 v2).bind fun z7 => oc z7 (some ((g, (-2)))) (fun h8 => gd (isRw h8) (if v3 < 0 then some ((g, (-2))) else if v3 ≤ (gi (g h8) 2) then (fX0_follow g h2 h8 v3).bind fun z10 => if z10.2 = v3 then (fX0_look z10.1 v4).bind fun z11 => some ((z10.1, z11)) else some ((z10.1, (-2))) else some ((g, (-2)))))))
set_option maxRecDepth 100000 in
set_option maxHeartbeats 4000000 in
theorem wX9_state_e {p : Program} {l : Launch} {e : Env} {s : State} {m : MethodId} {args : Array Value} {below : List Frame} {meth : Method} {c : Code} {Γ : Gm} {A : Nat → Prop} {g : Gs} {v1 : Int32} {v2 : Int32} {v3 : Int32} {v4 : Int32} {q : (Gs × Int32)} {fin : Gs × Int32} (C : Cx p s m args meth c yX9_state cX9_state 7 (some .int) Γ A) (hf : fX9_state g v1 v2 v3 v4 = some q) (hq : (fun x => x = fin) q) : Wk p l e { frames := 5, cells := 0, slots := 0, locals := 116 } s m args below meth c Γ A fin.1 (some (.int fin.2)) 0 7 [(0, .ref (ad Γ 901)), (1, .int v1), (2, .int v2), (3, .int v3), (4, .int v4)] [] g := by
  intro H locs ls hw hS hl
  unfold fX9_state at hf
  obtain ⟨hx, hb, hml, hr, hown, htw, hlocks, hE⟩ := id C
  have hown : s.vm.findClass RX9 = some m.cls := hown
  refine lv_aload_n hx hb dX9_state_0 rfl (lv_at hl 0 rfl) ?_
  refine va_get (ci := 9) (v := .ref (ad Γ 800)) (C := RX9) (T := TX9) (N := 8) hx hb htw uwX9 hown hE.1 (hw _ _ (wf_901 hE)) 0 rfl rfl 0 (by decide) (htw _ mw433) (fun _ h9 => h9) rfl dX9_state_1 ?_
  refine lv_iload_n hx hb dX9_state_4 rfl (lv_at hl 1 rfl) ?_
  obtain ⟨z1, hz1, hf⟩ := bd hf
  refine cl_Vs (rest := []) (kgX8_houseAt (l := l) (Γ := Γ) (A := A) (G := g) (o := 800) (wf_800 hE) hz1) ⟨hx, hb, hml, hown, htw⟩ hE hw hS (hw _ _ (wf_800 hE)) (q0 := 0) rfl rfl mw629 mw630 mw631 mw119 mw632 pdX8_houseAt ⟨Nat.le_of_ble_eq_true rfl, Nat.le_of_ble_eq_true rfl⟩ rfl rfl hl.1 (Nat.le_of_ble_eq_true rfl) dX9_state_5 (fun H locs hw hS => ?_)
  cases z1 with
  | none =>
    have hf := oc_none hf
    refine lv_astoreN (lv' := [(5, .null), (0, .ref (ad Γ 901)), (1, .int v1), (2, .int v2), (3, .int v3), (4, .int v4)]) hx hb dX9_state_8 hl (by decide) rfl (fun ls hl => ?_)
    refine lv_aload_n hx hb dX9_state_10 rfl (lv_at hl 1 rfl) ?_
    refine va_get (ci := 9) (v := .ref (ad Γ 800)) (C := RX9) (T := TX9) (N := 8) hx hb htw uwX9 hown hE.1 (hw _ _ (wf_901 hE)) 0 rfl rfl 0 (by decide) (htw _ mw433) (fun _ h9 => h9) rfl dX9_state_11 ?_
    refine lv_iconst (v := 1) hx hb dX9_state_14 (by decide) ?_
    refine lv_iload_n hx hb dX9_state_15 rfl (lv_at hl 3 rfl) ?_
    obtain ⟨z3, hz3, hf⟩ := bd hf
    refine cl_Vs (rest := []) (kgX8_rowsAt (l := l) (Γ := Γ) (A := A) (G := g) (o := 800) (wf_800 hE) hz3) ⟨hx, hb, hml, hown, htw⟩ hE hw hS (hw _ _ (wf_800 hE)) (q0 := 0) rfl rfl mw658 mw659 mw660 mw119 mw661 pdX8_rowsAt ⟨Nat.le_of_ble_eq_true rfl, Nat.le_of_ble_eq_true rfl⟩ rfl rfl hl.1 (Nat.le_of_ble_eq_true rfl) dX9_state_16 (fun H locs hw hS => ?_)
    cases z3 with
    | none =>
      have hf := oc_none hf
      refine lv_astoreN (lv' := [(6, .null), (5, .null), (0, .ref (ad Γ 901)), (1, .int v1), (2, .int v2), (3, .int v3), (4, .int v4)]) hx hb dX9_state_19 hl (by decide) rfl (fun ls hl => ?_)
      refine lv_aloadN hx hb dX9_state_21 (lv_at hl 1 rfl) ?_
      refine lv_ifnullN (tgt := 44) hx hb dX9_state_23 (by decide) ?_
      refine lv_bipush (v := (-2)) hx hb dX9_state_44 (by decide) ?_
      obtain rfl := Option.some.inj hf
      subst hq
      exact rt_i C hw hS dX9_state_46
    | some h4 =>
      have hf := oc_some hf
      obtain ⟨g5, hf⟩ := gd_some hf
      refine lv_astore (lv' := [(6, .ref (ad Γ h4)), (5, .null), (0, .ref (ad Γ 901)), (1, .int v1), (2, .int v2), (3, .int v3), (4, .int v4)]) hx hb dX9_state_19 hl (by decide) rfl (fun ls hl => ?_)
      refine lv_aloadN hx hb dX9_state_21 (lv_at hl 1 rfl) ?_
      refine lv_ifnullN (tgt := 44) hx hb dX9_state_23 (by decide) ?_
      refine lv_bipush (v := (-2)) hx hb dX9_state_44 (by decide) ?_
      obtain rfl := Option.some.inj hf
      subst hq
      exact rt_i C hw hS dX9_state_46
  | some h2 =>
    have hf := oc_some hf
    obtain ⟨g6, hf⟩ := gd_some hf
    refine lv_astore (lv' := [(5, .ref (ad Γ h2)), (0, .ref (ad Γ 901)), (1, .int v1), (2, .int v2), (3, .int v3), (4, .int v4)]) hx hb dX9_state_8 hl (by decide) rfl (fun ls hl => ?_)
    refine lv_aload_n hx hb dX9_state_10 rfl (lv_at hl 1 rfl) ?_
    refine va_get (ci := 9) (v := .ref (ad Γ 800)) (C := RX9) (T := TX9) (N := 8) hx hb htw uwX9 hown hE.1 (hw _ _ (wf_901 hE)) 0 rfl rfl 0 (by decide) (htw _ mw433) (fun _ h9 => h9) rfl dX9_state_11 ?_
    refine lv_iconst (v := 1) hx hb dX9_state_14 (by decide) ?_
    refine lv_iload_n hx hb dX9_state_15 rfl (lv_at hl 3 rfl) ?_
    obtain ⟨z7, hz7, hf⟩ := bd hf
    refine cl_Vs (rest := []) (kgX8_rowsAt (l := l) (Γ := Γ) (A := A) (G := g) (o := 800) (wf_800 hE) hz7) ⟨hx, hb, hml, hown, htw⟩ hE hw hS (hw _ _ (wf_800 hE)) (q0 := 0) rfl rfl mw658 mw659 mw660 mw119 mw661 pdX8_rowsAt ⟨Nat.le_of_ble_eq_true rfl, Nat.le_of_ble_eq_true rfl⟩ rfl rfl hl.1 (Nat.le_of_ble_eq_true rfl) dX9_state_16 (fun H locs hw hS => ?_)
    cases z7 with
    | none =>
      have hf := oc_none hf
      refine lv_astoreN (lv' := [(6, .null), (5, .ref (ad Γ h2)), (0, .ref (ad Γ 901)), (1, .int v1), (2, .int v2), (3, .int v3), (4, .int v4)]) hx hb dX9_state_19 hl (by decide) rfl (fun ls hl => ?_)
      refine lv_aload hx hb dX9_state_21 (lv_at hl 1 rfl) ?_
      refine lv_ifnull hx hb dX9_state_23 ?_
      refine lv_aloadN hx hb dX9_state_26 (lv_at hl 0 rfl) ?_
      refine lv_ifnullN (tgt := 44) hx hb dX9_state_28 (by decide) ?_
      refine lv_bipush (v := (-2)) hx hb dX9_state_44 (by decide) ?_
      obtain rfl := Option.some.inj hf
      subst hq
      exact rt_i C hw hS dX9_state_46
    | some h8 =>
      have hf := oc_some hf
      obtain ⟨g9, hf⟩ := gd_some hf
      refine lv_astore (lv' := [(6, .ref (ad Γ h8)), (5, .ref (ad Γ h2)), (0, .ref (ad Γ 901)), (1, .int v1), (2, .int v2), (3, .int v3), (4, .int v4)]) hx hb dX9_state_19 hl (by decide) rfl (fun ls hl => ?_)
      refine lv_aload hx hb dX9_state_21 (lv_at hl 1 rfl) ?_
      refine lv_ifnull hx hb dX9_state_23 ?_
      refine lv_aload hx hb dX9_state_26 (lv_at hl 0 rfl) ?_
      refine lv_ifnull hx hb dX9_state_28 ?_
      refine lv_iload_n hx hb dX9_state_31 rfl (lv_at hl 5 rfl) ?_
      refine lv_if_lt (tgt := 44) hx hb dX9_state_32 (by decide) (fun c14 => ?_) (fun c14 => ?_)
      · have hf := ifp c14 hf
        refine lv_bipush (v := (-2)) hx hb dX9_state_44 (by decide) ?_
        obtain rfl := Option.some.inj hf
        subst hq
        exact rt_i C hw hS dX9_state_46
      · have hf := ifn c14 hf
        refine lv_iload_n hx hb dX9_state_35 rfl (lv_at hl 5 rfl) ?_
        refine lv_aload hx hb dX9_state_36 (lv_at hl 0 rfl) ?_
        refine va_get (ci := 5) (v := .int (gi (g h8) 2)) (C := RX5) (T := TX5) (N := 3) hx hb htw uwX5 hown hE.1 (hw _ _ (rw_kd hE g9)) 0 rfl rfl 2 (by decide) (htw _ mw233) (fun _ h9 => h9) rfl dX9_state_38 ?_
        refine lv_icmp_le (tgt := 47) hx hb dX9_state_41 (by decide) (fun c13 => ?_) (fun c13 => ?_)
        · have hf := ifp c13 hf
          refine lv_aload_n hx hb dX9_state_47 rfl (lv_at hl 2 rfl) ?_
          refine va_get (ci := 9) (v := .ref (ad Γ 1)) (C := RX9) (T := TX9) (N := 8) hx hb htw uwX9 hown hE.1 (hw _ _ (wf_901 hE)) 0 rfl rfl 3 (by decide) (htw _ mw436) (fun _ h9 => h9) rfl dX9_state_48 ?_
          refine lv_aload hx hb dX9_state_51 (lv_at hl 1 rfl) ?_
          refine lv_aload hx hb dX9_state_53 (lv_at hl 0 rfl) ?_
          refine lv_iload_n hx hb dX9_state_55 rfl (lv_at hl 5 rfl) ?_
          obtain ⟨z10, hz10, hf⟩ := bd hf
          refine cl_Vs (rest := []) (kX0_follow (l := l) (Γ := Γ) (A := A) (hm_kd hE g6) (rw_kd hE g9) hz10) ⟨hx, hb, hml, hown, htw⟩ hE hw hS (hw _ _ (wf_1 hE)) (q0 := 0) rfl rfl mw739 mw740 mw741 mw124 mw742 pdX0_follow ⟨Nat.le_of_ble_eq_true rfl, Nat.le_of_ble_eq_true rfl⟩ rfl rfl hl.1 (Nat.le_of_ble_eq_true rfl) dX9_state_56 (fun H locs hw hS => ?_)
          refine lv_iload_n hx hb dX9_state_59 rfl (lv_at hl 5 rfl) ?_
          refine lv_icmp_ne (tgt := 75) hx hb dX9_state_60 (by decide) (fun c12 => ?_) (fun c12 => ?_)
          · have hf := ifn c12 hf
            refine lv_bipush (v := (-2)) hx hb dX9_state_75 (by decide) ?_
            obtain rfl := Option.some.inj hf
            subst hq
            exact rt_i C hw hS dX9_state_77
          · have hf := ifp c12 hf
            refine lv_aload_n hx hb dX9_state_63 rfl (lv_at hl 2 rfl) ?_
            refine va_get (ci := 9) (v := .ref (ad Γ 1)) (C := RX9) (T := TX9) (N := 8) hx hb htw uwX9 hown hE.1 (hw _ _ (wf_901 hE)) 0 rfl rfl 3 (by decide) (htw _ mw436) (fun _ h9 => h9) rfl dX9_state_64 ?_
            refine lv_iload hx hb dX9_state_67 (lv_at hl 6 rfl) ?_
            obtain ⟨z11, hz11, hf⟩ := bd hf
            refine cl_Vs (rest := []) (kX0_look (l := l) (Γ := Γ) (A := A) hz11) ⟨hx, hb, hml, hown, htw⟩ hE hw hS (hw _ _ (wf_1 hE)) (q0 := 0) rfl rfl mw812 mw813 mw814 mw124 mw815 pdX0_look ⟨Nat.le_of_ble_eq_true rfl, Nat.le_of_ble_eq_true rfl⟩ rfl rfl hl.1 (Nat.le_of_ble_eq_true rfl) dX9_state_69 (fun H locs hw hS => ?_)
            refine lv_goto (tgt := 77) hx hb dX9_state_72 (by decide) ?_
            obtain rfl := Option.some.inj hf
            subst hq
            exact rt_i C hw hS dX9_state_77
        · have hf := ifn c13 hf
          refine lv_bipush (v := (-2)) hx hb dX9_state_44 (by decide) ?_
          obtain rfl := Option.some.inj hf
          subst hq
          exact rt_i C hw hS dX9_state_46

theorem kX9_state {l : Launch} {Γ : Gm} {A : Nat → Prop} {g : Gs} {v1 : Int32} {v2 : Int32} {v3 : Int32} {v4 : Int32} {fin : Gs × Int32} (hf : fX9_state g v1 v2 v3 v4 = some fin) : Kt l yX9_state cX9_state 7 (some .int) 5 116 Γ A g fin.1 [.ref (ad Γ 901), .int v1, .int v2, .int v3, .int v4] (some (.int fin.2)) :=
  kt_of (by decide) (Nat.le_of_ble_eq_true rfl) (fun p e s m args below meth c C => wX9_state_e C hf rfl)
noncomputable def fX9_rowNumber (g : Gs) (w0 : Option Nat) (v1 : Int32) (v2 : Int32) (v3 : Int32) : Option Int32 :=
  oc w0 (some ((-2))) (fun u0 => if v1 = (-1) then if v2 = 0 then some (gi (g u0) 2) else some ((-2)) else (fX5_hasRow (g u0) v1).bind fun z1 => if z1 = 0 then some ((-2)) else if v2 < 0 then some ((-2)) else if v2 < v3 then (fX5_cell (g u0) v1 (v2 + 1)).bind fun z2 => some (z2) else some ((-2)))
set_option maxRecDepth 100000 in
set_option maxHeartbeats 4000000 in
theorem wX9_rowNumber_e {p : Program} {l : Launch} {e : Env} {s : State} {m : MethodId} {args : Array Value} {below : List Frame} {meth : Method} {c : Code} {Γ : Gm} {A : Nat → Prop} {g : Gs} {w0 : Option Nat} {v1 : Int32} {v2 : Int32} {v3 : Int32} {q : Int32} {fin : Int32} (C : Cx p s m args meth c yX9_rowNumber cX9_rowNumber 4 (some .int) Γ A) (hw0 : ∀ h, w0 = some h → kd Γ h = some 5) (hf : fX9_rowNumber g w0 v1 v2 v3 = some q) (hq : (fun x => x = fin) q) : Wk p l e { frames := 2, cells := 0, slots := 0, locals := 43 } s m args below meth c Γ A g (some (.int fin)) 0 4 [(0, va_rf (w0.map (ad Γ))), (1, .int v1), (2, .int v2), (3, .int v3)] [] g := by
  intro H locs ls hw hS hl
  unfold fX9_rowNumber at hf
  obtain ⟨hx, hb, hml, hr, hown, htw, hlocks, hE⟩ := id C
  have hown : s.vm.findClass RX9 = some m.cls := hown
  cases w0 with
  | none =>
    have hf := oc_none hf
    refine lv_aload_nN hx hb dX9_rowNumber_0 rfl (lv_at hl 0 rfl) ?_
    refine lv_ifnonnullN hx hb dX9_rowNumber_1 ?_
    refine lv_bipush (v := (-2)) hx hb dX9_rowNumber_4 (by decide) ?_
    obtain rfl := Option.some.inj hf
    subst hq
    exact rt_i C hw hS dX9_rowNumber_6
  | some u0 =>
    have hf := oc_some hf
    have ku0 := hw0 _ rfl
    refine lv_aload_n hx hb dX9_rowNumber_0 rfl (lv_at hl 0 rfl) ?_
    refine lv_ifnonnull (tgt := 7) hx hb dX9_rowNumber_1 (by decide) ?_
    refine lv_iload_n hx hb dX9_rowNumber_7 rfl (lv_at hl 1 rfl) ?_
    refine lv_iconst (v := (-1)) hx hb dX9_rowNumber_8 (by decide) ?_
    refine lv_icmp_ne (tgt := 26) hx hb dX9_rowNumber_9 (by decide) (fun c7 => ?_) (fun c7 => ?_)
    · have hf := ifn c7 hf
      refine lv_aload_n hx hb dX9_rowNumber_26 rfl (lv_at hl 0 rfl) ?_
      refine lv_iload_n hx hb dX9_rowNumber_27 rfl (lv_at hl 1 rfl) ?_
      obtain ⟨z1, hz1, hf⟩ := bd hf
      refine cl_Vs (rest := []) (kgX5_hasRow (l := l) (Γ := Γ) (A := A) (G := g) (o := u0) ku0 hz1) ⟨hx, hb, hml, hown, htw⟩ hE hw hS (hw _ _ ku0) (q0 := 0) rfl rfl mw726 mw727 mw728 mw121 mw729 pdX5_hasRow ⟨Nat.le_of_ble_eq_true rfl, Nat.le_of_ble_eq_true rfl⟩ rfl rfl hl.1 (Nat.le_of_ble_eq_true rfl) dX9_rowNumber_28 (fun H locs hw hS => ?_)
      refine lv_if_eq (tgt := 43) hx hb dX9_rowNumber_31 (by decide) (fun c5 => ?_) (fun c5 => ?_)
      · have hf := ifp c5 hf
        refine lv_bipush (v := (-2)) hx hb dX9_rowNumber_43 (by decide) ?_
        obtain rfl := Option.some.inj hf
        subst hq
        exact rt_i C hw hS dX9_rowNumber_45
      · have hf := ifn c5 hf
        refine lv_iload_n hx hb dX9_rowNumber_34 rfl (lv_at hl 2 rfl) ?_
        refine lv_if_lt (tgt := 43) hx hb dX9_rowNumber_35 (by decide) (fun c4 => ?_) (fun c4 => ?_)
        · have hf := ifp c4 hf
          refine lv_bipush (v := (-2)) hx hb dX9_rowNumber_43 (by decide) ?_
          obtain rfl := Option.some.inj hf
          subst hq
          exact rt_i C hw hS dX9_rowNumber_45
        · have hf := ifn c4 hf
          refine lv_iload_n hx hb dX9_rowNumber_38 rfl (lv_at hl 2 rfl) ?_
          refine lv_iload_n hx hb dX9_rowNumber_39 rfl (lv_at hl 3 rfl) ?_
          refine lv_icmp_lt (tgt := 46) hx hb dX9_rowNumber_40 (by decide) (fun c3 => ?_) (fun c3 => ?_)
          · have hf := ifp c3 hf
            refine lv_aload_n hx hb dX9_rowNumber_46 rfl (lv_at hl 0 rfl) ?_
            refine lv_iload_n hx hb dX9_rowNumber_47 rfl (lv_at hl 1 rfl) ?_
            refine lv_iload_n hx hb dX9_rowNumber_48 rfl (lv_at hl 2 rfl) ?_
            refine lv_iconst (v := 1) hx hb dX9_rowNumber_49 (by decide) ?_
            refine lv_iadd hx hb dX9_rowNumber_50 ?_
            obtain ⟨z2, hz2, hf⟩ := bd hf
            refine cl_Vs (rest := []) (kgX5_cell (l := l) (Γ := Γ) (A := A) (G := g) (o := u0) ku0 hz2) ⟨hx, hb, hml, hown, htw⟩ hE hw hS (hw _ _ ku0) (q0 := 0) rfl rfl mw730 mw731 mw732 mw121 mw733 pdX5_cell ⟨Nat.le_of_ble_eq_true rfl, Nat.le_of_ble_eq_true rfl⟩ rfl rfl hl.1 (Nat.le_of_ble_eq_true rfl) dX9_rowNumber_51 (fun H locs hw hS => ?_)
            obtain rfl := Option.some.inj hf
            subst hq
            exact rt_i C hw hS dX9_rowNumber_54
          · have hf := ifn c3 hf
            refine lv_bipush (v := (-2)) hx hb dX9_rowNumber_43 (by decide) ?_
            obtain rfl := Option.some.inj hf
            subst hq
            exact rt_i C hw hS dX9_rowNumber_45
    · have hf := ifp c7 hf
      refine lv_iload_n hx hb dX9_rowNumber_12 rfl (lv_at hl 2 rfl) ?_
      refine lv_if_ne (tgt := 23) hx hb dX9_rowNumber_13 (by decide) (fun c6 => ?_) (fun c6 => ?_)
      · have hf := ifn c6 hf
        refine lv_bipush (v := (-2)) hx hb dX9_rowNumber_23 (by decide) ?_
        obtain rfl := Option.some.inj hf
        subst hq
        exact rt_i C hw hS dX9_rowNumber_25
      · have hf := ifp c6 hf
        refine lv_aload_n hx hb dX9_rowNumber_16 rfl (lv_at hl 0 rfl) ?_
        refine va_get (ci := 5) (v := .int (gi (g u0) 2)) (C := RX5) (T := TX5) (N := 3) hx hb htw uwX5 hown hE.1 (hw _ _ ku0) 0 rfl rfl 2 (by decide) (htw _ mw233) (fun _ h9 => h9) rfl dX9_rowNumber_17 ?_
        refine lv_goto (tgt := 25) hx hb dX9_rowNumber_20 (by decide) ?_
        obtain rfl := Option.some.inj hf
        subst hq
        exact rt_i C hw hS dX9_rowNumber_25

theorem kX9_rowNumber {l : Launch} {Γ : Gm} {A : Nat → Prop} {g : Gs} {w0 : Option Nat} {v1 : Int32} {v2 : Int32} {v3 : Int32} {fin : Int32} (hw0 : ∀ h, w0 = some h → kd Γ h = some 5) (hf : fX9_rowNumber g w0 v1 v2 v3 = some fin) : Kt l yX9_rowNumber cX9_rowNumber 4 (some .int) 2 43 Γ A g g [va_rf (w0.map (ad Γ)), .int v1, .int v2, .int v3] (some (.int fin)) := by
  cases w0 with
  | none => exact kt_of (by decide) (Nat.le_of_ble_eq_true rfl) (fun p e s m args below meth c C => wX9_rowNumber_e C hw0 hf rfl)
  | some u => exact kt_of (by decide) (Nat.le_of_ble_eq_true rfl) (fun p e s m args below meth c C => wX9_rowNumber_e C hw0 hf rfl)
noncomputable def fX9_dinner (g : Gs) (v1 : Int32) (v2 : Int32) (v3 : Int32) : Option Int32 :=
  (fX8_rowsAt (g 800) 800 2 v1).bind fun z1 => oc z1 ((fX9_rowNumber g none v2 v3 3).bind fun z3 => some (z3)) (fun h2 => gd (isRw h2) ((fX9_rowNumber g (some h2) v2 v3 3).bind fun z5 => some (z5)))
set_option maxRecDepth 100000 in
set_option maxHeartbeats 4000000 in
theorem wX9_dinner_e {p : Program} {l : Launch} {e : Env} {s : State} {m : MethodId} {args : Array Value} {below : List Frame} {meth : Method} {c : Code} {Γ : Gm} {A : Nat → Prop} {g : Gs} {v1 : Int32} {v2 : Int32} {v3 : Int32} {q : Int32} {fin : Int32} (C : Cx p s m args meth c yX9_dinner cX9_dinner 4 (some .int) Γ A) (hf : fX9_dinner g v1 v2 v3 = some q) (hq : (fun x => x = fin) q) : Wk p l e { frames := 3, cells := 0, slots := 0, locals := 66 } s m args below meth c Γ A g (some (.int fin)) 0 4 [(0, .ref (ad Γ 901)), (1, .int v1), (2, .int v2), (3, .int v3)] [] g := by
  intro H locs ls hw hS hl
  unfold fX9_dinner at hf
  obtain ⟨hx, hb, hml, hr, hown, htw, hlocks, hE⟩ := id C
  have hown : s.vm.findClass RX9 = some m.cls := hown
  refine lv_aload_n hx hb dX9_dinner_0 rfl (lv_at hl 0 rfl) ?_
  refine va_get (ci := 9) (v := .ref (ad Γ 800)) (C := RX9) (T := TX9) (N := 8) hx hb htw uwX9 hown hE.1 (hw _ _ (wf_901 hE)) 0 rfl rfl 0 (by decide) (htw _ mw433) (fun _ h9 => h9) rfl dX9_dinner_1 ?_
  refine lv_iconst (v := 2) hx hb dX9_dinner_4 (by decide) ?_
  refine lv_iload_n hx hb dX9_dinner_5 rfl (lv_at hl 1 rfl) ?_
  obtain ⟨z1, hz1, hf⟩ := bd hf
  refine cl_Vs (rest := []) (kgX8_rowsAt (l := l) (Γ := Γ) (A := A) (G := g) (o := 800) (wf_800 hE) hz1) ⟨hx, hb, hml, hown, htw⟩ hE hw hS (hw _ _ (wf_800 hE)) (q0 := 0) rfl rfl mw658 mw659 mw660 mw119 mw661 pdX8_rowsAt ⟨Nat.le_of_ble_eq_true rfl, Nat.le_of_ble_eq_true rfl⟩ rfl rfl hl.1 (Nat.le_of_ble_eq_true rfl) dX9_dinner_6 (fun H locs hw hS => ?_)
  cases z1 with
  | none =>
    have hf := oc_none hf
    refine lv_iload_n hx hb dX9_dinner_9 rfl (lv_at hl 2 rfl) ?_
    refine lv_iload_n hx hb dX9_dinner_10 rfl (lv_at hl 3 rfl) ?_
    refine lv_iconst (v := 3) hx hb dX9_dinner_11 (by decide) ?_
    obtain ⟨z3, hz3, hf⟩ := bd hf
    refine cl_Ss (rest := []) (kX9_rowNumber (l := l) (Γ := Γ) (A := A) (fun _ h9 => by cases h9) hz3) ⟨hx, hb, hml, hown, htw⟩ hE hw hS mw824 mw825 mw118 mw826 pdX9_rowNumber ⟨Nat.le_of_ble_eq_true rfl, Nat.le_of_ble_eq_true rfl⟩ rfl rfl hl.1 (Nat.le_of_ble_eq_true rfl) dX9_dinner_12 (fun H locs hw hS => ?_)
    obtain rfl := Option.some.inj hf
    subst hq
    exact rt_i C hw hS dX9_dinner_15
  | some h2 =>
    have hf := oc_some hf
    obtain ⟨g4, hf⟩ := gd_some hf
    refine lv_iload_n hx hb dX9_dinner_9 rfl (lv_at hl 2 rfl) ?_
    refine lv_iload_n hx hb dX9_dinner_10 rfl (lv_at hl 3 rfl) ?_
    refine lv_iconst (v := 3) hx hb dX9_dinner_11 (by decide) ?_
    obtain ⟨z5, hz5, hf⟩ := bd hf
    refine cl_Ss (rest := []) (kX9_rowNumber (l := l) (Γ := Γ) (A := A) (fun _ h9 => by cases h9; exact (rw_kd hE g4)) hz5) ⟨hx, hb, hml, hown, htw⟩ hE hw hS mw824 mw825 mw118 mw826 pdX9_rowNumber ⟨Nat.le_of_ble_eq_true rfl, Nat.le_of_ble_eq_true rfl⟩ rfl rfl hl.1 (Nat.le_of_ble_eq_true rfl) dX9_dinner_12 (fun H locs hw hS => ?_)
    obtain rfl := Option.some.inj hf
    subst hq
    exact rt_i C hw hS dX9_dinner_15

theorem kX9_dinner {l : Launch} {Γ : Gm} {A : Nat → Prop} {g : Gs} {v1 : Int32} {v2 : Int32} {v3 : Int32} {fin : Int32} (hf : fX9_dinner g v1 v2 v3 = some fin) : Kt l yX9_dinner cX9_dinner 4 (some .int) 3 66 Γ A g g [.ref (ad Γ 901), .int v1, .int v2, .int v3] (some (.int fin)) :=
  kt_of (by decide) (Nat.le_of_ble_eq_true rfl) (fun p e s m args below meth c C => wX9_dinner_e C hf rfl)
noncomputable def bX9_served_78 (g : Gs) (v3 : Int32) (v4 : Nat) (v5 : Nat) : Option (Gs × Int32) :=
  (fX6_fewestServing g v4 v5).bind fun z1 => if z1.2 = (-1) then some ((z1.1, z1.2)) else if v3 = (-1) then some ((z1.1, z1.2)) else (fX6_toldAhead z1.1 v4 v5 z1.2 v3).bind fun z2 => some ((z1.1, z2))
set_option maxRecDepth 100000 in
set_option maxHeartbeats 4000000 in
theorem wX9_served_78 {p : Program} {l : Launch} {e : Env} {s : State} {m : MethodId} {args : Array Value} {below : List Frame} {meth : Method} {c : Code} {Γ : Gm} {A : Nat → Prop} {g : Gs} {v3 : Int32} {v4 : Nat} {v5 : Nat} {q : (Gs × Int32)} {fin : Gs × Int32} (C : Cx p s m args meth c yX9_served cX9_served 7 (some .int) Γ A) (hv4 : kd Γ v4 = some 2) (hv5 : kd Γ v5 = some 5) (hf : bX9_served_78 g v3 v4 v5 = some q) (hq : (fun x => x = fin) q) : Wk p l e { frames := 6, cells := 0, slots := 0, locals := 145 } s m args below meth c Γ A fin.1 (some (.int fin.2)) 78 7 [(0, .ref (ad Γ 901)), (3, .int v3), (4, .ref (ad Γ v4)), (5, .ref (ad Γ v5))] [] g := by
  intro H locs ls hw hS hl
  unfold bX9_served_78 at hf
  obtain ⟨hx, hb, hml, hr, hown, htw, hlocks, hE⟩ := id C
  have hown : s.vm.findClass RX9 = some m.cls := hown
  refine lv_aload_n hx hb dX9_served_78 rfl (lv_at hl 0 rfl) ?_
  refine va_get (ci := 9) (v := .ref (ad Γ 601)) (C := RX9) (T := TX9) (N := 8) hx hb htw uwX9 hown hE.1 (hw _ _ (wf_901 hE)) 0 rfl rfl 4 (by decide) (htw _ mw437) (fun _ h9 => h9) rfl dX9_served_79 ?_
  refine lv_aload hx hb dX9_served_82 (lv_at hl 2 rfl) ?_
  refine lv_aload hx hb dX9_served_84 (lv_at hl 3 rfl) ?_
  obtain ⟨z1, hz1, hf⟩ := bd hf
  refine cl_Vs (rest := []) (kX6_fewestServing (l := l) (Γ := Γ) (A := A) hv4 hv5 hz1) ⟨hx, hb, hml, hown, htw⟩ hE hw hS (hw _ _ (wf_601 hE)) (q0 := 0) rfl rfl mw861 mw862 mw863 mw125 mw864 pdX6_fewestServing ⟨Nat.le_of_ble_eq_true rfl, Nat.le_of_ble_eq_true rfl⟩ rfl rfl hl.1 (Nat.le_of_ble_eq_true rfl) dX9_served_86 (fun H locs hw hS => ?_)
  refine lv_istore (lv' := [(6, .int z1.2), (0, .ref (ad Γ 901)), (3, .int v3), (4, .ref (ad Γ v4)), (5, .ref (ad Γ v5))]) hx hb dX9_served_89 hl (by decide) rfl (fun ls hl => ?_)
  refine lv_iload hx hb dX9_served_91 (lv_at hl 0 rfl) ?_
  refine lv_iconst (v := (-1)) hx hb dX9_served_93 (by decide) ?_
  refine lv_icmp_eq (tgt := 102) hx hb dX9_served_94 (by decide) (fun c4 => ?_) (fun c4 => ?_)
  · have hf := ifp c4 hf
    refine lv_iload hx hb dX9_served_102 (lv_at hl 0 rfl) ?_
    obtain rfl := Option.some.inj hf
    subst hq
    exact rt_i C hw hS dX9_served_104
  · have hf := ifn c4 hf
    refine lv_iload_n hx hb dX9_served_97 rfl (lv_at hl 2 rfl) ?_
    refine lv_iconst (v := (-1)) hx hb dX9_served_98 (by decide) ?_
    refine lv_icmp_ne (tgt := 105) hx hb dX9_served_99 (by decide) (fun c3 => ?_) (fun c3 => ?_)
    · have hf := ifn c3 hf
      refine lv_aload_n hx hb dX9_served_105 rfl (lv_at hl 1 rfl) ?_
      refine va_get (ci := 9) (v := .ref (ad Γ 601)) (C := RX9) (T := TX9) (N := 8) hx hb htw uwX9 hown hE.1 (hw _ _ (wf_901 hE)) 0 rfl rfl 4 (by decide) (htw _ mw437) (fun _ h9 => h9) rfl dX9_served_106 ?_
      refine lv_aload hx hb dX9_served_109 (lv_at hl 3 rfl) ?_
      refine lv_aload hx hb dX9_served_111 (lv_at hl 4 rfl) ?_
      refine lv_iload hx hb dX9_served_113 (lv_at hl 0 rfl) ?_
      refine lv_iload_n hx hb dX9_served_115 rfl (lv_at hl 2 rfl) ?_
      obtain ⟨z2, hz2, hf⟩ := bd hf
      refine cl_Vs (rest := []) (kX6_toldAhead (l := l) (Γ := Γ) (A := A) hv4 hv5 hz2) ⟨hx, hb, hml, hown, htw⟩ hE hw hS (hw _ _ (wf_601 hE)) (q0 := 0) rfl rfl mw876 mw877 mw878 mw125 mw879 pdX6_toldAhead ⟨Nat.le_of_ble_eq_true rfl, Nat.le_of_ble_eq_true rfl⟩ rfl rfl hl.1 (Nat.le_of_ble_eq_true rfl) dX9_served_116 (fun H locs hw hS => ?_)
      obtain rfl := Option.some.inj hf
      subst hq
      exact rt_i C hw hS dX9_served_119
    · have hf := ifp c3 hf
      refine lv_iload hx hb dX9_served_102 (lv_at hl 0 rfl) ?_
      obtain rfl := Option.some.inj hf
      subst hq
      exact rt_i C hw hS dX9_served_104

noncomputable def fX9_served (g : Gs) (v1 : Int32) (v2 : Int32) (v3 : Int32) : Option (Gs × Int32) :=
  (fX8_houseAt (g 800) 800 v1).bind fun z5 => oc z5 ((fX8_rowsAt (g 800) 800 2 v2).bind fun z7 => oc z7 (some ((g, (-1)))) (fun h8 => gd (isRw h8) (some ((g, (-1)))))) (fun h6 => gd (isHm h6) ((fX8_rowsAt (g 800) 800 2 v2).bind fun z11 => oc z11 (some ((g, (-1)))) (fun h12 => gd (isRw h12) ((fX2_hasPieces g h6 h12 2).bind fun z14 => if z14 = 0 then some ((g, (-1))) else if v3 = (-2) then (fX6_longestServed g h6 h12).bind fun z18 => some ((z18.1, z18.2)) else if v3 = (-1) then bX9_served_78 g v3 h6 h12 else (fX5_hasRow (g h12) v3).bind fun z15 => if z15 = 0 then some ((g, (-1))) else bX9_served_78 g v3 h6 h12))))
set_option maxRecDepth 100000 in
set_option maxHeartbeats 4000000 in
theorem wX9_served_e {p : Program} {l : Launch} {e : Env} {s : State} {m : MethodId} {args : Array Value} {below : List Frame} {meth : Method} {c : Code} {Γ : Gm} {A : Nat → Prop} {g : Gs} {v1 : Int32} {v2 : Int32} {v3 : Int32} {q : (Gs × Int32)} {fin : Gs × Int32} (C : Cx p s m args meth c yX9_served cX9_served 7 (some .int) Γ A) (hf : fX9_served g v1 v2 v3 = some q) (hq : (fun x => x = fin) q) : Wk p l e { frames := 6, cells := 0, slots := 0, locals := 145 } s m args below meth c Γ A fin.1 (some (.int fin.2)) 0 7 [(0, .ref (ad Γ 901)), (1, .int v1), (2, .int v2), (3, .int v3)] [] g := by
  intro H locs ls hw hS hl
  unfold fX9_served at hf
  obtain ⟨hx, hb, hml, hr, hown, htw, hlocks, hE⟩ := id C
  have hown : s.vm.findClass RX9 = some m.cls := hown
  refine lv_aload_n hx hb dX9_served_0 rfl (lv_at hl 0 rfl) ?_
  refine va_get (ci := 9) (v := .ref (ad Γ 800)) (C := RX9) (T := TX9) (N := 8) hx hb htw uwX9 hown hE.1 (hw _ _ (wf_901 hE)) 0 rfl rfl 0 (by decide) (htw _ mw433) (fun _ h9 => h9) rfl dX9_served_1 ?_
  refine lv_iload_n hx hb dX9_served_4 rfl (lv_at hl 1 rfl) ?_
  obtain ⟨z5, hz5, hf⟩ := bd hf
  refine cl_Vs (rest := []) (kgX8_houseAt (l := l) (Γ := Γ) (A := A) (G := g) (o := 800) (wf_800 hE) hz5) ⟨hx, hb, hml, hown, htw⟩ hE hw hS (hw _ _ (wf_800 hE)) (q0 := 0) rfl rfl mw629 mw630 mw631 mw119 mw632 pdX8_houseAt ⟨Nat.le_of_ble_eq_true rfl, Nat.le_of_ble_eq_true rfl⟩ rfl rfl hl.1 (Nat.le_of_ble_eq_true rfl) dX9_served_5 (fun H locs hw hS => ?_)
  cases z5 with
  | none =>
    have hf := oc_none hf
    refine lv_astoreN (lv' := [(4, .null), (0, .ref (ad Γ 901)), (1, .int v1), (2, .int v2), (3, .int v3)]) hx hb dX9_served_8 hl (by decide) rfl (fun ls hl => ?_)
    refine lv_aload_n hx hb dX9_served_10 rfl (lv_at hl 1 rfl) ?_
    refine va_get (ci := 9) (v := .ref (ad Γ 800)) (C := RX9) (T := TX9) (N := 8) hx hb htw uwX9 hown hE.1 (hw _ _ (wf_901 hE)) 0 rfl rfl 0 (by decide) (htw _ mw433) (fun _ h9 => h9) rfl dX9_served_11 ?_
    refine lv_iconst (v := 2) hx hb dX9_served_14 (by decide) ?_
    refine lv_iload_n hx hb dX9_served_15 rfl (lv_at hl 3 rfl) ?_
    obtain ⟨z7, hz7, hf⟩ := bd hf
    refine cl_Vs (rest := []) (kgX8_rowsAt (l := l) (Γ := Γ) (A := A) (G := g) (o := 800) (wf_800 hE) hz7) ⟨hx, hb, hml, hown, htw⟩ hE hw hS (hw _ _ (wf_800 hE)) (q0 := 0) rfl rfl mw658 mw659 mw660 mw119 mw661 pdX8_rowsAt ⟨Nat.le_of_ble_eq_true rfl, Nat.le_of_ble_eq_true rfl⟩ rfl rfl hl.1 (Nat.le_of_ble_eq_true rfl) dX9_served_16 (fun H locs hw hS => ?_)
    cases z7 with
    | none =>
      have hf := oc_none hf
      refine lv_astoreN (lv' := [(5, .null), (4, .null), (0, .ref (ad Γ 901)), (1, .int v1), (2, .int v2), (3, .int v3)]) hx hb dX9_served_19 hl (by decide) rfl (fun ls hl => ?_)
      refine lv_aloadN hx hb dX9_served_21 (lv_at hl 1 rfl) ?_
      refine lv_ifnullN (tgt := 42) hx hb dX9_served_23 (by decide) ?_
      refine lv_iconst (v := (-1)) hx hb dX9_served_42 (by decide) ?_
      obtain rfl := Option.some.inj hf
      subst hq
      exact rt_i C hw hS dX9_served_43
    | some h8 =>
      have hf := oc_some hf
      obtain ⟨g9, hf⟩ := gd_some hf
      refine lv_astore (lv' := [(5, .ref (ad Γ h8)), (4, .null), (0, .ref (ad Γ 901)), (1, .int v1), (2, .int v2), (3, .int v3)]) hx hb dX9_served_19 hl (by decide) rfl (fun ls hl => ?_)
      refine lv_aloadN hx hb dX9_served_21 (lv_at hl 1 rfl) ?_
      refine lv_ifnullN (tgt := 42) hx hb dX9_served_23 (by decide) ?_
      refine lv_iconst (v := (-1)) hx hb dX9_served_42 (by decide) ?_
      obtain rfl := Option.some.inj hf
      subst hq
      exact rt_i C hw hS dX9_served_43
  | some h6 =>
    have hf := oc_some hf
    obtain ⟨g10, hf⟩ := gd_some hf
    refine lv_astore (lv' := [(4, .ref (ad Γ h6)), (0, .ref (ad Γ 901)), (1, .int v1), (2, .int v2), (3, .int v3)]) hx hb dX9_served_8 hl (by decide) rfl (fun ls hl => ?_)
    refine lv_aload_n hx hb dX9_served_10 rfl (lv_at hl 1 rfl) ?_
    refine va_get (ci := 9) (v := .ref (ad Γ 800)) (C := RX9) (T := TX9) (N := 8) hx hb htw uwX9 hown hE.1 (hw _ _ (wf_901 hE)) 0 rfl rfl 0 (by decide) (htw _ mw433) (fun _ h9 => h9) rfl dX9_served_11 ?_
    refine lv_iconst (v := 2) hx hb dX9_served_14 (by decide) ?_
    refine lv_iload_n hx hb dX9_served_15 rfl (lv_at hl 3 rfl) ?_
    obtain ⟨z11, hz11, hf⟩ := bd hf
    refine cl_Vs (rest := []) (kgX8_rowsAt (l := l) (Γ := Γ) (A := A) (G := g) (o := 800) (wf_800 hE) hz11) ⟨hx, hb, hml, hown, htw⟩ hE hw hS (hw _ _ (wf_800 hE)) (q0 := 0) rfl rfl mw658 mw659 mw660 mw119 mw661 pdX8_rowsAt ⟨Nat.le_of_ble_eq_true rfl, Nat.le_of_ble_eq_true rfl⟩ rfl rfl hl.1 (Nat.le_of_ble_eq_true rfl) dX9_served_16 (fun H locs hw hS => ?_)
    cases z11 with
    | none =>
      have hf := oc_none hf
      refine lv_astoreN (lv' := [(5, .null), (4, .ref (ad Γ h6)), (0, .ref (ad Γ 901)), (1, .int v1), (2, .int v2), (3, .int v3)]) hx hb dX9_served_19 hl (by decide) rfl (fun ls hl => ?_)
      refine lv_aload hx hb dX9_served_21 (lv_at hl 1 rfl) ?_
      refine lv_ifnull hx hb dX9_served_23 ?_
      refine lv_aloadN hx hb dX9_served_26 (lv_at hl 0 rfl) ?_
      refine lv_ifnullN (tgt := 42) hx hb dX9_served_28 (by decide) ?_
      refine lv_iconst (v := (-1)) hx hb dX9_served_42 (by decide) ?_
      obtain rfl := Option.some.inj hf
      subst hq
      exact rt_i C hw hS dX9_served_43
    | some h12 =>
      have hf := oc_some hf
      obtain ⟨g13, hf⟩ := gd_some hf
      refine lv_astore (lv' := [(5, .ref (ad Γ h12)), (4, .ref (ad Γ h6)), (0, .ref (ad Γ 901)), (1, .int v1), (2, .int v2), (3, .int v3)]) hx hb dX9_served_19 hl (by decide) rfl (fun ls hl => ?_)
      refine lv_aload hx hb dX9_served_21 (lv_at hl 1 rfl) ?_
      refine lv_ifnull hx hb dX9_served_23 ?_
      refine lv_aload hx hb dX9_served_26 (lv_at hl 0 rfl) ?_
      refine lv_ifnull hx hb dX9_served_28 ?_
      refine lv_aload hx hb dX9_served_31 (lv_at hl 1 rfl) ?_
      refine lv_aload hx hb dX9_served_33 (lv_at hl 0 rfl) ?_
      refine lv_iconst (v := 2) hx hb dX9_served_35 (by decide) ?_
      obtain ⟨z14, hz14, hf⟩ := bd hf
      refine cl_Vs (rest := []) (kX2_hasPieces (l := l) (Γ := Γ) (A := A) (hm_kd hE g10) (rw_kd hE g13) hz14) ⟨hx, hb, hml, hown, htw⟩ hE hw hS (hw _ _ (hm_kd hE g10)) (q0 := 0) rfl rfl mw831 mw832 mw833 mw120 mw834 pdX2_hasPieces ⟨Nat.le_of_ble_eq_true rfl, Nat.le_of_ble_eq_true rfl⟩ rfl rfl hl.1 (Nat.le_of_ble_eq_true rfl) dX9_served_36 (fun H locs hw hS => ?_)
      refine lv_if_ne (tgt := 44) hx hb dX9_served_39 (by decide) (fun c20 => ?_) (fun c20 => ?_)
      · have hf := ifn c20 hf
        refine lv_iload_n hx hb dX9_served_44 rfl (lv_at hl 5 rfl) ?_
        refine lv_bipush (v := (-2)) hx hb dX9_served_45 (by decide) ?_
        refine lv_icmp_ne (tgt := 62) hx hb dX9_served_47 (by decide) (fun c19 => ?_) (fun c19 => ?_)
        · have hf := ifn c19 hf
          refine lv_iload_n hx hb dX9_served_62 rfl (lv_at hl 5 rfl) ?_
          refine lv_iconst (v := (-1)) hx hb dX9_served_63 (by decide) ?_
          refine lv_icmp_eq (tgt := 78) hx hb dX9_served_64 (by decide) (fun c17 => ?_) (fun c17 => ?_)
          · have hf := ifp c17 hf
            exact wX9_served_78 C (hm_kd hE g10) (rw_kd hE g13) hf hq H locs ls hw hS (lv_sub hl [2, 5, 1, 0] rfl)
          · have hf := ifn c17 hf
            refine lv_aload hx hb dX9_served_67 (lv_at hl 0 rfl) ?_
            refine lv_iload_n hx hb dX9_served_69 rfl (lv_at hl 5 rfl) ?_
            obtain ⟨z15, hz15, hf⟩ := bd hf
            refine cl_Vs (rest := []) (kgX5_hasRow (l := l) (Γ := Γ) (A := A) (G := g) (o := h12) (rw_kd hE g13) hz15) ⟨hx, hb, hml, hown, htw⟩ hE hw hS (hw _ _ (rw_kd hE g13)) (q0 := 0) rfl rfl mw726 mw727 mw728 mw121 mw729 pdX5_hasRow ⟨Nat.le_of_ble_eq_true rfl, Nat.le_of_ble_eq_true rfl⟩ rfl rfl hl.1 (Nat.le_of_ble_eq_true rfl) dX9_served_70 (fun H locs hw hS => ?_)
            refine lv_if_ne (tgt := 78) hx hb dX9_served_73 (by decide) (fun c16 => ?_) (fun c16 => ?_)
            · have hf := ifn c16 hf
              exact wX9_served_78 C (hm_kd hE g10) (rw_kd hE g13) hf hq H locs ls hw hS (lv_sub hl [2, 5, 1, 0] rfl)
            · have hf := ifp c16 hf
              refine lv_iconst (v := (-1)) hx hb dX9_served_76 (by decide) ?_
              obtain rfl := Option.some.inj hf
              subst hq
              exact rt_i C hw hS dX9_served_77
        · have hf := ifp c19 hf
          refine lv_aload_n hx hb dX9_served_50 rfl (lv_at hl 2 rfl) ?_
          refine va_get (ci := 9) (v := .ref (ad Γ 601)) (C := RX9) (T := TX9) (N := 8) hx hb htw uwX9 hown hE.1 (hw _ _ (wf_901 hE)) 0 rfl rfl 4 (by decide) (htw _ mw437) (fun _ h9 => h9) rfl dX9_served_51 ?_
          refine lv_aload hx hb dX9_served_54 (lv_at hl 1 rfl) ?_
          refine lv_aload hx hb dX9_served_56 (lv_at hl 0 rfl) ?_
          obtain ⟨z18, hz18, hf⟩ := bd hf
          refine cl_Vs (rest := []) (kX6_longestServed (l := l) (Γ := Γ) (A := A) (hm_kd hE g10) (rw_kd hE g13) hz18) ⟨hx, hb, hml, hown, htw⟩ hE hw hS (hw _ _ (wf_601 hE)) (q0 := 0) rfl rfl mw836 mw837 mw838 mw125 mw839 pdX6_longestServed ⟨Nat.le_of_ble_eq_true rfl, Nat.le_of_ble_eq_true rfl⟩ rfl rfl hl.1 (Nat.le_of_ble_eq_true rfl) dX9_served_58 (fun H locs hw hS => ?_)
          obtain rfl := Option.some.inj hf
          subst hq
          exact rt_i C hw hS dX9_served_61
      · have hf := ifp c20 hf
        refine lv_iconst (v := (-1)) hx hb dX9_served_42 (by decide) ?_
        obtain rfl := Option.some.inj hf
        subst hq
        exact rt_i C hw hS dX9_served_43

theorem kX9_served {l : Launch} {Γ : Gm} {A : Nat → Prop} {g : Gs} {v1 : Int32} {v2 : Int32} {v3 : Int32} {fin : Gs × Int32} (hf : fX9_served g v1 v2 v3 = some fin) : Kt l yX9_served cX9_served 7 (some .int) 6 145 Γ A g fin.1 [.ref (ad Γ 901), .int v1, .int v2, .int v3] (some (.int fin.2)) :=
  kt_of (by decide) (Nat.le_of_ble_eq_true rfl) (fun p e s m args below meth c C => wX9_served_e C hf rfl)
noncomputable def fX9_comes (g : Gs) (v1 : Int32) (v2 : Int32) : Option Int32 :=
  (fX8_houseAt (g 800) 800 v1).bind fun z1 => oc z1 (some ((-1))) (fun h2 => gd (isHm h2) ((fX2_hasSecrets (g h2) v2).bind fun z4 => if z4 = 0 then some ((-1)) else (fX2_closure (g h2) v2 (-1)).bind fun z5 => some (z5)))
set_option maxRecDepth 100000 in
set_option maxHeartbeats 4000000 in
theorem wX9_comes_e {p : Program} {l : Launch} {e : Env} {s : State} {m : MethodId} {args : Array Value} {below : List Frame} {meth : Method} {c : Code} {Γ : Gm} {A : Nat → Prop} {g : Gs} {v1 : Int32} {v2 : Int32} {q : Int32} {fin : Int32} (C : Cx p s m args meth c yX9_comes cX9_comes 4 (some .int) Γ A) (hf : fX9_comes g v1 v2 = some q) (hq : (fun x => x = fin) q) : Wk p l e { frames := 3, cells := 0, slots := 0, locals := 69 } s m args below meth c Γ A g (some (.int fin)) 0 4 [(0, .ref (ad Γ 901)), (1, .int v1), (2, .int v2)] [] g := by
  intro H locs ls hw hS hl
  unfold fX9_comes at hf
  obtain ⟨hx, hb, hml, hr, hown, htw, hlocks, hE⟩ := id C
  have hown : s.vm.findClass RX9 = some m.cls := hown
  refine lv_aload_n hx hb dX9_comes_0 rfl (lv_at hl 0 rfl) ?_
  refine va_get (ci := 9) (v := .ref (ad Γ 800)) (C := RX9) (T := TX9) (N := 8) hx hb htw uwX9 hown hE.1 (hw _ _ (wf_901 hE)) 0 rfl rfl 0 (by decide) (htw _ mw433) (fun _ h9 => h9) rfl dX9_comes_1 ?_
  refine lv_iload_n hx hb dX9_comes_4 rfl (lv_at hl 1 rfl) ?_
  obtain ⟨z1, hz1, hf⟩ := bd hf
  refine cl_Vs (rest := []) (kgX8_houseAt (l := l) (Γ := Γ) (A := A) (G := g) (o := 800) (wf_800 hE) hz1) ⟨hx, hb, hml, hown, htw⟩ hE hw hS (hw _ _ (wf_800 hE)) (q0 := 0) rfl rfl mw629 mw630 mw631 mw119 mw632 pdX8_houseAt ⟨Nat.le_of_ble_eq_true rfl, Nat.le_of_ble_eq_true rfl⟩ rfl rfl hl.1 (Nat.le_of_ble_eq_true rfl) dX9_comes_5 (fun H locs hw hS => ?_)
  cases z1 with
  | none =>
    have hf := oc_none hf
    refine lv_astore_nN (lv' := [(3, .null), (0, .ref (ad Γ 901)), (1, .int v1), (2, .int v2)]) hx hb dX9_comes_8 rfl hl (by decide) rfl (fun ls hl => ?_)
    refine lv_aload_nN hx hb dX9_comes_9 rfl (lv_at hl 0 rfl) ?_
    refine lv_ifnullN (tgt := 21) hx hb dX9_comes_10 (by decide) ?_
    refine lv_iconst (v := (-1)) hx hb dX9_comes_21 (by decide) ?_
    obtain rfl := Option.some.inj hf
    subst hq
    exact rt_i C hw hS dX9_comes_22
  | some h2 =>
    have hf := oc_some hf
    obtain ⟨g3, hf⟩ := gd_some hf
    refine lv_astore_n (lv' := [(3, .ref (ad Γ h2)), (0, .ref (ad Γ 901)), (1, .int v1), (2, .int v2)]) hx hb dX9_comes_8 rfl hl (by decide) rfl (fun ls hl => ?_)
    refine lv_aload_n hx hb dX9_comes_9 rfl (lv_at hl 0 rfl) ?_
    refine lv_ifnull hx hb dX9_comes_10 ?_
    refine lv_aload_n hx hb dX9_comes_13 rfl (lv_at hl 0 rfl) ?_
    refine lv_iload_n hx hb dX9_comes_14 rfl (lv_at hl 3 rfl) ?_
    obtain ⟨z4, hz4, hf⟩ := bd hf
    refine cl_Vs (rest := []) (kgX2_hasSecrets (l := l) (Γ := Γ) (A := A) (G := g) (o := h2) (hm_kd hE g3) hz4) ⟨hx, hb, hml, hown, htw⟩ hE hw hS (hw _ _ (hm_kd hE g3)) (q0 := 0) rfl rfl mw888 mw889 mw890 mw120 mw891 pdX2_hasSecrets ⟨Nat.le_of_ble_eq_true rfl, Nat.le_of_ble_eq_true rfl⟩ rfl rfl hl.1 (Nat.le_of_ble_eq_true rfl) dX9_comes_15 (fun H locs hw hS => ?_)
    refine lv_if_ne (tgt := 23) hx hb dX9_comes_18 (by decide) (fun c6 => ?_) (fun c6 => ?_)
    · have hf := ifn c6 hf
      refine lv_aload_n hx hb dX9_comes_23 rfl (lv_at hl 0 rfl) ?_
      refine lv_iload_n hx hb dX9_comes_24 rfl (lv_at hl 3 rfl) ?_
      refine lv_iconst (v := (-1)) hx hb dX9_comes_25 (by decide) ?_
      obtain ⟨z5, hz5, hf⟩ := bd hf
      refine cl_Vs (rest := []) (kgX2_closure (l := l) (Γ := Γ) (A := A) (G := g) (o := h2) (hm_kd hE g3) hz5) ⟨hx, hb, hml, hown, htw⟩ hE hw hS (hw _ _ (hm_kd hE g3)) (q0 := 0) rfl rfl mw892 mw893 mw894 mw120 mw895 pdX2_closure ⟨Nat.le_of_ble_eq_true rfl, Nat.le_of_ble_eq_true rfl⟩ rfl rfl hl.1 (Nat.le_of_ble_eq_true rfl) dX9_comes_26 (fun H locs hw hS => ?_)
      obtain rfl := Option.some.inj hf
      subst hq
      exact rt_i C hw hS dX9_comes_29
    · have hf := ifp c6 hf
      refine lv_iconst (v := (-1)) hx hb dX9_comes_21 (by decide) ?_
      obtain rfl := Option.some.inj hf
      subst hq
      exact rt_i C hw hS dX9_comes_22

theorem kX9_comes {l : Launch} {Γ : Gm} {A : Nat → Prop} {g : Gs} {v1 : Int32} {v2 : Int32} {fin : Int32} (hf : fX9_comes g v1 v2 = some fin) : Kt l yX9_comes cX9_comes 4 (some .int) 3 69 Γ A g g [.ref (ad Γ 901), .int v1, .int v2] (some (.int fin)) :=
  kt_of (by decide) (Nat.le_of_ble_eq_true rfl) (fun p e s m args below meth c C => wX9_comes_e C hf rfl)
noncomputable def fX9_keep (g : Gs) (v1 : Int32) (v2 : Int32) (v3 : Int32) : Option Int32 :=
  (fX8_houseAt (g 800) 800 v1).bind fun z1 => oc z1 (some ((-1))) (fun h2 => gd (isHm h2) ((fX2_hasSecret (g h2) v2).bind fun z4 => if z4 = 0 then some ((-1)) else if v3 = 0 then (fX2_fewestKept (g h2) v2).bind fun z5 => some (z5) else (fX2_fewestGiving (g h2) v2).bind fun z6 => some (z6)))
set_option maxRecDepth 100000 in
set_option maxHeartbeats 4000000 in
theorem wX9_keep_e {p : Program} {l : Launch} {e : Env} {s : State} {m : MethodId} {args : Array Value} {below : List Frame} {meth : Method} {c : Code} {Γ : Gm} {A : Nat → Prop} {g : Gs} {v1 : Int32} {v2 : Int32} {v3 : Int32} {q : Int32} {fin : Int32} (C : Cx p s m args meth c yX9_keep cX9_keep 5 (some .int) Γ A) (hf : fX9_keep g v1 v2 v3 = some q) (hq : (fun x => x = fin) q) : Wk p l e { frames := 4, cells := 0, slots := 0, locals := 94 } s m args below meth c Γ A g (some (.int fin)) 0 5 [(0, .ref (ad Γ 901)), (1, .int v1), (2, .int v2), (3, .int v3)] [] g := by
  intro H locs ls hw hS hl
  unfold fX9_keep at hf
  obtain ⟨hx, hb, hml, hr, hown, htw, hlocks, hE⟩ := id C
  have hown : s.vm.findClass RX9 = some m.cls := hown
  refine lv_aload_n hx hb dX9_keep_0 rfl (lv_at hl 0 rfl) ?_
  refine va_get (ci := 9) (v := .ref (ad Γ 800)) (C := RX9) (T := TX9) (N := 8) hx hb htw uwX9 hown hE.1 (hw _ _ (wf_901 hE)) 0 rfl rfl 0 (by decide) (htw _ mw433) (fun _ h9 => h9) rfl dX9_keep_1 ?_
  refine lv_iload_n hx hb dX9_keep_4 rfl (lv_at hl 1 rfl) ?_
  obtain ⟨z1, hz1, hf⟩ := bd hf
  refine cl_Vs (rest := []) (kgX8_houseAt (l := l) (Γ := Γ) (A := A) (G := g) (o := 800) (wf_800 hE) hz1) ⟨hx, hb, hml, hown, htw⟩ hE hw hS (hw _ _ (wf_800 hE)) (q0 := 0) rfl rfl mw629 mw630 mw631 mw119 mw632 pdX8_houseAt ⟨Nat.le_of_ble_eq_true rfl, Nat.le_of_ble_eq_true rfl⟩ rfl rfl hl.1 (Nat.le_of_ble_eq_true rfl) dX9_keep_5 (fun H locs hw hS => ?_)
  cases z1 with
  | none =>
    have hf := oc_none hf
    refine lv_astoreN (lv' := [(4, .null), (0, .ref (ad Γ 901)), (1, .int v1), (2, .int v2), (3, .int v3)]) hx hb dX9_keep_8 hl (by decide) rfl (fun ls hl => ?_)
    refine lv_aloadN hx hb dX9_keep_10 (lv_at hl 0 rfl) ?_
    refine lv_ifnullN (tgt := 24) hx hb dX9_keep_12 (by decide) ?_
    refine lv_iconst (v := (-1)) hx hb dX9_keep_24 (by decide) ?_
    obtain rfl := Option.some.inj hf
    subst hq
    exact rt_i C hw hS dX9_keep_25
  | some h2 =>
    have hf := oc_some hf
    obtain ⟨g3, hf⟩ := gd_some hf
    refine lv_astore (lv' := [(4, .ref (ad Γ h2)), (0, .ref (ad Γ 901)), (1, .int v1), (2, .int v2), (3, .int v3)]) hx hb dX9_keep_8 hl (by decide) rfl (fun ls hl => ?_)
    refine lv_aload hx hb dX9_keep_10 (lv_at hl 0 rfl) ?_
    refine lv_ifnull hx hb dX9_keep_12 ?_
    refine lv_aload hx hb dX9_keep_15 (lv_at hl 0 rfl) ?_
    refine lv_iload_n hx hb dX9_keep_17 rfl (lv_at hl 3 rfl) ?_
    obtain ⟨z4, hz4, hf⟩ := bd hf
    refine cl_Vs (rest := []) (kgX2_hasSecret (l := l) (Γ := Γ) (A := A) (G := g) (o := h2) (hm_kd hE g3) hz4) ⟨hx, hb, hml, hown, htw⟩ hE hw hS (hw _ _ (hm_kd hE g3)) (q0 := 0) rfl rfl mw706 mw691 mw692 mw120 mw693 pdX2_hasSecret ⟨Nat.le_of_ble_eq_true rfl, Nat.le_of_ble_eq_true rfl⟩ rfl rfl hl.1 (Nat.le_of_ble_eq_true rfl) dX9_keep_18 (fun H locs hw hS => ?_)
    refine lv_if_ne (tgt := 26) hx hb dX9_keep_21 (by decide) (fun c8 => ?_) (fun c8 => ?_)
    · have hf := ifn c8 hf
      refine lv_iload_n hx hb dX9_keep_26 rfl (lv_at hl 4 rfl) ?_
      refine lv_if_eq (tgt := 39) hx hb dX9_keep_27 (by decide) (fun c7 => ?_) (fun c7 => ?_)
      · have hf := ifp c7 hf
        refine lv_aload hx hb dX9_keep_39 (lv_at hl 0 rfl) ?_
        refine lv_iload_n hx hb dX9_keep_41 rfl (lv_at hl 3 rfl) ?_
        obtain ⟨z5, hz5, hf⟩ := bd hf
        refine cl_Vs (rest := []) (kgX2_fewestKept (l := l) (Γ := Γ) (A := A) (G := g) (o := h2) (hm_kd hE g3) hz5) ⟨hx, hb, hml, hown, htw⟩ hE hw hS (hw _ _ (hm_kd hE g3)) (q0 := 0) rfl rfl mw910 mw911 mw912 mw120 mw913 pdX2_fewestKept ⟨Nat.le_of_ble_eq_true rfl, Nat.le_of_ble_eq_true rfl⟩ rfl rfl hl.1 (Nat.le_of_ble_eq_true rfl) dX9_keep_42 (fun H locs hw hS => ?_)
        obtain rfl := Option.some.inj hf
        subst hq
        exact rt_i C hw hS dX9_keep_45
      · have hf := ifn c7 hf
        refine lv_aload hx hb dX9_keep_30 (lv_at hl 0 rfl) ?_
        refine lv_iload_n hx hb dX9_keep_32 rfl (lv_at hl 3 rfl) ?_
        obtain ⟨z6, hz6, hf⟩ := bd hf
        refine cl_Vs (rest := []) (kgX2_fewestGiving (l := l) (Γ := Γ) (A := A) (G := g) (o := h2) (hm_kd hE g3) hz6) ⟨hx, hb, hml, hown, htw⟩ hE hw hS (hw _ _ (hm_kd hE g3)) (q0 := 0) rfl rfl mw904 mw905 mw906 mw120 mw907 pdX2_fewestGiving ⟨Nat.le_of_ble_eq_true rfl, Nat.le_of_ble_eq_true rfl⟩ rfl rfl hl.1 (Nat.le_of_ble_eq_true rfl) dX9_keep_33 (fun H locs hw hS => ?_)
        refine lv_goto (tgt := 45) hx hb dX9_keep_36 (by decide) ?_
        obtain rfl := Option.some.inj hf
        subst hq
        exact rt_i C hw hS dX9_keep_45
    · have hf := ifp c8 hf
      refine lv_iconst (v := (-1)) hx hb dX9_keep_24 (by decide) ?_
      obtain rfl := Option.some.inj hf
      subst hq
      exact rt_i C hw hS dX9_keep_25

theorem kX9_keep {l : Launch} {Γ : Gm} {A : Nat → Prop} {g : Gs} {v1 : Int32} {v2 : Int32} {v3 : Int32} {fin : Int32} (hf : fX9_keep g v1 v2 v3 = some fin) : Kt l yX9_keep cX9_keep 5 (some .int) 4 94 Γ A g g [.ref (ad Γ 901), .int v1, .int v2, .int v3] (some (.int fin)) :=
  kt_of (by decide) (Nat.le_of_ble_eq_true rfl) (fun p e s m args below meth c C => wX9_keep_e C hf rfl)
noncomputable def fX9_theft (g : Gs) (v1 : Int32) (v2 : Int32) (v3 : Int32) : Option (Gs × Int32) :=
  (fX8_houseAt (g 800) 800 v1).bind fun z1 => oc z1 (some ((g, (-1)))) (fun h2 => gd (isHm h2) (if v2 < 0 then some ((g, (-1))) else if v2 ≤ 8 then (fX7_spoil g h2).bind fun z4 => (fX2_allPieces (z4 h2)).bind fun z5 => (fX7_bestPieces z4 z5 v2).bind fun z6 => if v3 = 0 then (fX7_got z4 z6).bind fun z7 => some ((z4, z7)) else some ((z4, z6)) else some ((g, (-1)))))
set_option maxRecDepth 100000 in
set_option maxHeartbeats 4000000 in
theorem wX9_theft_e {p : Program} {l : Launch} {e : Env} {s : State} {m : MethodId} {args : Array Value} {below : List Frame} {meth : Method} {c : Code} {Γ : Gm} {A : Nat → Prop} {g : Gs} {v1 : Int32} {v2 : Int32} {v3 : Int32} {q : (Gs × Int32)} {fin : Gs × Int32} (C : Cx p s m args meth c yX9_theft cX9_theft 6 (some .int) Γ A) (hf : fX9_theft g v1 v2 v3 = some q) (hq : (fun x => x = fin) q) : Wk p l e { frames := 4, cells := 0, slots := 0, locals := 93 } s m args below meth c Γ A fin.1 (some (.int fin.2)) 0 6 [(0, .ref (ad Γ 901)), (1, .int v1), (2, .int v2), (3, .int v3)] [] g := by
  intro H locs ls hw hS hl
  unfold fX9_theft at hf
  obtain ⟨hx, hb, hml, hr, hown, htw, hlocks, hE⟩ := id C
  have hown : s.vm.findClass RX9 = some m.cls := hown
  refine lv_aload_n hx hb dX9_theft_0 rfl (lv_at hl 0 rfl) ?_
  refine va_get (ci := 9) (v := .ref (ad Γ 800)) (C := RX9) (T := TX9) (N := 8) hx hb htw uwX9 hown hE.1 (hw _ _ (wf_901 hE)) 0 rfl rfl 0 (by decide) (htw _ mw433) (fun _ h9 => h9) rfl dX9_theft_1 ?_
  refine lv_iload_n hx hb dX9_theft_4 rfl (lv_at hl 1 rfl) ?_
  obtain ⟨z1, hz1, hf⟩ := bd hf
  refine cl_Vs (rest := []) (kgX8_houseAt (l := l) (Γ := Γ) (A := A) (G := g) (o := 800) (wf_800 hE) hz1) ⟨hx, hb, hml, hown, htw⟩ hE hw hS (hw _ _ (wf_800 hE)) (q0 := 0) rfl rfl mw629 mw630 mw631 mw119 mw632 pdX8_houseAt ⟨Nat.le_of_ble_eq_true rfl, Nat.le_of_ble_eq_true rfl⟩ rfl rfl hl.1 (Nat.le_of_ble_eq_true rfl) dX9_theft_5 (fun H locs hw hS => ?_)
  cases z1 with
  | none =>
    have hf := oc_none hf
    refine lv_astoreN (lv' := [(4, .null), (0, .ref (ad Γ 901)), (1, .int v1), (2, .int v2), (3, .int v3)]) hx hb dX9_theft_8 hl (by decide) rfl (fun ls hl => ?_)
    refine lv_aloadN hx hb dX9_theft_10 (lv_at hl 0 rfl) ?_
    refine lv_ifnullN (tgt := 25) hx hb dX9_theft_12 (by decide) ?_
    refine lv_iconst (v := (-1)) hx hb dX9_theft_25 (by decide) ?_
    obtain rfl := Option.some.inj hf
    subst hq
    exact rt_i C hw hS dX9_theft_26
  | some h2 =>
    have hf := oc_some hf
    obtain ⟨g3, hf⟩ := gd_some hf
    refine lv_astore (lv' := [(4, .ref (ad Γ h2)), (0, .ref (ad Γ 901)), (1, .int v1), (2, .int v2), (3, .int v3)]) hx hb dX9_theft_8 hl (by decide) rfl (fun ls hl => ?_)
    refine lv_aload hx hb dX9_theft_10 (lv_at hl 0 rfl) ?_
    refine lv_ifnull hx hb dX9_theft_12 ?_
    refine lv_iload_n hx hb dX9_theft_15 rfl (lv_at hl 3 rfl) ?_
    refine lv_if_lt (tgt := 25) hx hb dX9_theft_16 (by decide) (fun c10 => ?_) (fun c10 => ?_)
    · have hf := ifp c10 hf
      refine lv_iconst (v := (-1)) hx hb dX9_theft_25 (by decide) ?_
      obtain rfl := Option.some.inj hf
      subst hq
      exact rt_i C hw hS dX9_theft_26
    · have hf := ifn c10 hf
      refine lv_iload_n hx hb dX9_theft_19 rfl (lv_at hl 3 rfl) ?_
      refine lv_bipush (v := 8) hx hb dX9_theft_20 (by decide) ?_
      refine lv_icmp_le (tgt := 27) hx hb dX9_theft_22 (by decide) (fun c9 => ?_) (fun c9 => ?_)
      · have hf := ifp c9 hf
        refine lv_aload_n hx hb dX9_theft_27 rfl (lv_at hl 1 rfl) ?_
        refine va_get (ci := 9) (v := .ref (ad Γ 701)) (C := RX9) (T := TX9) (N := 8) hx hb htw uwX9 hown hE.1 (hw _ _ (wf_901 hE)) 0 rfl rfl 7 (by decide) (htw _ mw440) (fun _ h9 => h9) rfl dX9_theft_28 ?_
        refine lv_aload hx hb dX9_theft_31 (lv_at hl 0 rfl) ?_
        obtain ⟨z4, hz4, hf⟩ := bd hf
        refine cl_Vv (rest := []) (kX7_spoil (l := l) (Γ := Γ) (A := A) (hm_kd hE g3) hz4) ⟨hx, hb, hml, hown, htw⟩ hE hw hS (hw _ _ (wf_701 hE)) (q0 := 0) rfl rfl mw919 mw920 mw921 mw128 mw922 pdX7_spoil ⟨Nat.le_of_ble_eq_true rfl, Nat.le_of_ble_eq_true rfl⟩ rfl rfl hl.1 (Nat.le_of_ble_eq_true rfl) dX9_theft_33 (fun H locs hw hS => ?_)
        refine lv_aload_n hx hb dX9_theft_36 rfl (lv_at hl 1 rfl) ?_
        refine va_get (ci := 9) (v := .ref (ad Γ 701)) (C := RX9) (T := TX9) (N := 8) hx hb htw uwX9 hown hE.1 (hw _ _ (wf_901 hE)) 0 rfl rfl 7 (by decide) (htw _ mw440) (fun _ h9 => h9) rfl dX9_theft_37 ?_
        refine lv_aload hx hb dX9_theft_40 (lv_at hl 0 rfl) ?_
        obtain ⟨z5, hz5, hf⟩ := bd hf
        refine cl_Vs (rest := [.ref (ad Γ 701)]) (kgX2_allPieces (l := l) (Γ := Γ) (A := A) (G := z4) (o := h2) (hm_kd hE g3) hz5) ⟨hx, hb, hml, hown, htw⟩ hE hw hS (hw _ _ (hm_kd hE g3)) (q0 := 0) rfl rfl mw933 mw924 mw925 mw120 mw926 pdX2_allPieces ⟨Nat.le_of_ble_eq_true rfl, Nat.le_of_ble_eq_true rfl⟩ rfl rfl hl.1 (Nat.le_of_ble_eq_true rfl) dX9_theft_42 (fun H locs hw hS => ?_)
        refine lv_iload_n hx hb dX9_theft_45 rfl (lv_at hl 3 rfl) ?_
        obtain ⟨z6, hz6, hf⟩ := bd hf
        refine cl_Vs (rest := []) (kX7_bestPieces (l := l) (Γ := Γ) (A := A) hz6) ⟨hx, hb, hml, hown, htw⟩ hE hw hS (hw _ _ (wf_701 hE)) (q0 := 0) rfl rfl mw934 mw935 mw936 mw128 mw937 pdX7_bestPieces ⟨Nat.le_of_ble_eq_true rfl, Nat.le_of_ble_eq_true rfl⟩ rfl rfl hl.1 (Nat.le_of_ble_eq_true rfl) dX9_theft_46 (fun H locs hw hS => ?_)
        refine lv_istore (lv' := [(5, .int z6), (4, .ref (ad Γ h2)), (0, .ref (ad Γ 901)), (1, .int v1), (2, .int v2), (3, .int v3)]) hx hb dX9_theft_49 hl (by decide) rfl (fun ls hl => ?_)
        refine lv_iload_n hx hb dX9_theft_51 rfl (lv_at hl 5 rfl) ?_
        refine lv_if_eq (tgt := 60) hx hb dX9_theft_52 (by decide) (fun c8 => ?_) (fun c8 => ?_)
        · have hf := ifp c8 hf
          refine lv_aload_n hx hb dX9_theft_60 rfl (lv_at hl 2 rfl) ?_
          refine va_get (ci := 9) (v := .ref (ad Γ 701)) (C := RX9) (T := TX9) (N := 8) hx hb htw uwX9 hown hE.1 (hw _ _ (wf_901 hE)) 0 rfl rfl 7 (by decide) (htw _ mw440) (fun _ h9 => h9) rfl dX9_theft_61 ?_
          refine lv_iload hx hb dX9_theft_64 (lv_at hl 0 rfl) ?_
          obtain ⟨z7, hz7, hf⟩ := bd hf
          refine cl_Vs (rest := []) (kX7_got (l := l) (Γ := Γ) (A := A) hz7) ⟨hx, hb, hml, hown, htw⟩ hE hw hS (hw _ _ (wf_701 hE)) (q0 := 0) rfl rfl mw943 mw940 mw941 mw128 mw942 pdX7_got ⟨Nat.le_of_ble_eq_true rfl, Nat.le_of_ble_eq_true rfl⟩ rfl rfl hl.1 (Nat.le_of_ble_eq_true rfl) dX9_theft_66 (fun H locs hw hS => ?_)
          obtain rfl := Option.some.inj hf
          subst hq
          exact rt_i C hw hS dX9_theft_69
        · have hf := ifn c8 hf
          refine lv_iload hx hb dX9_theft_55 (lv_at hl 0 rfl) ?_
          refine lv_goto (tgt := 69) hx hb dX9_theft_57 (by decide) ?_
          obtain rfl := Option.some.inj hf
          subst hq
          exact rt_i C hw hS dX9_theft_69
      · have hf := ifn c9 hf
        refine lv_iconst (v := (-1)) hx hb dX9_theft_25 (by decide) ?_
        obtain rfl := Option.some.inj hf
        subst hq
        exact rt_i C hw hS dX9_theft_26

theorem kX9_theft {l : Launch} {Γ : Gm} {A : Nat → Prop} {g : Gs} {v1 : Int32} {v2 : Int32} {v3 : Int32} {fin : Gs × Int32} (hf : fX9_theft g v1 v2 v3 = some fin) : Kt l yX9_theft cX9_theft 6 (some .int) 4 93 Γ A g fin.1 [.ref (ad Γ 901), .int v1, .int v2, .int v3] (some (.int fin.2)) :=
  kt_of (by decide) (Nat.le_of_ble_eq_true rfl) (fun p e s m args below meth c C => wX9_theft_e C hf rfl)
noncomputable def fX9_evenings (g : Gs) (v1 : Int32) (v2 : Int32) : Option (Gs × Int32) :=
  (fX8_houseAt (g 800) 800 v1).bind fun z1 => oc z1 (some ((g, (-1)))) (fun h2 => gd (isHm h2) ((fX2_mayBeTold (g h2) v2).bind fun z4 => if z4 = 0 then some ((g, (-1))) else (fX3_fewest g h2 v2).bind fun z5 => some ((z5.1, z5.2))))
set_option maxRecDepth 100000 in
set_option maxHeartbeats 4000000 in
theorem wX9_evenings_e {p : Program} {l : Launch} {e : Env} {s : State} {m : MethodId} {args : Array Value} {below : List Frame} {meth : Method} {c : Code} {Γ : Gm} {A : Nat → Prop} {g : Gs} {v1 : Int32} {v2 : Int32} {q : (Gs × Int32)} {fin : Gs × Int32} (C : Cx p s m args meth c yX9_evenings cX9_evenings 4 (some .int) Γ A) (hf : fX9_evenings g v1 v2 = some q) (hq : (fun x => x = fin) q) : Wk p l e { frames := 3, cells := 0, slots := 0, locals := 65 } s m args below meth c Γ A fin.1 (some (.int fin.2)) 0 4 [(0, .ref (ad Γ 901)), (1, .int v1), (2, .int v2)] [] g := by
  intro H locs ls hw hS hl
  unfold fX9_evenings at hf
  obtain ⟨hx, hb, hml, hr, hown, htw, hlocks, hE⟩ := id C
  have hown : s.vm.findClass RX9 = some m.cls := hown
  refine lv_aload_n hx hb dX9_evenings_0 rfl (lv_at hl 0 rfl) ?_
  refine va_get (ci := 9) (v := .ref (ad Γ 800)) (C := RX9) (T := TX9) (N := 8) hx hb htw uwX9 hown hE.1 (hw _ _ (wf_901 hE)) 0 rfl rfl 0 (by decide) (htw _ mw433) (fun _ h9 => h9) rfl dX9_evenings_1 ?_
  refine lv_iload_n hx hb dX9_evenings_4 rfl (lv_at hl 1 rfl) ?_
  obtain ⟨z1, hz1, hf⟩ := bd hf
  refine cl_Vs (rest := []) (kgX8_houseAt (l := l) (Γ := Γ) (A := A) (G := g) (o := 800) (wf_800 hE) hz1) ⟨hx, hb, hml, hown, htw⟩ hE hw hS (hw _ _ (wf_800 hE)) (q0 := 0) rfl rfl mw629 mw630 mw631 mw119 mw632 pdX8_houseAt ⟨Nat.le_of_ble_eq_true rfl, Nat.le_of_ble_eq_true rfl⟩ rfl rfl hl.1 (Nat.le_of_ble_eq_true rfl) dX9_evenings_5 (fun H locs hw hS => ?_)
  cases z1 with
  | none =>
    have hf := oc_none hf
    refine lv_astore_nN (lv' := [(3, .null), (0, .ref (ad Γ 901)), (1, .int v1), (2, .int v2)]) hx hb dX9_evenings_8 rfl hl (by decide) rfl (fun ls hl => ?_)
    refine lv_aload_nN hx hb dX9_evenings_9 rfl (lv_at hl 0 rfl) ?_
    refine lv_ifnullN (tgt := 21) hx hb dX9_evenings_10 (by decide) ?_
    refine lv_iconst (v := (-1)) hx hb dX9_evenings_21 (by decide) ?_
    obtain rfl := Option.some.inj hf
    subst hq
    exact rt_i C hw hS dX9_evenings_22
  | some h2 =>
    have hf := oc_some hf
    obtain ⟨g3, hf⟩ := gd_some hf
    refine lv_astore_n (lv' := [(3, .ref (ad Γ h2)), (0, .ref (ad Γ 901)), (1, .int v1), (2, .int v2)]) hx hb dX9_evenings_8 rfl hl (by decide) rfl (fun ls hl => ?_)
    refine lv_aload_n hx hb dX9_evenings_9 rfl (lv_at hl 0 rfl) ?_
    refine lv_ifnull hx hb dX9_evenings_10 ?_
    refine lv_aload_n hx hb dX9_evenings_13 rfl (lv_at hl 0 rfl) ?_
    refine lv_iload_n hx hb dX9_evenings_14 rfl (lv_at hl 3 rfl) ?_
    obtain ⟨z4, hz4, hf⟩ := bd hf
    refine cl_Vs (rest := []) (kgX2_mayBeTold (l := l) (Γ := Γ) (A := A) (G := g) (o := h2) (hm_kd hE g3) hz4) ⟨hx, hb, hml, hown, htw⟩ hE hw hS (hw _ _ (hm_kd hE g3)) (q0 := 0) rfl rfl mw948 mw949 mw950 mw120 mw951 pdX2_mayBeTold ⟨Nat.le_of_ble_eq_true rfl, Nat.le_of_ble_eq_true rfl⟩ rfl rfl hl.1 (Nat.le_of_ble_eq_true rfl) dX9_evenings_15 (fun H locs hw hS => ?_)
    refine lv_if_ne (tgt := 23) hx hb dX9_evenings_18 (by decide) (fun c6 => ?_) (fun c6 => ?_)
    · have hf := ifn c6 hf
      refine lv_aload_n hx hb dX9_evenings_23 rfl (lv_at hl 1 rfl) ?_
      refine va_get (ci := 9) (v := .ref (ad Γ 301)) (C := RX9) (T := TX9) (N := 8) hx hb htw uwX9 hown hE.1 (hw _ _ (wf_901 hE)) 0 rfl rfl 5 (by decide) (htw _ mw438) (fun _ h9 => h9) rfl dX9_evenings_24 ?_
      refine lv_aload_n hx hb dX9_evenings_27 rfl (lv_at hl 0 rfl) ?_
      refine lv_iload_n hx hb dX9_evenings_28 rfl (lv_at hl 3 rfl) ?_
      obtain ⟨z5, hz5, hf⟩ := bd hf
      refine cl_Vs (rest := []) (kX3_fewest (l := l) (Γ := Γ) (A := A) (hm_kd hE g3) hz5) ⟨hx, hb, hml, hown, htw⟩ hE hw hS (hw _ _ (wf_301 hE)) (q0 := 0) rfl rfl mw952 mw953 mw954 mw126 mw955 pdX3_fewest ⟨Nat.le_of_ble_eq_true rfl, Nat.le_of_ble_eq_true rfl⟩ rfl rfl hl.1 (Nat.le_of_ble_eq_true rfl) dX9_evenings_29 (fun H locs hw hS => ?_)
      obtain rfl := Option.some.inj hf
      subst hq
      exact rt_i C hw hS dX9_evenings_32
    · have hf := ifp c6 hf
      refine lv_iconst (v := (-1)) hx hb dX9_evenings_21 (by decide) ?_
      obtain rfl := Option.some.inj hf
      subst hq
      exact rt_i C hw hS dX9_evenings_22

theorem kX9_evenings {l : Launch} {Γ : Gm} {A : Nat → Prop} {g : Gs} {v1 : Int32} {v2 : Int32} {fin : Gs × Int32} (hf : fX9_evenings g v1 v2 = some fin) : Kt l yX9_evenings cX9_evenings 4 (some .int) 3 65 Γ A g fin.1 [.ref (ad Γ 901), .int v1, .int v2] (some (.int fin.2)) :=
  kt_of (by decide) (Nat.le_of_ble_eq_true rfl) (fun p e s m args below meth c C => wX9_evenings_e C hf rfl)
noncomputable def bX9_fractionPart_55 (v5 : Int64) (s0 : Int64) : Option Int64 :=
  if (lg_cmp v5 0) = 0 then some (s0) else gd (nzl v5) (some (s0 / v5))
set_option maxRecDepth 100000 in
set_option maxHeartbeats 4000000 in
theorem wX9_fractionPart_55 {p : Program} {l : Launch} {e : Env} {s : State} {m : MethodId} {args : Array Value} {below : List Frame} {meth : Method} {c : Code} {Γ : Gm} {A : Nat → Prop} {G : Gs} {v5 : Int64} {s0 : Int64} {q : Int64} {fin : Int64} (C : Cx p s m args meth c yX9_fractionPart cX9_fractionPart 12 (some .long) Γ A) (hf : bX9_fractionPart_55 v5 s0 = some q) (hq : (fun x => x = fin) q) : Wk p l e { frames := 0, cells := 0, slots := 0, locals := 0 } s m args below meth c Γ A G (some (.long fin)) 55 12 [(5, .long v5)] [.long s0] G := by
  intro H locs ls hw hS hl
  unfold bX9_fractionPart_55 at hf
  obtain ⟨hx, hb, hml, hr, hown, htw, hlocks, hE⟩ := id C
  have hown : s.vm.findClass RX9 = some m.cls := hown
  refine lv_lstore (lv' := [(9, .long s0), (5, .long v5)]) hx hb dX9_fractionPart_55 hl (by decide) rfl (fun ls hl => ?_)
  refine lv_lload hx hb dX9_fractionPart_57 (lv_at hl 1 rfl) ?_
  refine lv_lconst (v := 0) hx hb dX9_fractionPart_59 (by decide) ?_
  refine W.lcmp hx hb dX9_fractionPart_60 ?_
  refine lv_if_ne (tgt := 69) hx hb dX9_fractionPart_61 (by decide) (fun c2 => ?_) (fun c2 => ?_)
  · have hf := ifn c2 hf
    refine lv_lload hx hb dX9_fractionPart_69 (lv_at hl 0 rfl) ?_
    refine lv_lload hx hb dX9_fractionPart_71 (lv_at hl 1 rfl) ?_
    obtain ⟨g1, hf⟩ := gd_some hf
    refine lv_ldiv hx hb dX9_fractionPart_73 (nzl_ne g1) ?_
    obtain rfl := Option.some.inj hf
    subst hq
    exact rt_l C hw hS dX9_fractionPart_74
  · have hf := ifp c2 hf
    refine lv_lload hx hb dX9_fractionPart_64 (lv_at hl 0 rfl) ?_
    refine lv_goto (tgt := 74) hx hb dX9_fractionPart_66 (by decide) ?_
    obtain rfl := Option.some.inj hf
    subst hq
    exact rt_l C hw hS dX9_fractionPart_74

noncomputable def bX9_fractionPart_45 (v0 : Int64) (v2 : Int64) (v4 : Int32) (v5 : Int64) : Option Int64 :=
  if v4 = 0 then bX9_fractionPart_55 v5 v0 else bX9_fractionPart_55 v5 v2
set_option maxRecDepth 100000 in
set_option maxHeartbeats 4000000 in
theorem wX9_fractionPart_45 {p : Program} {l : Launch} {e : Env} {s : State} {m : MethodId} {args : Array Value} {below : List Frame} {meth : Method} {c : Code} {Γ : Gm} {A : Nat → Prop} {G : Gs} {v0 : Int64} {v2 : Int64} {v4 : Int32} {v5 : Int64} {q : Int64} {fin : Int64} (C : Cx p s m args meth c yX9_fractionPart cX9_fractionPart 12 (some .long) Γ A) (hf : bX9_fractionPart_45 v0 v2 v4 v5 = some q) (hq : (fun x => x = fin) q) : Wk p l e { frames := 0, cells := 0, slots := 0, locals := 0 } s m args below meth c Γ A G (some (.long fin)) 45 12 [(0, .long v0), (2, .long v2), (4, .int v4), (5, .long v5)] [] G := by
  intro H locs ls hw hS hl
  unfold bX9_fractionPart_45 at hf
  obtain ⟨hx, hb, hml, hr, hown, htw, hlocks, hE⟩ := id C
  have hown : s.vm.findClass RX9 = some m.cls := hown
  refine lv_iload hx hb dX9_fractionPart_45 (lv_at hl 2 rfl) ?_
  refine lv_if_eq (tgt := 54) hx hb dX9_fractionPart_47 (by decide) (fun c3 => ?_) (fun c3 => ?_)
  · have hf := ifp c3 hf
    refine lv_lload_n hx hb dX9_fractionPart_54 rfl (lv_at hl 0 rfl) ?_
    exact wX9_fractionPart_55 C hf hq H locs ls hw hS (lv_sub hl [3] rfl)
  · have hf := ifn c3 hf
    refine lv_lload_n hx hb dX9_fractionPart_50 rfl (lv_at hl 1 rfl) ?_
    refine lv_goto (tgt := 55) hx hb dX9_fractionPart_51 (by decide) ?_
    exact wX9_fractionPart_55 C hf hq H locs ls hw hS (lv_sub hl [3] rfl)

noncomputable def bX9_fractionPart_9 (v0 : Int64) (v2 : Int64) (v4 : Int32) (v5 : Int64) (v7 : Int64) (v9 : Int32) : Option ((Int64 × Int64 × Int32) ⊕ Int64) :=
  if 128 ≤ v9 then out1 (bX9_fractionPart_45 v0 v2 v4 v5) else if (lg_cmp v7 0) = 0 then out1 (bX9_fractionPart_45 v0 v2 v4 v5) else gd (nzl v7) (some (.inl (v7, v5 - v5 / v7 * v7, v9 + 1)))
set_option maxRecDepth 100000 in
set_option maxHeartbeats 4000000 in
theorem wX9_fractionPart_9 {p : Program} {l : Launch} {e : Env} {s : State} {m : MethodId} {args : Array Value} {below : List Frame} {meth : Method} {c : Code} {Γ : Gm} {A : Nat → Prop} {G : Gs} {v0 : Int64} {v2 : Int64} {v4 : Int32} {v5 : Int64} {v7 : Int64} {v9 : Int32} {q : ((Int64 × Int64 × Int32) ⊕ Int64)} {fin : Int64} (C : Cx p s m args meth c yX9_fractionPart cX9_fractionPart 12 (some .long) Γ A) (hf : bX9_fractionPart_9 v0 v2 v4 v5 v7 v9 = some q) (hq : (KC (fun st : Int64 × Int64 × Int32 => Wk p l e { frames := 0, cells := 0, slots := 0, locals := 0 } s m args below meth c Γ A G (some (.long fin)) 9 12 [(0, .long v0), (2, .long v2), (4, .int v4), (5, .long st.1), (7, .long st.2.1), (9, .int st.2.2)] [] G) (fun x => x = fin)) q) : Wk p l e { frames := 0, cells := 0, slots := 0, locals := 0 } s m args below meth c Γ A G (some (.long fin)) 9 12 [(0, .long v0), (2, .long v2), (4, .int v4), (5, .long v5), (7, .long v7), (9, .int v9)] [] G := by
  intro H locs ls hw hS hl
  unfold bX9_fractionPart_9 at hf
  obtain ⟨hx, hb, hml, hr, hown, htw, hlocks, hE⟩ := id C
  have hown : s.vm.findClass RX9 = some m.cls := hown
  refine lv_iload hx hb dX9_fractionPart_9 (lv_at hl 5 rfl) ?_
  refine lv_sipush (v := 128) hx hb dX9_fractionPart_11 (by decide) ?_
  refine lv_icmp_ge (tgt := 45) hx hb dX9_fractionPart_14 (by decide) (fun c8 => ?_) (fun c8 => ?_)
  · have hf := ifp c8 hf
    obtain ⟨q4, hfq4, eq4⟩ := out1_some hf
    subst eq4
    have hf := hfq4
    have hq := hq.2 _ rfl
    exact wX9_fractionPart_45 C hf hq H locs ls hw hS (lv_sub hl [0, 1, 2, 3] rfl)
  · have hf := ifn c8 hf
    refine lv_lload hx hb dX9_fractionPart_17 (lv_at hl 4 rfl) ?_
    refine lv_lconst (v := 0) hx hb dX9_fractionPart_19 (by decide) ?_
    refine W.lcmp hx hb dX9_fractionPart_20 ?_
    refine lv_if_eq (tgt := 45) hx hb dX9_fractionPart_21 (by decide) (fun c7 => ?_) (fun c7 => ?_)
    · have hf := ifp c7 hf
      obtain ⟨q5, hfq5, eq5⟩ := out1_some hf
      subst eq5
      have hf := hfq5
      have hq := hq.2 _ rfl
      exact wX9_fractionPart_45 C hf hq H locs ls hw hS (lv_sub hl [0, 1, 2, 3] rfl)
    · have hf := ifn c7 hf
      refine lv_lload hx hb dX9_fractionPart_24 (lv_at hl 3 rfl) ?_
      refine lv_lload hx hb dX9_fractionPart_26 (lv_at hl 4 rfl) ?_
      obtain ⟨g6, hf⟩ := gd_some hf
      refine lv_lrem hx hb dX9_fractionPart_28 (nzl_ne g6) ?_
      refine lv_lstore (lv' := [(10, .long (v5 - v5 / v7 * v7)), (0, .long v0), (2, .long v2), (4, .int v4), (5, .long v5), (7, .long v7), (9, .int v9)]) hx hb dX9_fractionPart_29 hl (by decide) rfl (fun ls hl => ?_)
      refine lv_lload hx hb dX9_fractionPart_31 (lv_at hl 5 rfl) ?_
      refine lv_lstore (lv' := [(5, .long v7), (10, .long (v5 - v5 / v7 * v7)), (0, .long v0), (2, .long v2), (4, .int v4), (7, .long v7), (9, .int v9)]) hx hb dX9_fractionPart_33 hl (by decide) rfl (fun ls hl => ?_)
      refine lv_lload hx hb dX9_fractionPart_35 (lv_at hl 1 rfl) ?_
      refine lv_lstore (lv' := [(7, .long (v5 - v5 / v7 * v7)), (5, .long v7), (10, .long (v5 - v5 / v7 * v7)), (0, .long v0), (2, .long v2), (4, .int v4), (9, .int v9)]) hx hb dX9_fractionPart_37 hl (by decide) rfl (fun ls hl => ?_)
      refine lv_iinc (v := v9 + 1) (lv' := [(9, .int (v9 + 1)), (7, .long (v5 - v5 / v7 * v7)), (5, .long v7), (10, .long (v5 - v5 / v7 * v7)), (0, .long v0), (2, .long v2), (4, .int v4)]) hx hb dX9_fractionPart_39 hl (k := 6) rfl (by rfl) (by decide) rfl (fun ls hl => ?_)
      refine lv_goto (tgt := 9) hx hb dX9_fractionPart_42 (by decide) ?_
      obtain rfl := Option.some.inj hf
      exact hq.1 _ rfl H locs ls hw hS (lv_sub hl [4, 5, 6, 2, 1, 0] rfl)

set_option maxRecDepth 100000 in
set_option maxHeartbeats 4000000 in
theorem lwX9_fractionPart_9 {p : Program} {l : Launch} {e : Env} {s : State} {m : MethodId} {args : Array Value} {below : List Frame} {meth : Method} {c : Code} {Γ : Gm} {A : Nat → Prop} {G : Gs} {v0 : Int64} {v2 : Int64} {v4 : Int32} {v5 : Int64} {v7 : Int64} {v9 : Int32} {q : Int64} {fin : Int64} (C : Cx p s m args meth c yX9_fractionPart cX9_fractionPart 12 (some .long) Γ A) (hf : iter (fun st : Int64 × Int64 × Int32 => bX9_fractionPart_9 v0 v2 v4 st.1 st.2.1 st.2.2) (v5, v7, v9) = some q) (hq : (fun x => x = fin) q) : Wk p l e { frames := 0, cells := 0, slots := 0, locals := 0 } s m args below meth c Γ A G (some (.long fin)) 9 12 [(0, .long v0), (2, .long v2), (4, .int v4), (5, .long v5), (7, .long v7), (9, .int v9)] [] G := by
  intro H locs ls hw hS hl
  refine iter_walk (P := (fun st : Int64 × Int64 × Int32 => Wk p l e { frames := 0, cells := 0, slots := 0, locals := 0 } s m args below meth c Γ A G (some (.long fin)) 9 12 [(0, .long v0), (2, .long v2), (4, .int v4), (5, .long st.1), (7, .long st.2.1), (9, .int st.2.2)] [] G)) (K := (fun x => x = fin)) (fun st q hq1 h1 h2 => ?_) hf hq H locs ls hw hS hl
  exact wX9_fractionPart_9 (v5 := st.1) (v7 := st.2.1) (v9 := st.2.2) C hq1 ⟨h1, h2⟩

noncomputable def fX9_fractionPart (v0 : Int64) (v2 : Int64) (v4 : Int32) : Option Int64 :=
  iter (fun st : Int64 × Int64 × Int32 => bX9_fractionPart_9 v0 v2 v4 st.1 st.2.1 st.2.2) (v0, v2, 0)
set_option maxRecDepth 100000 in
set_option maxHeartbeats 4000000 in
theorem wX9_fractionPart_e {p : Program} {l : Launch} {e : Env} {s : State} {m : MethodId} {args : Array Value} {below : List Frame} {meth : Method} {c : Code} {Γ : Gm} {A : Nat → Prop} {G : Gs} {v0 : Int64} {v2 : Int64} {v4 : Int32} {q : Int64} {fin : Int64} (C : Cx p s m args meth c yX9_fractionPart cX9_fractionPart 12 (some .long) Γ A) (hf : fX9_fractionPart v0 v2 v4 = some q) (hq : (fun x => x = fin) q) : Wk p l e { frames := 0, cells := 0, slots := 0, locals := 0 } s m args below meth c Γ A G (some (.long fin)) 0 12 [(0, .long v0), (2, .long v2), (4, .int v4)] [] G := by
  intro H locs ls hw hS hl
  unfold fX9_fractionPart at hf
  obtain ⟨hx, hb, hml, hr, hown, htw, hlocks, hE⟩ := id C
  have hown : s.vm.findClass RX9 = some m.cls := hown
  refine lv_lload_n hx hb dX9_fractionPart_0 rfl (lv_at hl 0 rfl) ?_
  refine lv_lstore (lv' := [(5, .long v0), (0, .long v0), (2, .long v2), (4, .int v4)]) hx hb dX9_fractionPart_1 hl (by decide) rfl (fun ls hl => ?_)
  refine lv_lload_n hx hb dX9_fractionPart_3 rfl (lv_at hl 2 rfl) ?_
  refine lv_lstore (lv' := [(7, .long v2), (5, .long v0), (0, .long v0), (2, .long v2), (4, .int v4)]) hx hb dX9_fractionPart_4 hl (by decide) rfl (fun ls hl => ?_)
  refine lv_iconst (v := 0) hx hb dX9_fractionPart_6 (by decide) ?_
  refine lv_istore (lv' := [(9, .int 0), (7, .long v2), (5, .long v0), (0, .long v0), (2, .long v2), (4, .int v4)]) hx hb dX9_fractionPart_7 hl (by decide) rfl (fun ls hl => ?_)
  exact lwX9_fractionPart_9 C hf hq H locs ls hw hS (lv_sub hl [3, 4, 5, 2, 1, 0] rfl)

theorem kX9_fractionPart {l : Launch} {Γ : Gm} {A : Nat → Prop} {G : Gs} {v0 : Int64} {v2 : Int64} {v4 : Int32} {fin : Int64} (hf : fX9_fractionPart v0 v2 v4 = some fin) : Kt l yX9_fractionPart cX9_fractionPart 12 (some .long) 0 0 Γ A G G [.long v0, .long v2, .int v4] (some (.long fin)) :=
  kt_of (by decide) (Nat.le_of_ble_eq_true rfl) (fun p e s m args below meth c C => wX9_fractionPart_e C hf rfl)
noncomputable def fX9_hidden (g : Gs) (v1 : Int32) (v2 : Int32) (v3 : Int32) (v4 : Int32) : Option Int64 :=
  (fX8_houseAt (g 800) 800 v1).bind fun z1 => oc z1 (some ((-1))) (fun h2 => gd (isHm h2) ((fX2_hasSecret (g h2) v2).bind fun z4 => if z4 = 0 then some ((-1)) else if v3 < 0 then some ((-1)) else if v3 ≤ (gi (g h2) 1) then (fX2_countHiding (g h2) v2 v3).bind fun z5 => (fX2_countSets (g h2) v3).bind fun z6 => (fX9_fractionPart ((z5 : Int32).toInt64) ((z6 : Int32).toInt64) v4).bind fun z7 => some (z7) else some ((-1))))
set_option maxRecDepth 100000 in
set_option maxHeartbeats 4000000 in
theorem wX9_hidden_e {p : Program} {l : Launch} {e : Env} {s : State} {m : MethodId} {args : Array Value} {below : List Frame} {meth : Method} {c : Code} {Γ : Gm} {A : Nat → Prop} {g : Gs} {v1 : Int32} {v2 : Int32} {v3 : Int32} {v4 : Int32} {q : Int64} {fin : Int64} (C : Cx p s m args meth c yX9_hidden cX9_hidden 6 (some .long) Γ A) (hf : fX9_hidden g v1 v2 v3 v4 = some q) (hq : (fun x => x = fin) q) : Wk p l e { frames := 4, cells := 0, slots := 0, locals := 93 } s m args below meth c Γ A g (some (.long fin)) 0 6 [(0, .ref (ad Γ 901)), (1, .int v1), (2, .int v2), (3, .int v3), (4, .int v4)] [] g := by
  intro H locs ls hw hS hl
  unfold fX9_hidden at hf
  obtain ⟨hx, hb, hml, hr, hown, htw, hlocks, hE⟩ := id C
  have hown : s.vm.findClass RX9 = some m.cls := hown
  refine lv_aload_n hx hb dX9_hidden_0 rfl (lv_at hl 0 rfl) ?_
  refine va_get (ci := 9) (v := .ref (ad Γ 800)) (C := RX9) (T := TX9) (N := 8) hx hb htw uwX9 hown hE.1 (hw _ _ (wf_901 hE)) 0 rfl rfl 0 (by decide) (htw _ mw433) (fun _ h9 => h9) rfl dX9_hidden_1 ?_
  refine lv_iload_n hx hb dX9_hidden_4 rfl (lv_at hl 1 rfl) ?_
  obtain ⟨z1, hz1, hf⟩ := bd hf
  refine cl_Vs (rest := []) (kgX8_houseAt (l := l) (Γ := Γ) (A := A) (G := g) (o := 800) (wf_800 hE) hz1) ⟨hx, hb, hml, hown, htw⟩ hE hw hS (hw _ _ (wf_800 hE)) (q0 := 0) rfl rfl mw629 mw630 mw631 mw119 mw632 pdX8_houseAt ⟨Nat.le_of_ble_eq_true rfl, Nat.le_of_ble_eq_true rfl⟩ rfl rfl hl.1 (Nat.le_of_ble_eq_true rfl) dX9_hidden_5 (fun H locs hw hS => ?_)
  cases z1 with
  | none =>
    have hf := oc_none hf
    refine lv_astoreN (lv' := [(5, .null), (0, .ref (ad Γ 901)), (1, .int v1), (2, .int v2), (3, .int v3), (4, .int v4)]) hx hb dX9_hidden_8 hl (by decide) rfl (fun ls hl => ?_)
    refine lv_aloadN hx hb dX9_hidden_10 (lv_at hl 0 rfl) ?_
    refine lv_ifnullN (tgt := 37) hx hb dX9_hidden_12 (by decide) ?_
    refine lv_ldc2 hx hb hown (htw _ mw967) dX9_hidden_37 ?_
    obtain rfl := Option.some.inj hf
    subst hq
    exact rt_l C hw hS dX9_hidden_40
  | some h2 =>
    have hf := oc_some hf
    obtain ⟨g3, hf⟩ := gd_some hf
    refine lv_astore (lv' := [(5, .ref (ad Γ h2)), (0, .ref (ad Γ 901)), (1, .int v1), (2, .int v2), (3, .int v3), (4, .int v4)]) hx hb dX9_hidden_8 hl (by decide) rfl (fun ls hl => ?_)
    refine lv_aload hx hb dX9_hidden_10 (lv_at hl 0 rfl) ?_
    refine lv_ifnull hx hb dX9_hidden_12 ?_
    refine lv_aload hx hb dX9_hidden_15 (lv_at hl 0 rfl) ?_
    refine lv_iload_n hx hb dX9_hidden_17 rfl (lv_at hl 3 rfl) ?_
    obtain ⟨z4, hz4, hf⟩ := bd hf
    refine cl_Vs (rest := []) (kgX2_hasSecret (l := l) (Γ := Γ) (A := A) (G := g) (o := h2) (hm_kd hE g3) hz4) ⟨hx, hb, hml, hown, htw⟩ hE hw hS (hw _ _ (hm_kd hE g3)) (q0 := 0) rfl rfl mw706 mw691 mw692 mw120 mw693 pdX2_hasSecret ⟨Nat.le_of_ble_eq_true rfl, Nat.le_of_ble_eq_true rfl⟩ rfl rfl hl.1 (Nat.le_of_ble_eq_true rfl) dX9_hidden_18 (fun H locs hw hS => ?_)
    refine lv_if_eq (tgt := 37) hx hb dX9_hidden_21 (by decide) (fun c10 => ?_) (fun c10 => ?_)
    · have hf := ifp c10 hf
      refine lv_ldc2 hx hb hown (htw _ mw967) dX9_hidden_37 ?_
      obtain rfl := Option.some.inj hf
      subst hq
      exact rt_l C hw hS dX9_hidden_40
    · have hf := ifn c10 hf
      refine lv_iload_n hx hb dX9_hidden_24 rfl (lv_at hl 4 rfl) ?_
      refine lv_if_lt (tgt := 37) hx hb dX9_hidden_25 (by decide) (fun c9 => ?_) (fun c9 => ?_)
      · have hf := ifp c9 hf
        refine lv_ldc2 hx hb hown (htw _ mw967) dX9_hidden_37 ?_
        obtain rfl := Option.some.inj hf
        subst hq
        exact rt_l C hw hS dX9_hidden_40
      · have hf := ifn c9 hf
        refine lv_iload_n hx hb dX9_hidden_28 rfl (lv_at hl 4 rfl) ?_
        refine lv_aload hx hb dX9_hidden_29 (lv_at hl 0 rfl) ?_
        refine va_get (ci := 2) (v := .int (gi (g h2) 1)) (C := RX2) (T := TX2) (N := 11) hx hb htw uwX2 hown hE.1 (hw _ _ (hm_kd hE g3)) 0 rfl rfl 1 (by decide) (htw _ mw169) (fun _ h9 => h9) rfl dX9_hidden_31 ?_
        refine lv_icmp_le (tgt := 41) hx hb dX9_hidden_34 (by decide) (fun c8 => ?_) (fun c8 => ?_)
        · have hf := ifp c8 hf
          refine lv_aload hx hb dX9_hidden_41 (lv_at hl 0 rfl) ?_
          refine lv_iload_n hx hb dX9_hidden_43 rfl (lv_at hl 3 rfl) ?_
          refine lv_iload_n hx hb dX9_hidden_44 rfl (lv_at hl 4 rfl) ?_
          obtain ⟨z5, hz5, hf⟩ := bd hf
          refine cl_Vs (rest := []) (kgX2_countHiding (l := l) (Γ := Γ) (A := A) (G := g) (o := h2) (hm_kd hE g3) hz5) ⟨hx, hb, hml, hown, htw⟩ hE hw hS (hw _ _ (hm_kd hE g3)) (q0 := 0) rfl rfl mw968 mw969 mw970 mw120 mw971 pdX2_countHiding ⟨Nat.le_of_ble_eq_true rfl, Nat.le_of_ble_eq_true rfl⟩ rfl rfl hl.1 (Nat.le_of_ble_eq_true rfl) dX9_hidden_45 (fun H locs hw hS => ?_)
          refine lv_i2l (v := (z5 : Int32).toInt64) hx hb dX9_hidden_48 rfl ?_
          refine lv_aload hx hb dX9_hidden_49 (lv_at hl 0 rfl) ?_
          refine lv_iload_n hx hb dX9_hidden_51 rfl (lv_at hl 4 rfl) ?_
          obtain ⟨z6, hz6, hf⟩ := bd hf
          refine cl_Vs (rest := [.long ((z5 : Int32).toInt64)]) (kgX2_countSets (l := l) (Γ := Γ) (A := A) (G := g) (o := h2) (hm_kd hE g3) hz6) ⟨hx, hb, hml, hown, htw⟩ hE hw hS (hw _ _ (hm_kd hE g3)) (q0 := 0) rfl rfl mw972 mw973 mw974 mw120 mw975 pdX2_countSets ⟨Nat.le_of_ble_eq_true rfl, Nat.le_of_ble_eq_true rfl⟩ rfl rfl hl.1 (Nat.le_of_ble_eq_true rfl) dX9_hidden_52 (fun H locs hw hS => ?_)
          refine lv_i2l (v := (z6 : Int32).toInt64) hx hb dX9_hidden_55 rfl ?_
          refine lv_iload hx hb dX9_hidden_56 (lv_at hl 5 rfl) ?_
          obtain ⟨z7, hz7, hf⟩ := bd hf
          refine cl_Ss (rest := []) (kX9_fractionPart (l := l) (Γ := Γ) (A := A) (G := g) hz7) ⟨hx, hb, hml, hown, htw⟩ hE hw hS mw976 mw977 mw118 mw978 pdX9_fractionPart ⟨Nat.le_of_ble_eq_true rfl, Nat.le_of_ble_eq_true rfl⟩ rfl rfl hl.1 (Nat.le_of_ble_eq_true rfl) dX9_hidden_58 (fun H locs hw hS => ?_)
          obtain rfl := Option.some.inj hf
          subst hq
          exact rt_l C hw hS dX9_hidden_61
        · have hf := ifn c8 hf
          refine lv_ldc2 hx hb hown (htw _ mw967) dX9_hidden_37 ?_
          obtain rfl := Option.some.inj hf
          subst hq
          exact rt_l C hw hS dX9_hidden_40

theorem kX9_hidden {l : Launch} {Γ : Gm} {A : Nat → Prop} {g : Gs} {v1 : Int32} {v2 : Int32} {v3 : Int32} {v4 : Int32} {fin : Int64} (hf : fX9_hidden g v1 v2 v3 v4 = some fin) : Kt l yX9_hidden cX9_hidden 6 (some .long) 4 93 Γ A g g [.ref (ad Γ 901), .int v1, .int v2, .int v3, .int v4] (some (.long fin)) :=
  kt_of (by decide) (Nat.le_of_ble_eq_true rfl) (fun p e s m args below meth c C => wX9_hidden_e C hf rfl)
noncomputable def fX9_heirs (g : Gs) (v1 : Int32) (v2 : Int32) : Option Int32 :=
  (fX8_houseAt (g 800) 800 v1).bind fun z1 => oc z1 (some ((-1))) (fun h2 => gd (isHm h2) ((fX2_evenestShare (g h2)).bind fun z4 => if v2 = 0 then some (z4) else (fX2_shareGap (g h2) z4).bind fun z5 => some (z5)))
set_option maxRecDepth 100000 in
set_option maxHeartbeats 4000000 in
theorem wX9_heirs_e {p : Program} {l : Launch} {e : Env} {s : State} {m : MethodId} {args : Array Value} {below : List Frame} {meth : Method} {c : Code} {Γ : Gm} {A : Nat → Prop} {g : Gs} {v1 : Int32} {v2 : Int32} {q : Int32} {fin : Int32} (C : Cx p s m args meth c yX9_heirs cX9_heirs 5 (some .int) Γ A) (hf : fX9_heirs g v1 v2 = some q) (hq : (fun x => x = fin) q) : Wk p l e { frames := 4, cells := 0, slots := 0, locals := 92 } s m args below meth c Γ A g (some (.int fin)) 0 5 [(0, .ref (ad Γ 901)), (1, .int v1), (2, .int v2)] [] g := by
  intro H locs ls hw hS hl
  unfold fX9_heirs at hf
  obtain ⟨hx, hb, hml, hr, hown, htw, hlocks, hE⟩ := id C
  have hown : s.vm.findClass RX9 = some m.cls := hown
  refine lv_aload_n hx hb dX9_heirs_0 rfl (lv_at hl 0 rfl) ?_
  refine va_get (ci := 9) (v := .ref (ad Γ 800)) (C := RX9) (T := TX9) (N := 8) hx hb htw uwX9 hown hE.1 (hw _ _ (wf_901 hE)) 0 rfl rfl 0 (by decide) (htw _ mw433) (fun _ h9 => h9) rfl dX9_heirs_1 ?_
  refine lv_iload_n hx hb dX9_heirs_4 rfl (lv_at hl 1 rfl) ?_
  obtain ⟨z1, hz1, hf⟩ := bd hf
  refine cl_Vs (rest := []) (kgX8_houseAt (l := l) (Γ := Γ) (A := A) (G := g) (o := 800) (wf_800 hE) hz1) ⟨hx, hb, hml, hown, htw⟩ hE hw hS (hw _ _ (wf_800 hE)) (q0 := 0) rfl rfl mw629 mw630 mw631 mw119 mw632 pdX8_houseAt ⟨Nat.le_of_ble_eq_true rfl, Nat.le_of_ble_eq_true rfl⟩ rfl rfl hl.1 (Nat.le_of_ble_eq_true rfl) dX9_heirs_5 (fun H locs hw hS => ?_)
  cases z1 with
  | none =>
    have hf := oc_none hf
    refine lv_astore_nN (lv' := [(3, .null), (0, .ref (ad Γ 901)), (1, .int v1), (2, .int v2)]) hx hb dX9_heirs_8 rfl hl (by decide) rfl (fun ls hl => ?_)
    refine lv_aload_nN hx hb dX9_heirs_9 rfl (lv_at hl 0 rfl) ?_
    refine lv_ifnonnullN hx hb dX9_heirs_10 ?_
    refine lv_iconst (v := (-1)) hx hb dX9_heirs_13 (by decide) ?_
    obtain rfl := Option.some.inj hf
    subst hq
    exact rt_i C hw hS dX9_heirs_14
  | some h2 =>
    have hf := oc_some hf
    obtain ⟨g3, hf⟩ := gd_some hf
    refine lv_astore_n (lv' := [(3, .ref (ad Γ h2)), (0, .ref (ad Γ 901)), (1, .int v1), (2, .int v2)]) hx hb dX9_heirs_8 rfl hl (by decide) rfl (fun ls hl => ?_)
    refine lv_aload_n hx hb dX9_heirs_9 rfl (lv_at hl 0 rfl) ?_
    refine lv_ifnonnull (tgt := 15) hx hb dX9_heirs_10 (by decide) ?_
    refine lv_aload_n hx hb dX9_heirs_15 rfl (lv_at hl 0 rfl) ?_
    obtain ⟨z4, hz4, hf⟩ := bd hf
    refine cl_Vs (rest := []) (kgX2_evenestShare (l := l) (Γ := Γ) (A := A) (G := g) (o := h2) (hm_kd hE g3) hz4) ⟨hx, hb, hml, hown, htw⟩ hE hw hS (hw _ _ (hm_kd hE g3)) (q0 := 0) rfl rfl mw983 mw984 mw985 mw120 mw986 pdX2_evenestShare ⟨Nat.le_of_ble_eq_true rfl, Nat.le_of_ble_eq_true rfl⟩ rfl rfl hl.1 (Nat.le_of_ble_eq_true rfl) dX9_heirs_16 (fun H locs hw hS => ?_)
    refine lv_istore (lv' := [(4, .int z4), (3, .ref (ad Γ h2)), (0, .ref (ad Γ 901)), (1, .int v1), (2, .int v2)]) hx hb dX9_heirs_19 hl (by decide) rfl (fun ls hl => ?_)
    refine lv_iload_n hx hb dX9_heirs_21 rfl (lv_at hl 4 rfl) ?_
    refine lv_if_eq (tgt := 34) hx hb dX9_heirs_22 (by decide) (fun c6 => ?_) (fun c6 => ?_)
    · have hf := ifp c6 hf
      refine lv_iload hx hb dX9_heirs_34 (lv_at hl 0 rfl) ?_
      obtain rfl := Option.some.inj hf
      subst hq
      exact rt_i C hw hS dX9_heirs_36
    · have hf := ifn c6 hf
      refine lv_aload_n hx hb dX9_heirs_25 rfl (lv_at hl 1 rfl) ?_
      refine lv_iload hx hb dX9_heirs_26 (lv_at hl 0 rfl) ?_
      obtain ⟨z5, hz5, hf⟩ := bd hf
      refine cl_Vs (rest := []) (kgX2_shareGap (l := l) (Γ := Γ) (A := A) (G := g) (o := h2) (hm_kd hE g3) hz5) ⟨hx, hb, hml, hown, htw⟩ hE hw hS (hw _ _ (hm_kd hE g3)) (q0 := 0) rfl rfl mw996 mw988 mw989 mw120 mw990 pdX2_shareGap ⟨Nat.le_of_ble_eq_true rfl, Nat.le_of_ble_eq_true rfl⟩ rfl rfl hl.1 (Nat.le_of_ble_eq_true rfl) dX9_heirs_28 (fun H locs hw hS => ?_)
      refine lv_goto (tgt := 36) hx hb dX9_heirs_31 (by decide) ?_
      obtain rfl := Option.some.inj hf
      subst hq
      exact rt_i C hw hS dX9_heirs_36

theorem kX9_heirs {l : Launch} {Γ : Gm} {A : Nat → Prop} {g : Gs} {v1 : Int32} {v2 : Int32} {fin : Int32} (hf : fX9_heirs g v1 v2 = some fin) : Kt l yX9_heirs cX9_heirs 5 (some .int) 4 92 Γ A g g [.ref (ad Γ 901), .int v1, .int v2] (some (.int fin)) :=
  kt_of (by decide) (Nat.le_of_ble_eq_true rfl) (fun p e s m args below meth c C => wX9_heirs_e C hf rfl)
noncomputable def fX9_fact (g : Gs) (v1 : Int32) (v2 : Int32) (v3 : Int32) : Option Int32 :=
  (fX8_rowsAt (g 800) 800 3 v1).bind fun z1 => oc z1 ((fX9_rowNumber g none v2 v3 2).bind fun z3 => some (z3)) (fun h2 => gd (isRw h2) ((fX9_rowNumber g (some h2) v2 v3 2).bind fun z5 => some (z5)))
set_option maxRecDepth 100000 in
set_option maxHeartbeats 4000000 in
theorem wX9_fact_e {p : Program} {l : Launch} {e : Env} {s : State} {m : MethodId} {args : Array Value} {below : List Frame} {meth : Method} {c : Code} {Γ : Gm} {A : Nat → Prop} {g : Gs} {v1 : Int32} {v2 : Int32} {v3 : Int32} {q : Int32} {fin : Int32} (C : Cx p s m args meth c yX9_fact cX9_fact 4 (some .int) Γ A) (hf : fX9_fact g v1 v2 v3 = some q) (hq : (fun x => x = fin) q) : Wk p l e { frames := 3, cells := 0, slots := 0, locals := 66 } s m args below meth c Γ A g (some (.int fin)) 0 4 [(0, .ref (ad Γ 901)), (1, .int v1), (2, .int v2), (3, .int v3)] [] g := by
  intro H locs ls hw hS hl
  unfold fX9_fact at hf
  obtain ⟨hx, hb, hml, hr, hown, htw, hlocks, hE⟩ := id C
  have hown : s.vm.findClass RX9 = some m.cls := hown
  refine lv_aload_n hx hb dX9_fact_0 rfl (lv_at hl 0 rfl) ?_
  refine va_get (ci := 9) (v := .ref (ad Γ 800)) (C := RX9) (T := TX9) (N := 8) hx hb htw uwX9 hown hE.1 (hw _ _ (wf_901 hE)) 0 rfl rfl 0 (by decide) (htw _ mw433) (fun _ h9 => h9) rfl dX9_fact_1 ?_
  refine lv_iconst (v := 3) hx hb dX9_fact_4 (by decide) ?_
  refine lv_iload_n hx hb dX9_fact_5 rfl (lv_at hl 1 rfl) ?_
  obtain ⟨z1, hz1, hf⟩ := bd hf
  refine cl_Vs (rest := []) (kgX8_rowsAt (l := l) (Γ := Γ) (A := A) (G := g) (o := 800) (wf_800 hE) hz1) ⟨hx, hb, hml, hown, htw⟩ hE hw hS (hw _ _ (wf_800 hE)) (q0 := 0) rfl rfl mw658 mw659 mw660 mw119 mw661 pdX8_rowsAt ⟨Nat.le_of_ble_eq_true rfl, Nat.le_of_ble_eq_true rfl⟩ rfl rfl hl.1 (Nat.le_of_ble_eq_true rfl) dX9_fact_6 (fun H locs hw hS => ?_)
  cases z1 with
  | none =>
    have hf := oc_none hf
    refine lv_iload_n hx hb dX9_fact_9 rfl (lv_at hl 2 rfl) ?_
    refine lv_iload_n hx hb dX9_fact_10 rfl (lv_at hl 3 rfl) ?_
    refine lv_iconst (v := 2) hx hb dX9_fact_11 (by decide) ?_
    obtain ⟨z3, hz3, hf⟩ := bd hf
    refine cl_Ss (rest := []) (kX9_rowNumber (l := l) (Γ := Γ) (A := A) (fun _ h9 => by cases h9) hz3) ⟨hx, hb, hml, hown, htw⟩ hE hw hS mw824 mw825 mw118 mw826 pdX9_rowNumber ⟨Nat.le_of_ble_eq_true rfl, Nat.le_of_ble_eq_true rfl⟩ rfl rfl hl.1 (Nat.le_of_ble_eq_true rfl) dX9_fact_12 (fun H locs hw hS => ?_)
    obtain rfl := Option.some.inj hf
    subst hq
    exact rt_i C hw hS dX9_fact_15
  | some h2 =>
    have hf := oc_some hf
    obtain ⟨g4, hf⟩ := gd_some hf
    refine lv_iload_n hx hb dX9_fact_9 rfl (lv_at hl 2 rfl) ?_
    refine lv_iload_n hx hb dX9_fact_10 rfl (lv_at hl 3 rfl) ?_
    refine lv_iconst (v := 2) hx hb dX9_fact_11 (by decide) ?_
    obtain ⟨z5, hz5, hf⟩ := bd hf
    refine cl_Ss (rest := []) (kX9_rowNumber (l := l) (Γ := Γ) (A := A) (fun _ h9 => by cases h9; exact (rw_kd hE g4)) hz5) ⟨hx, hb, hml, hown, htw⟩ hE hw hS mw824 mw825 mw118 mw826 pdX9_rowNumber ⟨Nat.le_of_ble_eq_true rfl, Nat.le_of_ble_eq_true rfl⟩ rfl rfl hl.1 (Nat.le_of_ble_eq_true rfl) dX9_fact_12 (fun H locs hw hS => ?_)
    obtain rfl := Option.some.inj hf
    subst hq
    exact rt_i C hw hS dX9_fact_15

theorem kX9_fact {l : Launch} {Γ : Gm} {A : Nat → Prop} {g : Gs} {v1 : Int32} {v2 : Int32} {v3 : Int32} {fin : Int32} (hf : fX9_fact g v1 v2 v3 = some fin) : Kt l yX9_fact cX9_fact 4 (some .int) 3 66 Γ A g g [.ref (ad Γ 901), .int v1, .int v2, .int v3] (some (.int fin)) :=
  kt_of (by decide) (Nat.le_of_ble_eq_true rfl) (fun p e s m args below meth c C => wX9_fact_e C hf rfl)
noncomputable def fX9_fits (g : Gs) (v1 : Int32) (v2 : Int32) (v3 : Int32) : Option (Gs × Int32) :=
  (fX8_houseAt (g 800) 800 v1).bind fun z1 => oc z1 ((fX8_rowsAt (g 800) 800 3 v2).bind fun z3 => oc z3 (some ((g, (-2)))) (fun h4 => gd (isRw h4) (some ((g, (-2)))))) (fun h2 => gd (isHm h2) ((fX8_rowsAt (g 800) 800 3 v2).bind fun z7 => oc z7 (some ((g, (-2)))) (fun h8 => gd (isRw h8) ((fX2_hasPieces g h2 h8 1).bind fun z10 => if z10 = 0 then some ((g, (-2))) else (fX1_gather g h2 h8).bind fun z11 => if v3 = 0 then some ((z11, gi (z11 101) 1)) else if v3 = 1 then (fX1_sureKind z11).bind fun z16 => some ((z11, z16)) else if v3 = 2 then (fX1_sureWeight z11).bind fun z17 => some ((z11, z17)) else if v3 = 3 then (fX1_fittingSecrets z11 h2).bind fun z18 => some ((z11, z18)) else if v3 = 4 then (fX1_bestAsked z11 h2).bind fun z19 => some ((z19.1, z19.2)) else if v3 < 10 then some ((z11, (-2))) else (fX1_hasFit z11 (v3 - 10)).bind fun z12 => if z12 = 0 then some ((z11, (-2))) else gd (inR (v3 - 10) 120) (some ((z11, ga (z11 101) 0 (Int32.toNatClampNeg (v3 - 10)))))))))
set_option maxRecDepth 100000 in
set_option maxHeartbeats 4000000 in
theorem wX9_fits_e {p : Program} {l : Launch} {e : Env} {s : State} {m : MethodId} {args : Array Value} {below : List Frame} {meth : Method} {c : Code} {Γ : Gm} {A : Nat → Prop} {g : Gs} {v1 : Int32} {v2 : Int32} {v3 : Int32} {q : (Gs × Int32)} {fin : Gs × Int32} (C : Cx p s m args meth c yX9_fits cX9_fits 6 (some .int) Γ A) (hf : fX9_fits g v1 v2 v3 = some q) (hq : (fun x => x = fin) q) : Wk p l e { frames := 5, cells := 0, slots := 0, locals := 114 } s m args below meth c Γ A fin.1 (some (.int fin.2)) 0 6 [(0, .ref (ad Γ 901)), (1, .int v1), (2, .int v2), (3, .int v3)] [] g := by
  intro H locs ls hw hS hl
  unfold fX9_fits at hf
  obtain ⟨hx, hb, hml, hr, hown, htw, hlocks, hE⟩ := id C
  have hown : s.vm.findClass RX9 = some m.cls := hown
  refine lv_aload_n hx hb dX9_fits_0 rfl (lv_at hl 0 rfl) ?_
  refine va_get (ci := 9) (v := .ref (ad Γ 800)) (C := RX9) (T := TX9) (N := 8) hx hb htw uwX9 hown hE.1 (hw _ _ (wf_901 hE)) 0 rfl rfl 0 (by decide) (htw _ mw433) (fun _ h9 => h9) rfl dX9_fits_1 ?_
  refine lv_iload_n hx hb dX9_fits_4 rfl (lv_at hl 1 rfl) ?_
  obtain ⟨z1, hz1, hf⟩ := bd hf
  refine cl_Vs (rest := []) (kgX8_houseAt (l := l) (Γ := Γ) (A := A) (G := g) (o := 800) (wf_800 hE) hz1) ⟨hx, hb, hml, hown, htw⟩ hE hw hS (hw _ _ (wf_800 hE)) (q0 := 0) rfl rfl mw629 mw630 mw631 mw119 mw632 pdX8_houseAt ⟨Nat.le_of_ble_eq_true rfl, Nat.le_of_ble_eq_true rfl⟩ rfl rfl hl.1 (Nat.le_of_ble_eq_true rfl) dX9_fits_5 (fun H locs hw hS => ?_)
  cases z1 with
  | none =>
    have hf := oc_none hf
    refine lv_astoreN (lv' := [(4, .null), (0, .ref (ad Γ 901)), (1, .int v1), (2, .int v2), (3, .int v3)]) hx hb dX9_fits_8 hl (by decide) rfl (fun ls hl => ?_)
    refine lv_aload_n hx hb dX9_fits_10 rfl (lv_at hl 1 rfl) ?_
    refine va_get (ci := 9) (v := .ref (ad Γ 800)) (C := RX9) (T := TX9) (N := 8) hx hb htw uwX9 hown hE.1 (hw _ _ (wf_901 hE)) 0 rfl rfl 0 (by decide) (htw _ mw433) (fun _ h9 => h9) rfl dX9_fits_11 ?_
    refine lv_iconst (v := 3) hx hb dX9_fits_14 (by decide) ?_
    refine lv_iload_n hx hb dX9_fits_15 rfl (lv_at hl 3 rfl) ?_
    obtain ⟨z3, hz3, hf⟩ := bd hf
    refine cl_Vs (rest := []) (kgX8_rowsAt (l := l) (Γ := Γ) (A := A) (G := g) (o := 800) (wf_800 hE) hz3) ⟨hx, hb, hml, hown, htw⟩ hE hw hS (hw _ _ (wf_800 hE)) (q0 := 0) rfl rfl mw658 mw659 mw660 mw119 mw661 pdX8_rowsAt ⟨Nat.le_of_ble_eq_true rfl, Nat.le_of_ble_eq_true rfl⟩ rfl rfl hl.1 (Nat.le_of_ble_eq_true rfl) dX9_fits_16 (fun H locs hw hS => ?_)
    cases z3 with
    | none =>
      have hf := oc_none hf
      refine lv_astoreN (lv' := [(5, .null), (4, .null), (0, .ref (ad Γ 901)), (1, .int v1), (2, .int v2), (3, .int v3)]) hx hb dX9_fits_19 hl (by decide) rfl (fun ls hl => ?_)
      refine lv_aloadN hx hb dX9_fits_21 (lv_at hl 1 rfl) ?_
      refine lv_ifnullN (tgt := 42) hx hb dX9_fits_23 (by decide) ?_
      refine lv_bipush (v := (-2)) hx hb dX9_fits_42 (by decide) ?_
      obtain rfl := Option.some.inj hf
      subst hq
      exact rt_i C hw hS dX9_fits_44
    | some h4 =>
      have hf := oc_some hf
      obtain ⟨g5, hf⟩ := gd_some hf
      refine lv_astore (lv' := [(5, .ref (ad Γ h4)), (4, .null), (0, .ref (ad Γ 901)), (1, .int v1), (2, .int v2), (3, .int v3)]) hx hb dX9_fits_19 hl (by decide) rfl (fun ls hl => ?_)
      refine lv_aloadN hx hb dX9_fits_21 (lv_at hl 1 rfl) ?_
      refine lv_ifnullN (tgt := 42) hx hb dX9_fits_23 (by decide) ?_
      refine lv_bipush (v := (-2)) hx hb dX9_fits_42 (by decide) ?_
      obtain rfl := Option.some.inj hf
      subst hq
      exact rt_i C hw hS dX9_fits_44
  | some h2 =>
    have hf := oc_some hf
    obtain ⟨g6, hf⟩ := gd_some hf
    refine lv_astore (lv' := [(4, .ref (ad Γ h2)), (0, .ref (ad Γ 901)), (1, .int v1), (2, .int v2), (3, .int v3)]) hx hb dX9_fits_8 hl (by decide) rfl (fun ls hl => ?_)
    refine lv_aload_n hx hb dX9_fits_10 rfl (lv_at hl 1 rfl) ?_
    refine va_get (ci := 9) (v := .ref (ad Γ 800)) (C := RX9) (T := TX9) (N := 8) hx hb htw uwX9 hown hE.1 (hw _ _ (wf_901 hE)) 0 rfl rfl 0 (by decide) (htw _ mw433) (fun _ h9 => h9) rfl dX9_fits_11 ?_
    refine lv_iconst (v := 3) hx hb dX9_fits_14 (by decide) ?_
    refine lv_iload_n hx hb dX9_fits_15 rfl (lv_at hl 3 rfl) ?_
    obtain ⟨z7, hz7, hf⟩ := bd hf
    refine cl_Vs (rest := []) (kgX8_rowsAt (l := l) (Γ := Γ) (A := A) (G := g) (o := 800) (wf_800 hE) hz7) ⟨hx, hb, hml, hown, htw⟩ hE hw hS (hw _ _ (wf_800 hE)) (q0 := 0) rfl rfl mw658 mw659 mw660 mw119 mw661 pdX8_rowsAt ⟨Nat.le_of_ble_eq_true rfl, Nat.le_of_ble_eq_true rfl⟩ rfl rfl hl.1 (Nat.le_of_ble_eq_true rfl) dX9_fits_16 (fun H locs hw hS => ?_)
    cases z7 with
    | none =>
      have hf := oc_none hf
      refine lv_astoreN (lv' := [(5, .null), (4, .ref (ad Γ h2)), (0, .ref (ad Γ 901)), (1, .int v1), (2, .int v2), (3, .int v3)]) hx hb dX9_fits_19 hl (by decide) rfl (fun ls hl => ?_)
      refine lv_aload hx hb dX9_fits_21 (lv_at hl 1 rfl) ?_
      refine lv_ifnull hx hb dX9_fits_23 ?_
      refine lv_aloadN hx hb dX9_fits_26 (lv_at hl 0 rfl) ?_
      refine lv_ifnullN (tgt := 42) hx hb dX9_fits_28 (by decide) ?_
      refine lv_bipush (v := (-2)) hx hb dX9_fits_42 (by decide) ?_
      obtain rfl := Option.some.inj hf
      subst hq
      exact rt_i C hw hS dX9_fits_44
    | some h8 =>
      have hf := oc_some hf
      obtain ⟨g9, hf⟩ := gd_some hf
      refine lv_astore (lv' := [(5, .ref (ad Γ h8)), (4, .ref (ad Γ h2)), (0, .ref (ad Γ 901)), (1, .int v1), (2, .int v2), (3, .int v3)]) hx hb dX9_fits_19 hl (by decide) rfl (fun ls hl => ?_)
      refine lv_aload hx hb dX9_fits_21 (lv_at hl 1 rfl) ?_
      refine lv_ifnull hx hb dX9_fits_23 ?_
      refine lv_aload hx hb dX9_fits_26 (lv_at hl 0 rfl) ?_
      refine lv_ifnull hx hb dX9_fits_28 ?_
      refine lv_aload hx hb dX9_fits_31 (lv_at hl 1 rfl) ?_
      refine lv_aload hx hb dX9_fits_33 (lv_at hl 0 rfl) ?_
      refine lv_iconst (v := 1) hx hb dX9_fits_35 (by decide) ?_
      obtain ⟨z10, hz10, hf⟩ := bd hf
      refine cl_Vs (rest := []) (kX2_hasPieces (l := l) (Γ := Γ) (A := A) (hm_kd hE g6) (rw_kd hE g9) hz10) ⟨hx, hb, hml, hown, htw⟩ hE hw hS (hw _ _ (hm_kd hE g6)) (q0 := 0) rfl rfl mw831 mw832 mw833 mw120 mw834 pdX2_hasPieces ⟨Nat.le_of_ble_eq_true rfl, Nat.le_of_ble_eq_true rfl⟩ rfl rfl hl.1 (Nat.le_of_ble_eq_true rfl) dX9_fits_36 (fun H locs hw hS => ?_)
      refine lv_if_ne (tgt := 45) hx hb dX9_fits_39 (by decide) (fun c25 => ?_) (fun c25 => ?_)
      · have hf := ifn c25 hf
        refine lv_aload_n hx hb dX9_fits_45 rfl (lv_at hl 2 rfl) ?_
        refine va_get (ci := 9) (v := .ref (ad Γ 101)) (C := RX9) (T := TX9) (N := 8) hx hb htw uwX9 hown hE.1 (hw _ _ (wf_901 hE)) 0 rfl rfl 6 (by decide) (htw _ mw439) (fun _ h9 => h9) rfl dX9_fits_46 ?_
        refine lv_aload hx hb dX9_fits_49 (lv_at hl 1 rfl) ?_
        refine lv_aload hx hb dX9_fits_51 (lv_at hl 0 rfl) ?_
        obtain ⟨z11, hz11, hf⟩ := bd hf
        refine cl_Vv (rest := []) (kX1_gather (l := l) (Γ := Γ) (A := A) (hm_kd hE g6) (rw_kd hE g9) hz11) ⟨hx, hb, hml, hown, htw⟩ hE hw hS (hw _ _ (wf_101 hE)) (q0 := 0) rfl rfl mw1005 mw1006 mw1007 mw127 mw1008 pdX1_gather ⟨Nat.le_of_ble_eq_true rfl, Nat.le_of_ble_eq_true rfl⟩ rfl rfl hl.1 (Nat.le_of_ble_eq_true rfl) dX9_fits_53 (fun H locs hw hS => ?_)
        refine lv_iload_n hx hb dX9_fits_56 rfl (lv_at hl 5 rfl) ?_
        by_cases c20 : v3 = 0
        · have hf := ifp c20 hf
          rw [c20]
          refine lv_tableIn (off := 35) (tgt := 92) hx hb dX9_fits_57 (by decide) (by decide) (by rfl) (by decide) ?_
          refine lv_aload_n hx hb dX9_fits_92 rfl (lv_at hl 2 rfl) ?_
          refine va_get (ci := 9) (v := .ref (ad Γ 101)) (C := RX9) (T := TX9) (N := 8) hx hb htw uwX9 hown hE.1 (hw _ _ (wf_901 hE)) 0 rfl rfl 6 (by decide) (htw _ mw439) (fun _ h9 => h9) rfl dX9_fits_93 ?_
          refine va_get (ci := 1) (v := .int (gi (z11 101) 1)) (C := RX1) (T := TX1) (N := 3) hx hb htw uwX1 hown hE.1 (hw _ _ (wf_101 hE)) 0 rfl rfl 1 (by decide) (htw _ mw414) (fun _ h9 => h9) rfl dX9_fits_96 ?_
          obtain rfl := Option.some.inj hf
          subst hq
          exact rt_i C hw hS dX9_fits_99
        have hf := ifn c20 hf
        by_cases c21 : v3 = 1
        · have hf := ifp c21 hf
          rw [c21]
          refine lv_tableIn (off := 43) (tgt := 100) hx hb dX9_fits_57 (by decide) (by decide) (by rfl) (by decide) ?_
          refine lv_aload_n hx hb dX9_fits_100 rfl (lv_at hl 2 rfl) ?_
          refine va_get (ci := 9) (v := .ref (ad Γ 101)) (C := RX9) (T := TX9) (N := 8) hx hb htw uwX9 hown hE.1 (hw _ _ (wf_901 hE)) 0 rfl rfl 6 (by decide) (htw _ mw439) (fun _ h9 => h9) rfl dX9_fits_101 ?_
          obtain ⟨z16, hz16, hf⟩ := bd hf
          refine cl_Vs (rest := []) (kX1_sureKind (l := l) (Γ := Γ) (A := A) hz16) ⟨hx, hb, hml, hown, htw⟩ hE hw hS (hw _ _ (wf_101 hE)) (q0 := 0) rfl rfl mw1027 mw1028 mw1029 mw127 mw1030 pdX1_sureKind ⟨Nat.le_of_ble_eq_true rfl, Nat.le_of_ble_eq_true rfl⟩ rfl rfl hl.1 (Nat.le_of_ble_eq_true rfl) dX9_fits_104 (fun H locs hw hS => ?_)
          obtain rfl := Option.some.inj hf
          subst hq
          exact rt_i C hw hS dX9_fits_107
        have hf := ifn c21 hf
        by_cases c22 : v3 = 2
        · have hf := ifp c22 hf
          rw [c22]
          refine lv_tableIn (off := 51) (tgt := 108) hx hb dX9_fits_57 (by decide) (by decide) (by rfl) (by decide) ?_
          refine lv_aload_n hx hb dX9_fits_108 rfl (lv_at hl 2 rfl) ?_
          refine va_get (ci := 9) (v := .ref (ad Γ 101)) (C := RX9) (T := TX9) (N := 8) hx hb htw uwX9 hown hE.1 (hw _ _ (wf_901 hE)) 0 rfl rfl 6 (by decide) (htw _ mw439) (fun _ h9 => h9) rfl dX9_fits_109 ?_
          obtain ⟨z17, hz17, hf⟩ := bd hf
          refine cl_Vs (rest := []) (kX1_sureWeight (l := l) (Γ := Γ) (A := A) hz17) ⟨hx, hb, hml, hown, htw⟩ hE hw hS (hw _ _ (wf_101 hE)) (q0 := 0) rfl rfl mw1032 mw1033 mw1034 mw127 mw1035 pdX1_sureWeight ⟨Nat.le_of_ble_eq_true rfl, Nat.le_of_ble_eq_true rfl⟩ rfl rfl hl.1 (Nat.le_of_ble_eq_true rfl) dX9_fits_112 (fun H locs hw hS => ?_)
          obtain rfl := Option.some.inj hf
          subst hq
          exact rt_i C hw hS dX9_fits_115
        have hf := ifn c22 hf
        by_cases c23 : v3 = 3
        · have hf := ifp c23 hf
          rw [c23]
          refine lv_tableIn (off := 59) (tgt := 116) hx hb dX9_fits_57 (by decide) (by decide) (by rfl) (by decide) ?_
          refine lv_aload_n hx hb dX9_fits_116 rfl (lv_at hl 2 rfl) ?_
          refine va_get (ci := 9) (v := .ref (ad Γ 101)) (C := RX9) (T := TX9) (N := 8) hx hb htw uwX9 hown hE.1 (hw _ _ (wf_901 hE)) 0 rfl rfl 6 (by decide) (htw _ mw439) (fun _ h9 => h9) rfl dX9_fits_117 ?_
          refine lv_aload hx hb dX9_fits_120 (lv_at hl 1 rfl) ?_
          obtain ⟨z18, hz18, hf⟩ := bd hf
          refine cl_Vs (rest := []) (kX1_fittingSecrets (l := l) (Γ := Γ) (A := A) (hm_kd hE g6) hz18) ⟨hx, hb, hml, hown, htw⟩ hE hw hS (hw _ _ (wf_101 hE)) (q0 := 0) rfl rfl mw1037 mw1038 mw1039 mw127 mw1040 pdX1_fittingSecrets ⟨Nat.le_of_ble_eq_true rfl, Nat.le_of_ble_eq_true rfl⟩ rfl rfl hl.1 (Nat.le_of_ble_eq_true rfl) dX9_fits_122 (fun H locs hw hS => ?_)
          obtain rfl := Option.some.inj hf
          subst hq
          exact rt_i C hw hS dX9_fits_125
        have hf := ifn c23 hf
        by_cases c24 : v3 = 4
        · have hf := ifp c24 hf
          rw [c24]
          refine lv_tableIn (off := 69) (tgt := 126) hx hb dX9_fits_57 (by decide) (by decide) (by rfl) (by decide) ?_
          refine lv_aload_n hx hb dX9_fits_126 rfl (lv_at hl 2 rfl) ?_
          refine va_get (ci := 9) (v := .ref (ad Γ 101)) (C := RX9) (T := TX9) (N := 8) hx hb htw uwX9 hown hE.1 (hw _ _ (wf_901 hE)) 0 rfl rfl 6 (by decide) (htw _ mw439) (fun _ h9 => h9) rfl dX9_fits_127 ?_
          refine lv_aload hx hb dX9_fits_130 (lv_at hl 1 rfl) ?_
          obtain ⟨z19, hz19, hf⟩ := bd hf
          refine cl_Vs (rest := []) (kX1_bestAsked (l := l) (Γ := Γ) (A := A) (hm_kd hE g6) hz19) ⟨hx, hb, hml, hown, htw⟩ hE hw hS (hw _ _ (wf_101 hE)) (q0 := 0) rfl rfl mw1041 mw1042 mw1043 mw127 mw1044 pdX1_bestAsked ⟨Nat.le_of_ble_eq_true rfl, Nat.le_of_ble_eq_true rfl⟩ rfl rfl hl.1 (Nat.le_of_ble_eq_true rfl) dX9_fits_132 (fun H locs hw hS => ?_)
          obtain rfl := Option.some.inj hf
          subst hq
          exact rt_i C hw hS dX9_fits_135
        have hf := ifn c24 hf
        refine lv_tableOut (tgt := 136) hx hb dX9_fits_57 (by have := And.intro (ts_ne (k := 0) (by decide) c20) (And.intro (ts_ne (k := 1) (by decide) c21) (And.intro (ts_ne (k := 2) (by decide) c22) (And.intro (ts_ne (k := 3) (by decide) c23) (And.intro (ts_ne (k := 4) (by decide) c24) (True.intro))))); omega) (by decide) ?_
        refine lv_iload_n hx hb dX9_fits_136 rfl (lv_at hl 5 rfl) ?_
        refine lv_bipush (v := 10) hx hb dX9_fits_137 (by decide) ?_
        refine lv_icmp_lt (tgt := 171) hx hb dX9_fits_139 (by decide) (fun c15 => ?_) (fun c15 => ?_)
        · have hf := ifp c15 hf
          refine lv_bipush (v := (-2)) hx hb dX9_fits_171 (by decide) ?_
          obtain rfl := Option.some.inj hf
          subst hq
          exact rt_i C hw hS dX9_fits_173
        · have hf := ifn c15 hf
          refine lv_aload_n hx hb dX9_fits_142 rfl (lv_at hl 2 rfl) ?_
          refine va_get (ci := 9) (v := .ref (ad Γ 101)) (C := RX9) (T := TX9) (N := 8) hx hb htw uwX9 hown hE.1 (hw _ _ (wf_901 hE)) 0 rfl rfl 6 (by decide) (htw _ mw439) (fun _ h9 => h9) rfl dX9_fits_143 ?_
          refine lv_iload_n hx hb dX9_fits_146 rfl (lv_at hl 5 rfl) ?_
          refine lv_bipush (v := 10) hx hb dX9_fits_147 (by decide) ?_
          refine lv_isub hx hb dX9_fits_149 ?_
          obtain ⟨z12, hz12, hf⟩ := bd hf
          refine cl_Vs (rest := []) (kX1_hasFit (l := l) (Γ := Γ) (A := A) hz12) ⟨hx, hb, hml, hown, htw⟩ hE hw hS (hw _ _ (wf_101 hE)) (q0 := 0) rfl rfl mw1051 mw1052 mw1053 mw127 mw1054 pdX1_hasFit ⟨Nat.le_of_ble_eq_true rfl, Nat.le_of_ble_eq_true rfl⟩ rfl rfl hl.1 (Nat.le_of_ble_eq_true rfl) dX9_fits_150 (fun H locs hw hS => ?_)
          refine lv_if_eq (tgt := 171) hx hb dX9_fits_153 (by decide) (fun c14 => ?_) (fun c14 => ?_)
          · have hf := ifp c14 hf
            refine lv_bipush (v := (-2)) hx hb dX9_fits_171 (by decide) ?_
            obtain rfl := Option.some.inj hf
            subst hq
            exact rt_i C hw hS dX9_fits_173
          · have hf := ifn c14 hf
            refine lv_aload_n hx hb dX9_fits_156 rfl (lv_at hl 2 rfl) ?_
            refine va_get (ci := 9) (v := .ref (ad Γ 101)) (C := RX9) (T := TX9) (N := 8) hx hb htw uwX9 hown hE.1 (hw _ _ (wf_901 hE)) 0 rfl rfl 6 (by decide) (htw _ mw439) (fun _ h9 => h9) rfl dX9_fits_157 ?_
            refine va_get (ci := 1) (v := .ref (aa Γ 101 0)) (C := RX1) (T := TX1) (N := 3) hx hb htw uwX1 hown hE.1 (hw _ _ (wf_101 hE)) 0 rfl rfl 0 (by decide) (htw _ mw412) (fun _ h9 => h9) rfl dX9_fits_160 ?_
            refine lv_iload_n hx hb dX9_fits_163 rfl (lv_at hl 5 rfl) ?_
            refine lv_bipush (v := 10) hx hb dX9_fits_164 (by decide) ?_
            refine lv_isub hx hb dX9_fits_166 ?_
            obtain ⟨g13, hf⟩ := gd_some hf
            refine va_iald hx hb hE.1 (hw _ _ (wf_101 hE)) 1 0 rfl rfl (inR_in g13) dX9_fits_167 ?_
            refine lv_goto (tgt := 173) hx hb dX9_fits_168 (by decide) ?_
            obtain rfl := Option.some.inj hf
            subst hq
            exact rt_i C hw hS dX9_fits_173
      · have hf := ifp c25 hf
        refine lv_bipush (v := (-2)) hx hb dX9_fits_42 (by decide) ?_
        obtain rfl := Option.some.inj hf
        subst hq
        exact rt_i C hw hS dX9_fits_44

theorem kX9_fits {l : Launch} {Γ : Gm} {A : Nat → Prop} {g : Gs} {v1 : Int32} {v2 : Int32} {v3 : Int32} {fin : Gs × Int32} (hf : fX9_fits g v1 v2 v3 = some fin) : Kt l yX9_fits cX9_fits 6 (some .int) 5 114 Γ A g fin.1 [.ref (ad Γ 901), .int v1, .int v2, .int v3] (some (.int fin.2)) :=
  kt_of (by decide) (Nat.le_of_ble_eq_true rfl) (fun p e s m args below meth c C => wX9_fits_e C hf rfl)
