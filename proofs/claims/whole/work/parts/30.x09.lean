noncomputable def fX9_drawn (g : Gs) (v1 : Int32) (v2 : Int32) (v3 : Int32) (v4 : Int32) : Option (Gs × Int32) :=
  (fX8_houseAt (g 800) 800 v1).bind fun z1 => oc z1 (some ((g, (-2)))) (fun h2 => gd (isHm h2) (if v3 < 0 then some ((g, (-2))) else if v3 ≤ 60 then (fX0_draw g h2 v2 v3).bind fun z4 => (fX0_look z4 v4).bind fun z5 => some ((z4, z5)) else some ((g, (-2)))))
set_option maxRecDepth 100000 in
set_option maxHeartbeats 4000000 in
theorem wX9_drawn_e {p : Program} {l : Launch} {e : Env} {s : State} {m : MethodId} {args : Array Value} {below : List Frame} {meth : Method} {c : Code} {Γ : Gm} {A : Nat → Prop} {g : Gs} {v1 : Int32} {v2 : Int32} {v3 : Int32} {v4 : Int32} {q : (Gs × Int32)} {fin : Gs × Int32} (C : Cx p s m args meth c yX9_drawn cX9_drawn 6 (some .int) Γ A) (hf : fX9_drawn g v1 v2 v3 v4 = some q) (hq : (fun x => x = fin) q) : Wk p l e { frames := 6, cells := 0, slots := 0, locals := 136 } s m args below meth c Γ A fin.1 (some (.int fin.2)) 0 6 [(0, .ref (ad Γ 901)), (1, .int v1), (2, .int v2), (3, .int v3), (4, .int v4)] [] g := by
  intro H locs ls hw hS hl
  unfold fX9_drawn at hf
  obtain ⟨hx, hb, hml, hr, hown, htw, hlocks, hE⟩ := id C
  have hown : s.vm.findClass RX9 = some m.cls := hown
  refine lv_aload_n hx hb dX9_drawn_0 rfl (lv_at hl 0 rfl) ?_
  refine va_get (ci := 9) (v := .ref (ad Γ 800)) (C := RX9) (T := TX9) (N := 8) hx hb htw uwX9 hown hE.1 (hw _ _ (wf_901 hE)) 0 rfl rfl 0 (by decide) (htw _ mw433) (fun _ h9 => h9) rfl dX9_drawn_1 ?_
  refine lv_iload_n hx hb dX9_drawn_4 rfl (lv_at hl 1 rfl) ?_
  obtain ⟨z1, hz1, hf⟩ := bd hf
  refine cl_Vs (rest := []) (kgX8_houseAt (l := l) (Γ := Γ) (A := A) (G := g) (o := 800) (wf_800 hE) hz1) ⟨hx, hb, hml, hown, htw⟩ hE hw hS (hw _ _ (wf_800 hE)) (q0 := 0) rfl rfl mw629 mw630 mw631 mw119 mw632 pdX8_houseAt ⟨Nat.le_of_ble_eq_true rfl, Nat.le_of_ble_eq_true rfl⟩ rfl rfl hl.1 (Nat.le_of_ble_eq_true rfl) dX9_drawn_5 (fun H locs hw hS => ?_)
  cases z1 with
  | none =>
    have hf := oc_none hf
    refine lv_astoreN (lv' := [(5, .null), (0, .ref (ad Γ 901)), (1, .int v1), (2, .int v2), (3, .int v3), (4, .int v4)]) hx hb dX9_drawn_8 hl (by decide) rfl (fun ls hl => ?_)
    refine lv_aloadN hx hb dX9_drawn_10 (lv_at hl 0 rfl) ?_
    refine lv_ifnullN (tgt := 25) hx hb dX9_drawn_12 (by decide) ?_
    refine lv_bipush (v := (-2)) hx hb dX9_drawn_25 (by decide) ?_
    obtain rfl := Option.some.inj hf
    subst hq
    exact rt_i C hw hS dX9_drawn_27
  | some h2 =>
    have hf := oc_some hf
    obtain ⟨g3, hf⟩ := gd_some hf
    refine lv_astore (lv' := [(5, .ref (ad Γ h2)), (0, .ref (ad Γ 901)), (1, .int v1), (2, .int v2), (3, .int v3), (4, .int v4)]) hx hb dX9_drawn_8 hl (by decide) rfl (fun ls hl => ?_)
    refine lv_aload hx hb dX9_drawn_10 (lv_at hl 0 rfl) ?_
    refine lv_ifnull hx hb dX9_drawn_12 ?_
    refine lv_iload_n hx hb dX9_drawn_15 rfl (lv_at hl 4 rfl) ?_
    refine lv_if_lt (tgt := 25) hx hb dX9_drawn_16 (by decide) (fun c7 => ?_) (fun c7 => ?_)
    · have hf := ifp c7 hf
      refine lv_bipush (v := (-2)) hx hb dX9_drawn_25 (by decide) ?_
      obtain rfl := Option.some.inj hf
      subst hq
      exact rt_i C hw hS dX9_drawn_27
    · have hf := ifn c7 hf
      refine lv_iload_n hx hb dX9_drawn_19 rfl (lv_at hl 4 rfl) ?_
      refine lv_bipush (v := 60) hx hb dX9_drawn_20 (by decide) ?_
      refine lv_icmp_le (tgt := 28) hx hb dX9_drawn_22 (by decide) (fun c6 => ?_) (fun c6 => ?_)
      · have hf := ifp c6 hf
        refine lv_aload_n hx hb dX9_drawn_28 rfl (lv_at hl 1 rfl) ?_
        refine va_get (ci := 9) (v := .ref (ad Γ 1)) (C := RX9) (T := TX9) (N := 8) hx hb htw uwX9 hown hE.1 (hw _ _ (wf_901 hE)) 0 rfl rfl 3 (by decide) (htw _ mw436) (fun _ h9 => h9) rfl dX9_drawn_29 ?_
        refine lv_aload hx hb dX9_drawn_32 (lv_at hl 0 rfl) ?_
        refine lv_iload_n hx hb dX9_drawn_34 rfl (lv_at hl 3 rfl) ?_
        refine lv_iload_n hx hb dX9_drawn_35 rfl (lv_at hl 4 rfl) ?_
        obtain ⟨z4, hz4, hf⟩ := bd hf
        refine cl_Vv (rest := []) (kX0_draw (l := l) (Γ := Γ) (A := A) (hm_kd hE g3) hz4) ⟨hx, hb, hml, hown, htw⟩ hE hw hS (hw _ _ (wf_1 hE)) (q0 := 0) rfl rfl mw1059 mw1060 mw1061 mw124 mw1062 pdX0_draw ⟨Nat.le_of_ble_eq_true rfl, Nat.le_of_ble_eq_true rfl⟩ rfl rfl hl.1 (Nat.le_of_ble_eq_true rfl) dX9_drawn_36 (fun H locs hw hS => ?_)
        refine lv_aload_n hx hb dX9_drawn_39 rfl (lv_at hl 1 rfl) ?_
        refine va_get (ci := 9) (v := .ref (ad Γ 1)) (C := RX9) (T := TX9) (N := 8) hx hb htw uwX9 hown hE.1 (hw _ _ (wf_901 hE)) 0 rfl rfl 3 (by decide) (htw _ mw436) (fun _ h9 => h9) rfl dX9_drawn_40 ?_
        refine lv_iload hx hb dX9_drawn_43 (lv_at hl 5 rfl) ?_
        obtain ⟨z5, hz5, hf⟩ := bd hf
        refine cl_Vs (rest := []) (kX0_look (l := l) (Γ := Γ) (A := A) hz5) ⟨hx, hb, hml, hown, htw⟩ hE hw hS (hw _ _ (wf_1 hE)) (q0 := 0) rfl rfl mw812 mw813 mw814 mw124 mw815 pdX0_look ⟨Nat.le_of_ble_eq_true rfl, Nat.le_of_ble_eq_true rfl⟩ rfl rfl hl.1 (Nat.le_of_ble_eq_true rfl) dX9_drawn_45 (fun H locs hw hS => ?_)
        obtain rfl := Option.some.inj hf
        subst hq
        exact rt_i C hw hS dX9_drawn_48
      · have hf := ifn c6 hf
        refine lv_bipush (v := (-2)) hx hb dX9_drawn_25 (by decide) ?_
        obtain rfl := Option.some.inj hf
        subst hq
        exact rt_i C hw hS dX9_drawn_27

theorem kX9_drawn {l : Launch} {Γ : Gm} {A : Nat → Prop} {g : Gs} {v1 : Int32} {v2 : Int32} {v3 : Int32} {v4 : Int32} {fin : Gs × Int32} (hf : fX9_drawn g v1 v2 v3 v4 = some fin) : Kt l yX9_drawn cX9_drawn 6 (some .int) 6 136 Γ A g fin.1 [.ref (ad Γ 901), .int v1, .int v2, .int v3, .int v4] (some (.int fin.2)) :=
  kt_of (by decide) (Nat.le_of_ble_eq_true rfl) (fun p e s m args below meth c C => wX9_drawn_e C hf rfl)
noncomputable def fX9_lasting (g : Gs) (v1 : Int32) (v2 : Int32) (v3 : Int32) (v4 : Int32) : Option Int32 :=
  (fX8_houseAt (g 800) 800 v1).bind fun z1 => oc z1 (some ((-1))) (fun h2 => gd (isHm h2) ((fX2_hasPiece (g h2) v2).bind fun z4 => if z4 = 0 then some ((-1)) else if (gi (g h2) 1) = 0 then some ((-1)) else if v3 < 0 then some ((-1)) else if v3 ≤ 60 then (fX2_longestShining (g h2) v2 v3).bind fun z5 => if v4 = 0 then some (z5) else (fX2_shineBehind (g h2) z5 v2 v3).bind fun z6 => some (z6) else some ((-1))))
set_option maxRecDepth 100000 in
set_option maxHeartbeats 4000000 in
theorem wX9_lasting_e {p : Program} {l : Launch} {e : Env} {s : State} {m : MethodId} {args : Array Value} {below : List Frame} {meth : Method} {c : Code} {Γ : Gm} {A : Nat → Prop} {g : Gs} {v1 : Int32} {v2 : Int32} {v3 : Int32} {v4 : Int32} {q : Int32} {fin : Int32} (C : Cx p s m args meth c yX9_lasting cX9_lasting 7 (some .int) Γ A) (hf : fX9_lasting g v1 v2 v3 v4 = some q) (hq : (fun x => x = fin) q) : Wk p l e { frames := 5, cells := 0, slots := 0, locals := 115 } s m args below meth c Γ A g (some (.int fin)) 0 7 [(0, .ref (ad Γ 901)), (1, .int v1), (2, .int v2), (3, .int v3), (4, .int v4)] [] g := by
  intro H locs ls hw hS hl
  unfold fX9_lasting at hf
  obtain ⟨hx, hb, hml, hr, hown, htw, hlocks, hE⟩ := id C
  have hown : s.vm.findClass RX9 = some m.cls := hown
  refine lv_aload_n hx hb dX9_lasting_0 rfl (lv_at hl 0 rfl) ?_
  refine va_get (ci := 9) (v := .ref (ad Γ 800)) (C := RX9) (T := TX9) (N := 8) hx hb htw uwX9 hown hE.1 (hw _ _ (wf_901 hE)) 0 rfl rfl 0 (by decide) (htw _ mw433) (fun _ h9 => h9) rfl dX9_lasting_1 ?_
  refine lv_iload_n hx hb dX9_lasting_4 rfl (lv_at hl 1 rfl) ?_
  obtain ⟨z1, hz1, hf⟩ := bd hf
  refine cl_Vs (rest := []) (kgX8_houseAt (l := l) (Γ := Γ) (A := A) (G := g) (o := 800) (wf_800 hE) hz1) ⟨hx, hb, hml, hown, htw⟩ hE hw hS (hw _ _ (wf_800 hE)) (q0 := 0) rfl rfl mw629 mw630 mw631 mw119 mw632 pdX8_houseAt ⟨Nat.le_of_ble_eq_true rfl, Nat.le_of_ble_eq_true rfl⟩ rfl rfl hl.1 (Nat.le_of_ble_eq_true rfl) dX9_lasting_5 (fun H locs hw hS => ?_)
  cases z1 with
  | none =>
    have hf := oc_none hf
    refine lv_astoreN (lv' := [(5, .null), (0, .ref (ad Γ 901)), (1, .int v1), (2, .int v2), (3, .int v3), (4, .int v4)]) hx hb dX9_lasting_8 hl (by decide) rfl (fun ls hl => ?_)
    refine lv_aloadN hx hb dX9_lasting_10 (lv_at hl 0 rfl) ?_
    refine lv_ifnullN (tgt := 42) hx hb dX9_lasting_12 (by decide) ?_
    refine lv_iconst (v := (-1)) hx hb dX9_lasting_42 (by decide) ?_
    obtain rfl := Option.some.inj hf
    subst hq
    exact rt_i C hw hS dX9_lasting_43
  | some h2 =>
    have hf := oc_some hf
    obtain ⟨g3, hf⟩ := gd_some hf
    refine lv_astore (lv' := [(5, .ref (ad Γ h2)), (0, .ref (ad Γ 901)), (1, .int v1), (2, .int v2), (3, .int v3), (4, .int v4)]) hx hb dX9_lasting_8 hl (by decide) rfl (fun ls hl => ?_)
    refine lv_aload hx hb dX9_lasting_10 (lv_at hl 0 rfl) ?_
    refine lv_ifnull hx hb dX9_lasting_12 ?_
    refine lv_aload hx hb dX9_lasting_15 (lv_at hl 0 rfl) ?_
    refine lv_iload_n hx hb dX9_lasting_17 rfl (lv_at hl 3 rfl) ?_
    obtain ⟨z4, hz4, hf⟩ := bd hf
    refine cl_Vs (rest := []) (kgX2_hasPiece (l := l) (Γ := Γ) (A := A) (G := g) (o := h2) (hm_kd hE g3) hz4) ⟨hx, hb, hml, hown, htw⟩ hE hw hS (hw _ _ (hm_kd hE g3)) (q0 := 0) rfl rfl mw707 mw683 mw684 mw120 mw685 pdX2_hasPiece ⟨Nat.le_of_ble_eq_true rfl, Nat.le_of_ble_eq_true rfl⟩ rfl rfl hl.1 (Nat.le_of_ble_eq_true rfl) dX9_lasting_18 (fun H locs hw hS => ?_)
    refine lv_if_eq (tgt := 42) hx hb dX9_lasting_21 (by decide) (fun c11 => ?_) (fun c11 => ?_)
    · have hf := ifp c11 hf
      refine lv_iconst (v := (-1)) hx hb dX9_lasting_42 (by decide) ?_
      obtain rfl := Option.some.inj hf
      subst hq
      exact rt_i C hw hS dX9_lasting_43
    · have hf := ifn c11 hf
      refine lv_aload hx hb dX9_lasting_24 (lv_at hl 0 rfl) ?_
      refine va_get (ci := 2) (v := .int (gi (g h2) 1)) (C := RX2) (T := TX2) (N := 11) hx hb htw uwX2 hown hE.1 (hw _ _ (hm_kd hE g3)) 0 rfl rfl 1 (by decide) (htw _ mw169) (fun _ h9 => h9) rfl dX9_lasting_26 ?_
      refine lv_if_eq (tgt := 42) hx hb dX9_lasting_29 (by decide) (fun c10 => ?_) (fun c10 => ?_)
      · have hf := ifp c10 hf
        refine lv_iconst (v := (-1)) hx hb dX9_lasting_42 (by decide) ?_
        obtain rfl := Option.some.inj hf
        subst hq
        exact rt_i C hw hS dX9_lasting_43
      · have hf := ifn c10 hf
        refine lv_iload_n hx hb dX9_lasting_32 rfl (lv_at hl 4 rfl) ?_
        refine lv_if_lt (tgt := 42) hx hb dX9_lasting_33 (by decide) (fun c9 => ?_) (fun c9 => ?_)
        · have hf := ifp c9 hf
          refine lv_iconst (v := (-1)) hx hb dX9_lasting_42 (by decide) ?_
          obtain rfl := Option.some.inj hf
          subst hq
          exact rt_i C hw hS dX9_lasting_43
        · have hf := ifn c9 hf
          refine lv_iload_n hx hb dX9_lasting_36 rfl (lv_at hl 4 rfl) ?_
          refine lv_bipush (v := 60) hx hb dX9_lasting_37 (by decide) ?_
          refine lv_icmp_le (tgt := 44) hx hb dX9_lasting_39 (by decide) (fun c8 => ?_) (fun c8 => ?_)
          · have hf := ifp c8 hf
            refine lv_aload hx hb dX9_lasting_44 (lv_at hl 0 rfl) ?_
            refine lv_iload_n hx hb dX9_lasting_46 rfl (lv_at hl 3 rfl) ?_
            refine lv_iload_n hx hb dX9_lasting_47 rfl (lv_at hl 4 rfl) ?_
            obtain ⟨z5, hz5, hf⟩ := bd hf
            refine cl_Vs (rest := []) (kgX2_longestShining (l := l) (Γ := Γ) (A := A) (G := g) (o := h2) (hm_kd hE g3) hz5) ⟨hx, hb, hml, hown, htw⟩ hE hw hS (hw _ _ (hm_kd hE g3)) (q0 := 0) rfl rfl mw1080 mw1081 mw1082 mw120 mw1083 pdX2_longestShining ⟨Nat.le_of_ble_eq_true rfl, Nat.le_of_ble_eq_true rfl⟩ rfl rfl hl.1 (Nat.le_of_ble_eq_true rfl) dX9_lasting_48 (fun H locs hw hS => ?_)
            refine lv_istore (lv' := [(6, .int z5), (5, .ref (ad Γ h2)), (0, .ref (ad Γ 901)), (1, .int v1), (2, .int v2), (3, .int v3), (4, .int v4)]) hx hb dX9_lasting_51 hl (by decide) rfl (fun ls hl => ?_)
            refine lv_iload hx hb dX9_lasting_53 (lv_at hl 6 rfl) ?_
            refine lv_if_eq (tgt := 70) hx hb dX9_lasting_55 (by decide) (fun c7 => ?_) (fun c7 => ?_)
            · have hf := ifp c7 hf
              refine lv_iload hx hb dX9_lasting_70 (lv_at hl 0 rfl) ?_
              obtain rfl := Option.some.inj hf
              subst hq
              exact rt_i C hw hS dX9_lasting_72
            · have hf := ifn c7 hf
              refine lv_aload hx hb dX9_lasting_58 (lv_at hl 1 rfl) ?_
              refine lv_iload hx hb dX9_lasting_60 (lv_at hl 0 rfl) ?_
              refine lv_iload_n hx hb dX9_lasting_62 rfl (lv_at hl 4 rfl) ?_
              refine lv_iload_n hx hb dX9_lasting_63 rfl (lv_at hl 5 rfl) ?_
              obtain ⟨z6, hz6, hf⟩ := bd hf
              refine cl_Vs (rest := []) (kgX2_shineBehind (l := l) (Γ := Γ) (A := A) (G := g) (o := h2) (hm_kd hE g3) hz6) ⟨hx, hb, hml, hown, htw⟩ hE hw hS (hw _ _ (hm_kd hE g3)) (q0 := 0) rfl rfl mw1090 mw1085 mw1086 mw120 mw1087 pdX2_shineBehind ⟨Nat.le_of_ble_eq_true rfl, Nat.le_of_ble_eq_true rfl⟩ rfl rfl hl.1 (Nat.le_of_ble_eq_true rfl) dX9_lasting_64 (fun H locs hw hS => ?_)
              refine lv_goto (tgt := 72) hx hb dX9_lasting_67 (by decide) ?_
              obtain rfl := Option.some.inj hf
              subst hq
              exact rt_i C hw hS dX9_lasting_72
          · have hf := ifn c8 hf
            refine lv_iconst (v := (-1)) hx hb dX9_lasting_42 (by decide) ?_
            obtain rfl := Option.some.inj hf
            subst hq
            exact rt_i C hw hS dX9_lasting_43

theorem kX9_lasting {l : Launch} {Γ : Gm} {A : Nat → Prop} {g : Gs} {v1 : Int32} {v2 : Int32} {v3 : Int32} {v4 : Int32} {fin : Int32} (hf : fX9_lasting g v1 v2 v3 v4 = some fin) : Kt l yX9_lasting cX9_lasting 7 (some .int) 5 115 Γ A g g [.ref (ad Γ 901), .int v1, .int v2, .int v3, .int v4] (some (.int fin)) :=
  kt_of (by decide) (Nat.le_of_ble_eq_true rfl) (fun p e s m args below meth c C => wX9_lasting_e C hf rfl)
noncomputable def bX9_lit_32 (g : Gs) (v2 : Int32) (v3 : Nat) (v4 : Int32) (v5 : Int32) : Option ((Int32 × Int32) ⊕ Int32) :=
  if (gi (g v3) 1) ≤ v5 then some (.inr (v4)) else (fX2_longestLit (g v3) v5 v2).bind fun z1 => some (.inl (v4 + z1, v5 + 1))
set_option maxRecDepth 100000 in
set_option maxHeartbeats 4000000 in
theorem wX9_lit_32 {p : Program} {l : Launch} {e : Env} {s : State} {m : MethodId} {args : Array Value} {below : List Frame} {meth : Method} {c : Code} {Γ : Gm} {A : Nat → Prop} {g : Gs} {v2 : Int32} {v3 : Nat} {v4 : Int32} {v5 : Int32} {q : ((Int32 × Int32) ⊕ Int32)} {fin : Int32} (C : Cx p s m args meth c yX9_lit cX9_lit 6 (some .int) Γ A) (hv3 : kd Γ v3 = some 2) (hf : bX9_lit_32 g v2 v3 v4 v5 = some q) (hq : (KC (fun st : Int32 × Int32 => Wk p l e { frames := 4, cells := 0, slots := 0, locals := 92 } s m args below meth c Γ A g (some (.int fin)) 32 6 [(2, .int v2), (3, .ref (ad Γ v3)), (4, .int st.1), (5, .int st.2)] [] g) (fun x => x = fin)) q) : Wk p l e { frames := 4, cells := 0, slots := 0, locals := 92 } s m args below meth c Γ A g (some (.int fin)) 32 6 [(2, .int v2), (3, .ref (ad Γ v3)), (4, .int v4), (5, .int v5)] [] g := by
  intro H locs ls hw hS hl
  unfold bX9_lit_32 at hf
  obtain ⟨hx, hb, hml, hr, hown, htw, hlocks, hE⟩ := id C
  have hown : s.vm.findClass RX9 = some m.cls := hown
  refine lv_iload hx hb dX9_lit_32 (lv_at hl 3 rfl) ?_
  refine lv_aload_n hx hb dX9_lit_34 rfl (lv_at hl 1 rfl) ?_
  refine va_get (ci := 2) (v := .int (gi (g v3) 1)) (C := RX2) (T := TX2) (N := 11) hx hb htw uwX2 hown hE.1 (hw _ _ hv3) 0 rfl rfl 1 (by decide) (htw _ mw169) (fun _ h9 => h9) rfl dX9_lit_35 ?_
  refine lv_icmp_ge (tgt := 59) hx hb dX9_lit_38 (by decide) (fun c2 => ?_) (fun c2 => ?_)
  · have hf := ifp c2 hf
    refine lv_iload hx hb dX9_lit_59 (lv_at hl 2 rfl) ?_
    obtain rfl := Option.some.inj hf
    have hq := hq.2 _ rfl
    subst hq
    exact rt_i C hw hS dX9_lit_61
  · have hf := ifn c2 hf
    refine lv_iload hx hb dX9_lit_41 (lv_at hl 2 rfl) ?_
    refine lv_aload_n hx hb dX9_lit_43 rfl (lv_at hl 1 rfl) ?_
    refine lv_iload hx hb dX9_lit_44 (lv_at hl 3 rfl) ?_
    refine lv_iload_n hx hb dX9_lit_46 rfl (lv_at hl 0 rfl) ?_
    obtain ⟨z1, hz1, hf⟩ := bd hf
    refine cl_Vs (rest := [.int v4]) (kgX2_longestLit (l := l) (Γ := Γ) (A := A) (G := g) (o := v3) hv3 hz1) ⟨hx, hb, hml, hown, htw⟩ hE hw hS (hw _ _ hv3) (q0 := 0) rfl rfl mw1095 mw1096 mw1097 mw120 mw1098 pdX2_longestLit ⟨Nat.le_of_ble_eq_true rfl, Nat.le_of_ble_eq_true rfl⟩ rfl rfl hl.1 (Nat.le_of_ble_eq_true rfl) dX9_lit_47 (fun H locs hw hS => ?_)
    refine lv_iadd hx hb dX9_lit_50 ?_
    refine lv_istore (lv' := [(4, .int (v4 + z1)), (2, .int v2), (3, .ref (ad Γ v3)), (5, .int v5)]) hx hb dX9_lit_51 hl (by decide) rfl (fun ls hl => ?_)
    refine lv_iinc (v := v5 + 1) (lv' := [(5, .int (v5 + 1)), (4, .int (v4 + z1)), (2, .int v2), (3, .ref (ad Γ v3))]) hx hb dX9_lit_53 hl (k := 3) rfl (by rfl) (by decide) rfl (fun ls hl => ?_)
    refine lv_goto (tgt := 32) hx hb dX9_lit_56 (by decide) ?_
    obtain rfl := Option.some.inj hf
    exact hq.1 _ rfl H locs ls hw hS (lv_sub hl [2, 3, 1, 0] rfl)

set_option maxRecDepth 100000 in
set_option maxHeartbeats 4000000 in
theorem lwX9_lit_32 {p : Program} {l : Launch} {e : Env} {s : State} {m : MethodId} {args : Array Value} {below : List Frame} {meth : Method} {c : Code} {Γ : Gm} {A : Nat → Prop} {g : Gs} {v2 : Int32} {v3 : Nat} {v4 : Int32} {v5 : Int32} {q : Int32} {fin : Int32} (C : Cx p s m args meth c yX9_lit cX9_lit 6 (some .int) Γ A) (hv3 : kd Γ v3 = some 2) (hf : iter (fun st : Int32 × Int32 => bX9_lit_32 g v2 v3 st.1 st.2) (v4, v5) = some q) (hq : (fun x => x = fin) q) : Wk p l e { frames := 4, cells := 0, slots := 0, locals := 92 } s m args below meth c Γ A g (some (.int fin)) 32 6 [(2, .int v2), (3, .ref (ad Γ v3)), (4, .int v4), (5, .int v5)] [] g := by
  intro H locs ls hw hS hl
  refine iter_walk (P := (fun st : Int32 × Int32 => Wk p l e { frames := 4, cells := 0, slots := 0, locals := 92 } s m args below meth c Γ A g (some (.int fin)) 32 6 [(2, .int v2), (3, .ref (ad Γ v3)), (4, .int st.1), (5, .int st.2)] [] g)) (K := (fun x => x = fin)) (fun st q hq1 h1 h2 => ?_) hf hq H locs ls hw hS hl
  exact wX9_lit_32 (v4 := st.1) (v5 := st.2) C hv3 hq1 ⟨h1, h2⟩

noncomputable def fX9_lit (g : Gs) (v1 : Int32) (v2 : Int32) : Option Int32 :=
  (fX8_houseAt (g 800) 800 v1).bind fun z3 => oc z3 (some ((-1))) (fun h4 => gd (isHm h4) (if v2 < 1 then some ((-1)) else if v2 ≤ 60 then iter (fun st : Int32 × Int32 => bX9_lit_32 g v2 h4 st.1 st.2) (0, 0) else some ((-1))))
set_option maxRecDepth 100000 in
set_option maxHeartbeats 4000000 in
theorem wX9_lit_e {p : Program} {l : Launch} {e : Env} {s : State} {m : MethodId} {args : Array Value} {below : List Frame} {meth : Method} {c : Code} {Γ : Gm} {A : Nat → Prop} {g : Gs} {v1 : Int32} {v2 : Int32} {q : Int32} {fin : Int32} (C : Cx p s m args meth c yX9_lit cX9_lit 6 (some .int) Γ A) (hf : fX9_lit g v1 v2 = some q) (hq : (fun x => x = fin) q) : Wk p l e { frames := 4, cells := 0, slots := 0, locals := 92 } s m args below meth c Γ A g (some (.int fin)) 0 6 [(0, .ref (ad Γ 901)), (1, .int v1), (2, .int v2)] [] g := by
  intro H locs ls hw hS hl
  unfold fX9_lit at hf
  obtain ⟨hx, hb, hml, hr, hown, htw, hlocks, hE⟩ := id C
  have hown : s.vm.findClass RX9 = some m.cls := hown
  refine lv_aload_n hx hb dX9_lit_0 rfl (lv_at hl 0 rfl) ?_
  refine va_get (ci := 9) (v := .ref (ad Γ 800)) (C := RX9) (T := TX9) (N := 8) hx hb htw uwX9 hown hE.1 (hw _ _ (wf_901 hE)) 0 rfl rfl 0 (by decide) (htw _ mw433) (fun _ h9 => h9) rfl dX9_lit_1 ?_
  refine lv_iload_n hx hb dX9_lit_4 rfl (lv_at hl 1 rfl) ?_
  obtain ⟨z3, hz3, hf⟩ := bd hf
  refine cl_Vs (rest := []) (kgX8_houseAt (l := l) (Γ := Γ) (A := A) (G := g) (o := 800) (wf_800 hE) hz3) ⟨hx, hb, hml, hown, htw⟩ hE hw hS (hw _ _ (wf_800 hE)) (q0 := 0) rfl rfl mw629 mw630 mw631 mw119 mw632 pdX8_houseAt ⟨Nat.le_of_ble_eq_true rfl, Nat.le_of_ble_eq_true rfl⟩ rfl rfl hl.1 (Nat.le_of_ble_eq_true rfl) dX9_lit_5 (fun H locs hw hS => ?_)
  cases z3 with
  | none =>
    have hf := oc_none hf
    refine lv_astore_nN (lv' := [(3, .null), (0, .ref (ad Γ 901)), (1, .int v1), (2, .int v2)]) hx hb dX9_lit_8 rfl hl (by decide) rfl (fun ls hl => ?_)
    refine lv_aload_nN hx hb dX9_lit_9 rfl (lv_at hl 0 rfl) ?_
    refine lv_ifnullN (tgt := 24) hx hb dX9_lit_10 (by decide) ?_
    refine lv_iconst (v := (-1)) hx hb dX9_lit_24 (by decide) ?_
    obtain rfl := Option.some.inj hf
    subst hq
    exact rt_i C hw hS dX9_lit_25
  | some h4 =>
    have hf := oc_some hf
    obtain ⟨g5, hf⟩ := gd_some hf
    refine lv_astore_n (lv' := [(3, .ref (ad Γ h4)), (0, .ref (ad Γ 901)), (1, .int v1), (2, .int v2)]) hx hb dX9_lit_8 rfl hl (by decide) rfl (fun ls hl => ?_)
    refine lv_aload_n hx hb dX9_lit_9 rfl (lv_at hl 0 rfl) ?_
    refine lv_ifnull hx hb dX9_lit_10 ?_
    refine lv_iload_n hx hb dX9_lit_13 rfl (lv_at hl 3 rfl) ?_
    refine lv_iconst (v := 1) hx hb dX9_lit_14 (by decide) ?_
    refine lv_icmp_lt (tgt := 24) hx hb dX9_lit_15 (by decide) (fun c7 => ?_) (fun c7 => ?_)
    · have hf := ifp c7 hf
      refine lv_iconst (v := (-1)) hx hb dX9_lit_24 (by decide) ?_
      obtain rfl := Option.some.inj hf
      subst hq
      exact rt_i C hw hS dX9_lit_25
    · have hf := ifn c7 hf
      refine lv_iload_n hx hb dX9_lit_18 rfl (lv_at hl 3 rfl) ?_
      refine lv_bipush (v := 60) hx hb dX9_lit_19 (by decide) ?_
      refine lv_icmp_le (tgt := 26) hx hb dX9_lit_21 (by decide) (fun c6 => ?_) (fun c6 => ?_)
      · have hf := ifp c6 hf
        refine lv_iconst (v := 0) hx hb dX9_lit_26 (by decide) ?_
        refine lv_istore (lv' := [(4, .int 0), (3, .ref (ad Γ h4)), (0, .ref (ad Γ 901)), (1, .int v1), (2, .int v2)]) hx hb dX9_lit_27 hl (by decide) rfl (fun ls hl => ?_)
        refine lv_iconst (v := 0) hx hb dX9_lit_29 (by decide) ?_
        refine lv_istore (lv' := [(5, .int 0), (4, .int 0), (3, .ref (ad Γ h4)), (0, .ref (ad Γ 901)), (1, .int v1), (2, .int v2)]) hx hb dX9_lit_30 hl (by decide) rfl (fun ls hl => ?_)
        exact lwX9_lit_32 C (hm_kd hE g5) hf hq H locs ls hw hS (lv_sub hl [5, 2, 1, 0] rfl)
      · have hf := ifn c6 hf
        refine lv_iconst (v := (-1)) hx hb dX9_lit_24 (by decide) ?_
        obtain rfl := Option.some.inj hf
        subst hq
        exact rt_i C hw hS dX9_lit_25

theorem kX9_lit {l : Launch} {Γ : Gm} {A : Nat → Prop} {g : Gs} {v1 : Int32} {v2 : Int32} {fin : Int32} (hf : fX9_lit g v1 v2 = some fin) : Kt l yX9_lit cX9_lit 6 (some .int) 4 92 Γ A g g [.ref (ad Γ 901), .int v1, .int v2] (some (.int fin)) :=
  kt_of (by decide) (Nat.le_of_ble_eq_true rfl) (fun p e s m args below meth c C => wX9_lit_e C hf rfl)
noncomputable def fX9_dusky (g : Gs) (v1 : Int32) (v2 : Int32) (v3 : Int32) : Option Int32 :=
  (fX8_houseAt (g 800) 800 v1).bind fun z1 => oc z1 (some ((-1))) (fun h2 => gd (isHm h2) ((fX2_hasSecret (g h2) v2).bind fun z4 => if z4 = 0 then some ((-1)) else if 2 ≤ (gi (g h2) 0) then (fX2_duskiestCouple (g h2) v2).bind fun z5 => if v3 = 0 then some (z5) else (fX2_duskHours (g h2) v2 (z5 / 10) (z5 - z5 / 10 * 10)).bind fun z6 => some (z6) else some ((-1))))
set_option maxRecDepth 100000 in
set_option maxHeartbeats 4000000 in
theorem wX9_dusky_e {p : Program} {l : Launch} {e : Env} {s : State} {m : MethodId} {args : Array Value} {below : List Frame} {meth : Method} {c : Code} {Γ : Gm} {A : Nat → Prop} {g : Gs} {v1 : Int32} {v2 : Int32} {v3 : Int32} {q : Int32} {fin : Int32} (C : Cx p s m args meth c yX9_dusky cX9_dusky 6 (some .int) Γ A) (hf : fX9_dusky g v1 v2 v3 = some q) (hq : (fun x => x = fin) q) : Wk p l e { frames := 5, cells := 0, slots := 0, locals := 117 } s m args below meth c Γ A g (some (.int fin)) 0 6 [(0, .ref (ad Γ 901)), (1, .int v1), (2, .int v2), (3, .int v3)] [] g := by
  intro H locs ls hw hS hl
  unfold fX9_dusky at hf
  obtain ⟨hx, hb, hml, hr, hown, htw, hlocks, hE⟩ := id C
  have hown : s.vm.findClass RX9 = some m.cls := hown
  refine lv_aload_n hx hb dX9_dusky_0 rfl (lv_at hl 0 rfl) ?_
  refine va_get (ci := 9) (v := .ref (ad Γ 800)) (C := RX9) (T := TX9) (N := 8) hx hb htw uwX9 hown hE.1 (hw _ _ (wf_901 hE)) 0 rfl rfl 0 (by decide) (htw _ mw433) (fun _ h9 => h9) rfl dX9_dusky_1 ?_
  refine lv_iload_n hx hb dX9_dusky_4 rfl (lv_at hl 1 rfl) ?_
  obtain ⟨z1, hz1, hf⟩ := bd hf
  refine cl_Vs (rest := []) (kgX8_houseAt (l := l) (Γ := Γ) (A := A) (G := g) (o := 800) (wf_800 hE) hz1) ⟨hx, hb, hml, hown, htw⟩ hE hw hS (hw _ _ (wf_800 hE)) (q0 := 0) rfl rfl mw629 mw630 mw631 mw119 mw632 pdX8_houseAt ⟨Nat.le_of_ble_eq_true rfl, Nat.le_of_ble_eq_true rfl⟩ rfl rfl hl.1 (Nat.le_of_ble_eq_true rfl) dX9_dusky_5 (fun H locs hw hS => ?_)
  cases z1 with
  | none =>
    have hf := oc_none hf
    refine lv_astoreN (lv' := [(4, .null), (0, .ref (ad Γ 901)), (1, .int v1), (2, .int v2), (3, .int v3)]) hx hb dX9_dusky_8 hl (by decide) rfl (fun ls hl => ?_)
    refine lv_aloadN hx hb dX9_dusky_10 (lv_at hl 0 rfl) ?_
    refine lv_ifnullN (tgt := 33) hx hb dX9_dusky_12 (by decide) ?_
    refine lv_iconst (v := (-1)) hx hb dX9_dusky_33 (by decide) ?_
    obtain rfl := Option.some.inj hf
    subst hq
    exact rt_i C hw hS dX9_dusky_34
  | some h2 =>
    have hf := oc_some hf
    obtain ⟨g3, hf⟩ := gd_some hf
    refine lv_astore (lv' := [(4, .ref (ad Γ h2)), (0, .ref (ad Γ 901)), (1, .int v1), (2, .int v2), (3, .int v3)]) hx hb dX9_dusky_8 hl (by decide) rfl (fun ls hl => ?_)
    refine lv_aload hx hb dX9_dusky_10 (lv_at hl 0 rfl) ?_
    refine lv_ifnull hx hb dX9_dusky_12 ?_
    refine lv_aload hx hb dX9_dusky_15 (lv_at hl 0 rfl) ?_
    refine lv_iload_n hx hb dX9_dusky_17 rfl (lv_at hl 3 rfl) ?_
    obtain ⟨z4, hz4, hf⟩ := bd hf
    refine cl_Vs (rest := []) (kgX2_hasSecret (l := l) (Γ := Γ) (A := A) (G := g) (o := h2) (hm_kd hE g3) hz4) ⟨hx, hb, hml, hown, htw⟩ hE hw hS (hw _ _ (hm_kd hE g3)) (q0 := 0) rfl rfl mw706 mw691 mw692 mw120 mw693 pdX2_hasSecret ⟨Nat.le_of_ble_eq_true rfl, Nat.le_of_ble_eq_true rfl⟩ rfl rfl hl.1 (Nat.le_of_ble_eq_true rfl) dX9_dusky_18 (fun H locs hw hS => ?_)
    refine lv_if_eq (tgt := 33) hx hb dX9_dusky_21 (by decide) (fun c9 => ?_) (fun c9 => ?_)
    · have hf := ifp c9 hf
      refine lv_iconst (v := (-1)) hx hb dX9_dusky_33 (by decide) ?_
      obtain rfl := Option.some.inj hf
      subst hq
      exact rt_i C hw hS dX9_dusky_34
    · have hf := ifn c9 hf
      refine lv_aload hx hb dX9_dusky_24 (lv_at hl 0 rfl) ?_
      refine va_get (ci := 2) (v := .int (gi (g h2) 0)) (C := RX2) (T := TX2) (N := 11) hx hb htw uwX2 hown hE.1 (hw _ _ (hm_kd hE g3)) 0 rfl rfl 0 (by decide) (htw _ mw163) (fun _ h9 => h9) rfl dX9_dusky_26 ?_
      refine lv_iconst (v := 2) hx hb dX9_dusky_29 (by decide) ?_
      refine lv_icmp_ge (tgt := 35) hx hb dX9_dusky_30 (by decide) (fun c8 => ?_) (fun c8 => ?_)
      · have hf := ifp c8 hf
        refine lv_aload hx hb dX9_dusky_35 (lv_at hl 0 rfl) ?_
        refine lv_iload_n hx hb dX9_dusky_37 rfl (lv_at hl 3 rfl) ?_
        obtain ⟨z5, hz5, hf⟩ := bd hf
        refine cl_Vs (rest := []) (kgX2_duskiestCouple (l := l) (Γ := Γ) (A := A) (G := g) (o := h2) (hm_kd hE g3) hz5) ⟨hx, hb, hml, hown, htw⟩ hE hw hS (hw _ _ (hm_kd hE g3)) (q0 := 0) rfl rfl mw1103 mw1104 mw1105 mw120 mw1106 pdX2_duskiestCouple ⟨Nat.le_of_ble_eq_true rfl, Nat.le_of_ble_eq_true rfl⟩ rfl rfl hl.1 (Nat.le_of_ble_eq_true rfl) dX9_dusky_38 (fun H locs hw hS => ?_)
        refine lv_istore (lv' := [(5, .int z5), (4, .ref (ad Γ h2)), (0, .ref (ad Γ 901)), (1, .int v1), (2, .int v2), (3, .int v3)]) hx hb dX9_dusky_41 hl (by decide) rfl (fun ls hl => ?_)
        refine lv_iload_n hx hb dX9_dusky_43 rfl (lv_at hl 5 rfl) ?_
        refine lv_if_eq (tgt := 66) hx hb dX9_dusky_44 (by decide) (fun c7 => ?_) (fun c7 => ?_)
        · have hf := ifp c7 hf
          refine lv_iload hx hb dX9_dusky_66 (lv_at hl 0 rfl) ?_
          obtain rfl := Option.some.inj hf
          subst hq
          exact rt_i C hw hS dX9_dusky_68
        · have hf := ifn c7 hf
          refine lv_aload hx hb dX9_dusky_47 (lv_at hl 1 rfl) ?_
          refine lv_iload_n hx hb dX9_dusky_49 rfl (lv_at hl 4 rfl) ?_
          refine lv_iload hx hb dX9_dusky_50 (lv_at hl 0 rfl) ?_
          refine lv_bipush (v := 10) hx hb dX9_dusky_52 (by decide) ?_
          refine lv_idiv hx hb dX9_dusky_54 (by decide) ?_
          refine lv_iload hx hb dX9_dusky_55 (lv_at hl 0 rfl) ?_
          refine lv_bipush (v := 10) hx hb dX9_dusky_57 (by decide) ?_
          refine lv_irem hx hb dX9_dusky_59 (by decide) ?_
          obtain ⟨z6, hz6, hf⟩ := bd hf
          refine cl_Vs (rest := []) (kgX2_duskHours (l := l) (Γ := Γ) (A := A) (G := g) (o := h2) (hm_kd hE g3) hz6) ⟨hx, hb, hml, hown, htw⟩ hE hw hS (hw _ _ (hm_kd hE g3)) (q0 := 0) rfl rfl mw1112 mw1108 mw1109 mw120 mw1110 pdX2_duskHours ⟨Nat.le_of_ble_eq_true rfl, Nat.le_of_ble_eq_true rfl⟩ rfl rfl hl.1 (Nat.le_of_ble_eq_true rfl) dX9_dusky_60 (fun H locs hw hS => ?_)
          refine lv_goto (tgt := 68) hx hb dX9_dusky_63 (by decide) ?_
          obtain rfl := Option.some.inj hf
          subst hq
          exact rt_i C hw hS dX9_dusky_68
      · have hf := ifn c8 hf
        refine lv_iconst (v := (-1)) hx hb dX9_dusky_33 (by decide) ?_
        obtain rfl := Option.some.inj hf
        subst hq
        exact rt_i C hw hS dX9_dusky_34

theorem kX9_dusky {l : Launch} {Γ : Gm} {A : Nat → Prop} {g : Gs} {v1 : Int32} {v2 : Int32} {v3 : Int32} {fin : Int32} (hf : fX9_dusky g v1 v2 v3 = some fin) : Kt l yX9_dusky cX9_dusky 6 (some .int) 5 117 Γ A g g [.ref (ad Γ 901), .int v1, .int v2, .int v3] (some (.int fin)) :=
  kt_of (by decide) (Nat.le_of_ble_eq_true rfl) (fun p e s m args below meth c C => wX9_dusky_e C hf rfl)
noncomputable def fX9_fitter (g : Gs) (v1 : Int32) (v2 : Int32) : Option Int32 :=
  (fX8_houseAt (g 800) 800 v1).bind fun z1 => oc z1 (some ((-1))) (fun h2 => gd (isHm h2) (if (gi (g h2) 0) = 0 then some ((-1)) else (fX2_fittestTaste (g h2)).bind fun z4 => if v2 = 0 then some (z4) else (fX2_worthOfAll (g h2) (z4 / 10) (z4 - z4 / 10 * 10)).bind fun z5 => some (z5)))
set_option maxRecDepth 100000 in
set_option maxHeartbeats 4000000 in
theorem wX9_fitter_e {p : Program} {l : Launch} {e : Env} {s : State} {m : MethodId} {args : Array Value} {below : List Frame} {meth : Method} {c : Code} {Γ : Gm} {A : Nat → Prop} {g : Gs} {v1 : Int32} {v2 : Int32} {q : Int32} {fin : Int32} (C : Cx p s m args meth c yX9_fitter cX9_fitter 5 (some .int) Γ A) (hf : fX9_fitter g v1 v2 = some q) (hq : (fun x => x = fin) q) : Wk p l e { frames := 4, cells := 0, slots := 0, locals := 96 } s m args below meth c Γ A g (some (.int fin)) 0 5 [(0, .ref (ad Γ 901)), (1, .int v1), (2, .int v2)] [] g := by
  intro H locs ls hw hS hl
  unfold fX9_fitter at hf
  obtain ⟨hx, hb, hml, hr, hown, htw, hlocks, hE⟩ := id C
  have hown : s.vm.findClass RX9 = some m.cls := hown
  refine lv_aload_n hx hb dX9_fitter_0 rfl (lv_at hl 0 rfl) ?_
  refine va_get (ci := 9) (v := .ref (ad Γ 800)) (C := RX9) (T := TX9) (N := 8) hx hb htw uwX9 hown hE.1 (hw _ _ (wf_901 hE)) 0 rfl rfl 0 (by decide) (htw _ mw433) (fun _ h9 => h9) rfl dX9_fitter_1 ?_
  refine lv_iload_n hx hb dX9_fitter_4 rfl (lv_at hl 1 rfl) ?_
  obtain ⟨z1, hz1, hf⟩ := bd hf
  refine cl_Vs (rest := []) (kgX8_houseAt (l := l) (Γ := Γ) (A := A) (G := g) (o := 800) (wf_800 hE) hz1) ⟨hx, hb, hml, hown, htw⟩ hE hw hS (hw _ _ (wf_800 hE)) (q0 := 0) rfl rfl mw629 mw630 mw631 mw119 mw632 pdX8_houseAt ⟨Nat.le_of_ble_eq_true rfl, Nat.le_of_ble_eq_true rfl⟩ rfl rfl hl.1 (Nat.le_of_ble_eq_true rfl) dX9_fitter_5 (fun H locs hw hS => ?_)
  cases z1 with
  | none =>
    have hf := oc_none hf
    refine lv_astore_nN (lv' := [(3, .null), (0, .ref (ad Γ 901)), (1, .int v1), (2, .int v2)]) hx hb dX9_fitter_8 rfl hl (by decide) rfl (fun ls hl => ?_)
    refine lv_aload_nN hx hb dX9_fitter_9 rfl (lv_at hl 0 rfl) ?_
    refine lv_ifnullN (tgt := 20) hx hb dX9_fitter_10 (by decide) ?_
    refine lv_iconst (v := (-1)) hx hb dX9_fitter_20 (by decide) ?_
    obtain rfl := Option.some.inj hf
    subst hq
    exact rt_i C hw hS dX9_fitter_21
  | some h2 =>
    have hf := oc_some hf
    obtain ⟨g3, hf⟩ := gd_some hf
    refine lv_astore_n (lv' := [(3, .ref (ad Γ h2)), (0, .ref (ad Γ 901)), (1, .int v1), (2, .int v2)]) hx hb dX9_fitter_8 rfl hl (by decide) rfl (fun ls hl => ?_)
    refine lv_aload_n hx hb dX9_fitter_9 rfl (lv_at hl 0 rfl) ?_
    refine lv_ifnull hx hb dX9_fitter_10 ?_
    refine lv_aload_n hx hb dX9_fitter_13 rfl (lv_at hl 0 rfl) ?_
    refine va_get (ci := 2) (v := .int (gi (g h2) 0)) (C := RX2) (T := TX2) (N := 11) hx hb htw uwX2 hown hE.1 (hw _ _ (hm_kd hE g3)) 0 rfl rfl 0 (by decide) (htw _ mw163) (fun _ h9 => h9) rfl dX9_fitter_14 ?_
    refine lv_if_ne (tgt := 22) hx hb dX9_fitter_17 (by decide) (fun c7 => ?_) (fun c7 => ?_)
    · have hf := ifn c7 hf
      refine lv_aload_n hx hb dX9_fitter_22 rfl (lv_at hl 0 rfl) ?_
      obtain ⟨z4, hz4, hf⟩ := bd hf
      refine cl_Vs (rest := []) (kgX2_fittestTaste (l := l) (Γ := Γ) (A := A) (G := g) (o := h2) (hm_kd hE g3) hz4) ⟨hx, hb, hml, hown, htw⟩ hE hw hS (hw _ _ (hm_kd hE g3)) (q0 := 0) rfl rfl mw1117 mw1118 mw1119 mw120 mw1120 pdX2_fittestTaste ⟨Nat.le_of_ble_eq_true rfl, Nat.le_of_ble_eq_true rfl⟩ rfl rfl hl.1 (Nat.le_of_ble_eq_true rfl) dX9_fitter_23 (fun H locs hw hS => ?_)
      refine lv_istore (lv' := [(4, .int z4), (3, .ref (ad Γ h2)), (0, .ref (ad Γ 901)), (1, .int v1), (2, .int v2)]) hx hb dX9_fitter_26 hl (by decide) rfl (fun ls hl => ?_)
      refine lv_iload_n hx hb dX9_fitter_28 rfl (lv_at hl 4 rfl) ?_
      refine lv_if_eq (tgt := 49) hx hb dX9_fitter_29 (by decide) (fun c6 => ?_) (fun c6 => ?_)
      · have hf := ifp c6 hf
        refine lv_iload hx hb dX9_fitter_49 (lv_at hl 0 rfl) ?_
        obtain rfl := Option.some.inj hf
        subst hq
        exact rt_i C hw hS dX9_fitter_51
      · have hf := ifn c6 hf
        refine lv_aload_n hx hb dX9_fitter_32 rfl (lv_at hl 1 rfl) ?_
        refine lv_iload hx hb dX9_fitter_33 (lv_at hl 0 rfl) ?_
        refine lv_bipush (v := 10) hx hb dX9_fitter_35 (by decide) ?_
        refine lv_idiv hx hb dX9_fitter_37 (by decide) ?_
        refine lv_iload hx hb dX9_fitter_38 (lv_at hl 0 rfl) ?_
        refine lv_bipush (v := 10) hx hb dX9_fitter_40 (by decide) ?_
        refine lv_irem hx hb dX9_fitter_42 (by decide) ?_
        obtain ⟨z5, hz5, hf⟩ := bd hf
        refine cl_Vs (rest := []) (kgX2_worthOfAll (l := l) (Γ := Γ) (A := A) (G := g) (o := h2) (hm_kd hE g3) hz5) ⟨hx, hb, hml, hown, htw⟩ hE hw hS (hw _ _ (hm_kd hE g3)) (q0 := 0) rfl rfl mw1125 mw1122 mw1123 mw120 mw1124 pdX2_worthOfAll ⟨Nat.le_of_ble_eq_true rfl, Nat.le_of_ble_eq_true rfl⟩ rfl rfl hl.1 (Nat.le_of_ble_eq_true rfl) dX9_fitter_43 (fun H locs hw hS => ?_)
        refine lv_goto (tgt := 51) hx hb dX9_fitter_46 (by decide) ?_
        obtain rfl := Option.some.inj hf
        subst hq
        exact rt_i C hw hS dX9_fitter_51
    · have hf := ifp c7 hf
      refine lv_iconst (v := (-1)) hx hb dX9_fitter_20 (by decide) ?_
      obtain rfl := Option.some.inj hf
      subst hq
      exact rt_i C hw hS dX9_fitter_21

theorem kX9_fitter {l : Launch} {Γ : Gm} {A : Nat → Prop} {g : Gs} {v1 : Int32} {v2 : Int32} {fin : Int32} (hf : fX9_fitter g v1 v2 = some fin) : Kt l yX9_fitter cX9_fitter 5 (some .int) 4 96 Γ A g g [.ref (ad Γ 901), .int v1, .int v2] (some (.int fin)) :=
  kt_of (by decide) (Nat.le_of_ble_eq_true rfl) (fun p e s m args below meth c C => wX9_fitter_e C hf rfl)
noncomputable def bX9_unlike_117 (g : Gs) (v3 : Nat) (v4 : Nat) (v5 : Int32) (v6 : Int32) (v7 : Int32) (v8 : Int32) : Option ((Int32 × Int32) ⊕ Int32) :=
  some (.inl (v7, v8 + 1))
set_option maxRecDepth 100000 in
set_option maxHeartbeats 4000000 in
theorem wX9_unlike_117 {p : Program} {l : Launch} {e : Env} {s : State} {m : MethodId} {args : Array Value} {below : List Frame} {meth : Method} {c : Code} {Γ : Gm} {A : Nat → Prop} {g : Gs} {v3 : Nat} {v4 : Nat} {v5 : Int32} {v6 : Int32} {v7 : Int32} {v8 : Int32} {q : ((Int32 × Int32) ⊕ Int32)} {fin : Int32} (C : Cx p s m args meth c yX9_unlike cX9_unlike 10 (some .int) Γ A) (hv3 : kd Γ v3 = some 2) (hv4 : kd Γ v4 = some 2) (hf : bX9_unlike_117 g v3 v4 v5 v6 v7 v8 = some q) (hq : (KC (fun st : Int32 × Int32 => Wk p l e { frames := 3, cells := 0, slots := 0, locals := 68 } s m args below meth c Γ A g (some (.int fin)) 64 10 [(3, .ref (ad Γ v3)), (4, .ref (ad Γ v4)), (5, .int v5), (6, .int v6), (7, .int st.1), (8, .int st.2)] [] g) (fun x => x = fin)) q) : Wk p l e { frames := 3, cells := 0, slots := 0, locals := 68 } s m args below meth c Γ A g (some (.int fin)) 117 10 [(3, .ref (ad Γ v3)), (4, .ref (ad Γ v4)), (5, .int v5), (6, .int v6), (7, .int v7), (8, .int v8)] [] g := by
  intro H locs ls hw hS hl
  unfold bX9_unlike_117 at hf
  obtain ⟨hx, hb, hml, hr, hown, htw, hlocks, hE⟩ := id C
  have hown : s.vm.findClass RX9 = some m.cls := hown
  refine lv_iinc (v := v8 + 1) (lv' := [(8, .int (v8 + 1)), (3, .ref (ad Γ v3)), (4, .ref (ad Γ v4)), (5, .int v5), (6, .int v6), (7, .int v7)]) hx hb dX9_unlike_117 hl (k := 5) rfl (by rfl) (by decide) rfl (fun ls hl => ?_)
  refine lv_goto (tgt := 64) hx hb dX9_unlike_120 (by decide) ?_
  obtain rfl := Option.some.inj hf
  exact hq.1 _ rfl H locs ls hw hS (lv_sub hl [1, 2, 3, 4, 5, 0] rfl)

noncomputable def bX9_unlike_108 (g : Gs) (v3 : Nat) (v4 : Nat) (v5 : Int32) (v6 : Int32) (v8 : Int32) (v9 : Int32) (s0 : Int32) (s1 : Int32) : Option ((Int32 × Int32) ⊕ ((Int32 × Int32) ⊕ Int32)) :=
  some (.inl (s1 + s0, v9 + 1))
set_option maxRecDepth 100000 in
set_option maxHeartbeats 4000000 in
theorem wX9_unlike_108 {p : Program} {l : Launch} {e : Env} {s : State} {m : MethodId} {args : Array Value} {below : List Frame} {meth : Method} {c : Code} {Γ : Gm} {A : Nat → Prop} {g : Gs} {v3 : Nat} {v4 : Nat} {v5 : Int32} {v6 : Int32} {v8 : Int32} {v9 : Int32} {s0 : Int32} {s1 : Int32} {q : ((Int32 × Int32) ⊕ ((Int32 × Int32) ⊕ Int32))} {fin : Int32} (C : Cx p s m args meth c yX9_unlike cX9_unlike 10 (some .int) Γ A) (hv3 : kd Γ v3 = some 2) (hv4 : kd Γ v4 = some 2) (hf : bX9_unlike_108 g v3 v4 v5 v6 v8 v9 s0 s1 = some q) (hq : (KC (fun st : Int32 × Int32 => Wk p l e { frames := 3, cells := 0, slots := 0, locals := 68 } s m args below meth c Γ A g (some (.int fin)) 74 10 [(3, .ref (ad Γ v3)), (4, .ref (ad Γ v4)), (5, .int v5), (6, .int v6), (7, .int st.1), (8, .int v8), (9, .int st.2)] [] g) (KC (fun st : Int32 × Int32 => Wk p l e { frames := 3, cells := 0, slots := 0, locals := 68 } s m args below meth c Γ A g (some (.int fin)) 64 10 [(3, .ref (ad Γ v3)), (4, .ref (ad Γ v4)), (5, .int v5), (6, .int v6), (7, .int st.1), (8, .int st.2)] [] g) (fun x => x = fin))) q) : Wk p l e { frames := 3, cells := 0, slots := 0, locals := 68 } s m args below meth c Γ A g (some (.int fin)) 108 10 [(3, .ref (ad Γ v3)), (4, .ref (ad Γ v4)), (5, .int v5), (6, .int v6), (8, .int v8), (9, .int v9)] [.int s0, .int s1] g := by
  intro H locs ls hw hS hl
  unfold bX9_unlike_108 at hf
  obtain ⟨hx, hb, hml, hr, hown, htw, hlocks, hE⟩ := id C
  have hown : s.vm.findClass RX9 = some m.cls := hown
  refine lv_iadd hx hb dX9_unlike_108 ?_
  refine lv_istore (lv' := [(7, .int (s1 + s0)), (3, .ref (ad Γ v3)), (4, .ref (ad Γ v4)), (5, .int v5), (6, .int v6), (8, .int v8), (9, .int v9)]) hx hb dX9_unlike_109 hl (by decide) rfl (fun ls hl => ?_)
  refine lv_iinc (v := v9 + 1) (lv' := [(9, .int (v9 + 1)), (7, .int (s1 + s0)), (3, .ref (ad Γ v3)), (4, .ref (ad Γ v4)), (5, .int v5), (6, .int v6), (8, .int v8)]) hx hb dX9_unlike_111 hl (k := 6) rfl (by rfl) (by decide) rfl (fun ls hl => ?_)
  refine lv_goto (tgt := 74) hx hb dX9_unlike_114 (by decide) ?_
  obtain rfl := Option.some.inj hf
  exact hq.1 _ rfl H locs ls hw hS (lv_sub hl [2, 3, 4, 5, 1, 6, 0] rfl)

noncomputable def bX9_unlike_74 (g : Gs) (v3 : Nat) (v4 : Nat) (v5 : Int32) (v6 : Int32) (v7 : Int32) (v8 : Int32) (v9 : Int32) : Option ((Int32 × Int32) ⊕ ((Int32 × Int32) ⊕ Int32)) :=
  if v5 ≤ v9 then out1 (bX9_unlike_117 g v3 v4 v5 v6 v7 v8) else (fX2_worthTo (g v3) v8 v9).bind fun z2 => (fX2_worthTo (g v4) v8 v9).bind fun z3 => if z2 = z3 then bX9_unlike_108 g v3 v4 v5 v6 v8 v9 0 v7 else bX9_unlike_108 g v3 v4 v5 v6 v8 v9 1 v7
set_option maxRecDepth 100000 in
set_option maxHeartbeats 4000000 in
theorem wX9_unlike_74 {p : Program} {l : Launch} {e : Env} {s : State} {m : MethodId} {args : Array Value} {below : List Frame} {meth : Method} {c : Code} {Γ : Gm} {A : Nat → Prop} {g : Gs} {v3 : Nat} {v4 : Nat} {v5 : Int32} {v6 : Int32} {v7 : Int32} {v8 : Int32} {v9 : Int32} {q : ((Int32 × Int32) ⊕ ((Int32 × Int32) ⊕ Int32))} {fin : Int32} (C : Cx p s m args meth c yX9_unlike cX9_unlike 10 (some .int) Γ A) (hv3 : kd Γ v3 = some 2) (hv4 : kd Γ v4 = some 2) (hf : bX9_unlike_74 g v3 v4 v5 v6 v7 v8 v9 = some q) (hq : (KC (fun st : Int32 × Int32 => Wk p l e { frames := 3, cells := 0, slots := 0, locals := 68 } s m args below meth c Γ A g (some (.int fin)) 74 10 [(3, .ref (ad Γ v3)), (4, .ref (ad Γ v4)), (5, .int v5), (6, .int v6), (7, .int st.1), (8, .int v8), (9, .int st.2)] [] g) (KC (fun st : Int32 × Int32 => Wk p l e { frames := 3, cells := 0, slots := 0, locals := 68 } s m args below meth c Γ A g (some (.int fin)) 64 10 [(3, .ref (ad Γ v3)), (4, .ref (ad Γ v4)), (5, .int v5), (6, .int v6), (7, .int st.1), (8, .int st.2)] [] g) (fun x => x = fin))) q) : Wk p l e { frames := 3, cells := 0, slots := 0, locals := 68 } s m args below meth c Γ A g (some (.int fin)) 74 10 [(3, .ref (ad Γ v3)), (4, .ref (ad Γ v4)), (5, .int v5), (6, .int v6), (7, .int v7), (8, .int v8), (9, .int v9)] [] g := by
  intro H locs ls hw hS hl
  unfold bX9_unlike_74 at hf
  obtain ⟨hx, hb, hml, hr, hown, htw, hlocks, hE⟩ := id C
  have hown : s.vm.findClass RX9 = some m.cls := hown
  refine lv_iload hx hb dX9_unlike_74 (lv_at hl 6 rfl) ?_
  refine lv_iload hx hb dX9_unlike_76 (lv_at hl 2 rfl) ?_
  refine lv_icmp_ge (tgt := 117) hx hb dX9_unlike_78 (by decide) (fun c5 => ?_) (fun c5 => ?_)
  · have hf := ifp c5 hf
    obtain ⟨q1, hfq1, eq1⟩ := out1_some hf
    subst eq1
    have hf := hfq1
    have hq := hq.2 _ rfl
    exact wX9_unlike_117 C hv3 hv4 hf hq H locs ls hw hS (lv_sub hl [0, 1, 2, 3, 4, 5] rfl)
  · have hf := ifn c5 hf
    refine lv_iload hx hb dX9_unlike_81 (lv_at hl 4 rfl) ?_
    refine lv_aload_n hx hb dX9_unlike_83 rfl (lv_at hl 0 rfl) ?_
    refine lv_iload hx hb dX9_unlike_84 (lv_at hl 5 rfl) ?_
    refine lv_iload hx hb dX9_unlike_86 (lv_at hl 6 rfl) ?_
    obtain ⟨z2, hz2, hf⟩ := bd hf
    refine cl_Vs (rest := [.int v7]) (kgX2_worthTo (l := l) (Γ := Γ) (A := A) (G := g) (o := v3) hv3 hz2) ⟨hx, hb, hml, hown, htw⟩ hE hw hS (hw _ _ hv3) (q0 := 0) rfl rfl mw708 mw709 mw710 mw120 mw711 pdX2_worthTo ⟨Nat.le_of_ble_eq_true rfl, Nat.le_of_ble_eq_true rfl⟩ rfl rfl hl.1 (Nat.le_of_ble_eq_true rfl) dX9_unlike_88 (fun H locs hw hS => ?_)
    refine lv_aload hx hb dX9_unlike_91 (lv_at hl 1 rfl) ?_
    refine lv_iload hx hb dX9_unlike_93 (lv_at hl 5 rfl) ?_
    refine lv_iload hx hb dX9_unlike_95 (lv_at hl 6 rfl) ?_
    obtain ⟨z3, hz3, hf⟩ := bd hf
    refine cl_Vs (rest := [.int z2, .int v7]) (kgX2_worthTo (l := l) (Γ := Γ) (A := A) (G := g) (o := v4) hv4 hz3) ⟨hx, hb, hml, hown, htw⟩ hE hw hS (hw _ _ hv4) (q0 := 0) rfl rfl mw708 mw709 mw710 mw120 mw711 pdX2_worthTo ⟨Nat.le_of_ble_eq_true rfl, Nat.le_of_ble_eq_true rfl⟩ rfl rfl hl.1 (Nat.le_of_ble_eq_true rfl) dX9_unlike_97 (fun H locs hw hS => ?_)
    refine lv_icmp_ne (tgt := 107) hx hb dX9_unlike_100 (by decide) (fun c4 => ?_) (fun c4 => ?_)
    · have hf := ifn c4 hf
      refine lv_iconst (v := 1) hx hb dX9_unlike_107 (by decide) ?_
      exact wX9_unlike_108 C hv3 hv4 hf hq H locs ls hw hS (lv_sub hl [0, 1, 2, 3, 5, 6] rfl)
    · have hf := ifp c4 hf
      refine lv_iconst (v := 0) hx hb dX9_unlike_103 (by decide) ?_
      refine lv_goto (tgt := 108) hx hb dX9_unlike_104 (by decide) ?_
      exact wX9_unlike_108 C hv3 hv4 hf hq H locs ls hw hS (lv_sub hl [0, 1, 2, 3, 5, 6] rfl)

set_option maxRecDepth 100000 in
set_option maxHeartbeats 4000000 in
theorem lwX9_unlike_74 {p : Program} {l : Launch} {e : Env} {s : State} {m : MethodId} {args : Array Value} {below : List Frame} {meth : Method} {c : Code} {Γ : Gm} {A : Nat → Prop} {g : Gs} {v3 : Nat} {v4 : Nat} {v5 : Int32} {v6 : Int32} {v7 : Int32} {v8 : Int32} {v9 : Int32} {q : ((Int32 × Int32) ⊕ Int32)} {fin : Int32} (C : Cx p s m args meth c yX9_unlike cX9_unlike 10 (some .int) Γ A) (hv3 : kd Γ v3 = some 2) (hv4 : kd Γ v4 = some 2) (hf : iter (fun st : Int32 × Int32 => bX9_unlike_74 g v3 v4 v5 v6 st.1 v8 st.2) (v7, v9) = some q) (hq : (KC (fun st : Int32 × Int32 => Wk p l e { frames := 3, cells := 0, slots := 0, locals := 68 } s m args below meth c Γ A g (some (.int fin)) 64 10 [(3, .ref (ad Γ v3)), (4, .ref (ad Γ v4)), (5, .int v5), (6, .int v6), (7, .int st.1), (8, .int st.2)] [] g) (fun x => x = fin)) q) : Wk p l e { frames := 3, cells := 0, slots := 0, locals := 68 } s m args below meth c Γ A g (some (.int fin)) 74 10 [(3, .ref (ad Γ v3)), (4, .ref (ad Γ v4)), (5, .int v5), (6, .int v6), (7, .int v7), (8, .int v8), (9, .int v9)] [] g := by
  intro H locs ls hw hS hl
  refine iter_walk (P := (fun st : Int32 × Int32 => Wk p l e { frames := 3, cells := 0, slots := 0, locals := 68 } s m args below meth c Γ A g (some (.int fin)) 74 10 [(3, .ref (ad Γ v3)), (4, .ref (ad Γ v4)), (5, .int v5), (6, .int v6), (7, .int st.1), (8, .int v8), (9, .int st.2)] [] g)) (K := (KC (fun st : Int32 × Int32 => Wk p l e { frames := 3, cells := 0, slots := 0, locals := 68 } s m args below meth c Γ A g (some (.int fin)) 64 10 [(3, .ref (ad Γ v3)), (4, .ref (ad Γ v4)), (5, .int v5), (6, .int v6), (7, .int st.1), (8, .int st.2)] [] g) (fun x => x = fin))) (fun st q hq1 h1 h2 => ?_) hf hq H locs ls hw hS hl
  exact wX9_unlike_74 (v7 := st.1) (v9 := st.2) C hv3 hv4 hq1 ⟨h1, h2⟩

noncomputable def bX9_unlike_64 (g : Gs) (v3 : Nat) (v4 : Nat) (v5 : Int32) (v6 : Int32) (v7 : Int32) (v8 : Int32) : Option ((Int32 × Int32) ⊕ Int32) :=
  if v6 ≤ v8 then some (.inr (v7)) else iter (fun st : Int32 × Int32 => bX9_unlike_74 g v3 v4 v5 v6 st.1 v8 st.2) (v7, 0)
set_option maxRecDepth 100000 in
set_option maxHeartbeats 4000000 in
theorem wX9_unlike_64 {p : Program} {l : Launch} {e : Env} {s : State} {m : MethodId} {args : Array Value} {below : List Frame} {meth : Method} {c : Code} {Γ : Gm} {A : Nat → Prop} {g : Gs} {v3 : Nat} {v4 : Nat} {v5 : Int32} {v6 : Int32} {v7 : Int32} {v8 : Int32} {q : ((Int32 × Int32) ⊕ Int32)} {fin : Int32} (C : Cx p s m args meth c yX9_unlike cX9_unlike 10 (some .int) Γ A) (hv3 : kd Γ v3 = some 2) (hv4 : kd Γ v4 = some 2) (hf : bX9_unlike_64 g v3 v4 v5 v6 v7 v8 = some q) (hq : (KC (fun st : Int32 × Int32 => Wk p l e { frames := 3, cells := 0, slots := 0, locals := 68 } s m args below meth c Γ A g (some (.int fin)) 64 10 [(3, .ref (ad Γ v3)), (4, .ref (ad Γ v4)), (5, .int v5), (6, .int v6), (7, .int st.1), (8, .int st.2)] [] g) (fun x => x = fin)) q) : Wk p l e { frames := 3, cells := 0, slots := 0, locals := 68 } s m args below meth c Γ A g (some (.int fin)) 64 10 [(3, .ref (ad Γ v3)), (4, .ref (ad Γ v4)), (5, .int v5), (6, .int v6), (7, .int v7), (8, .int v8)] [] g := by
  intro H locs ls hw hS hl
  unfold bX9_unlike_64 at hf
  obtain ⟨hx, hb, hml, hr, hown, htw, hlocks, hE⟩ := id C
  have hown : s.vm.findClass RX9 = some m.cls := hown
  refine lv_iload hx hb dX9_unlike_64 (lv_at hl 5 rfl) ?_
  refine lv_iload hx hb dX9_unlike_66 (lv_at hl 3 rfl) ?_
  refine lv_icmp_ge (tgt := 123) hx hb dX9_unlike_68 (by decide) (fun c6 => ?_) (fun c6 => ?_)
  · have hf := ifp c6 hf
    refine lv_iload hx hb dX9_unlike_123 (lv_at hl 4 rfl) ?_
    obtain rfl := Option.some.inj hf
    have hq := hq.2 _ rfl
    subst hq
    exact rt_i C hw hS dX9_unlike_125
  · have hf := ifn c6 hf
    refine lv_iconst (v := 0) hx hb dX9_unlike_71 (by decide) ?_
    refine lv_istore (lv' := [(9, .int 0), (3, .ref (ad Γ v3)), (4, .ref (ad Γ v4)), (5, .int v5), (6, .int v6), (7, .int v7), (8, .int v8)]) hx hb dX9_unlike_72 hl (by decide) rfl (fun ls hl => ?_)
    exact lwX9_unlike_74 C hv3 hv4 hf hq H locs ls hw hS (lv_sub hl [1, 2, 3, 4, 5, 6, 0] rfl)

set_option maxRecDepth 100000 in
set_option maxHeartbeats 4000000 in
theorem lwX9_unlike_64 {p : Program} {l : Launch} {e : Env} {s : State} {m : MethodId} {args : Array Value} {below : List Frame} {meth : Method} {c : Code} {Γ : Gm} {A : Nat → Prop} {g : Gs} {v3 : Nat} {v4 : Nat} {v5 : Int32} {v6 : Int32} {v7 : Int32} {v8 : Int32} {q : Int32} {fin : Int32} (C : Cx p s m args meth c yX9_unlike cX9_unlike 10 (some .int) Γ A) (hv3 : kd Γ v3 = some 2) (hv4 : kd Γ v4 = some 2) (hf : iter (fun st : Int32 × Int32 => bX9_unlike_64 g v3 v4 v5 v6 st.1 st.2) (v7, v8) = some q) (hq : (fun x => x = fin) q) : Wk p l e { frames := 3, cells := 0, slots := 0, locals := 68 } s m args below meth c Γ A g (some (.int fin)) 64 10 [(3, .ref (ad Γ v3)), (4, .ref (ad Γ v4)), (5, .int v5), (6, .int v6), (7, .int v7), (8, .int v8)] [] g := by
  intro H locs ls hw hS hl
  refine iter_walk (P := (fun st : Int32 × Int32 => Wk p l e { frames := 3, cells := 0, slots := 0, locals := 68 } s m args below meth c Γ A g (some (.int fin)) 64 10 [(3, .ref (ad Γ v3)), (4, .ref (ad Γ v4)), (5, .int v5), (6, .int v6), (7, .int st.1), (8, .int st.2)] [] g)) (K := (fun x => x = fin)) (fun st q hq1 h1 h2 => ?_) hf hq H locs ls hw hS hl
  exact wX9_unlike_64 (v7 := st.1) (v8 := st.2) C hv3 hv4 hq1 ⟨h1, h2⟩

noncomputable def fX9_unlike (g : Gs) (v1 : Int32) (v2 : Int32) : Option Int32 :=
  (fX8_houseAt (g 800) 800 v1).bind fun z7 => oc z7 ((fX8_houseAt (g 800) 800 v2).bind fun z9 => oc z9 (some ((-1))) (fun h10 => gd (isHm h10) (some ((-1))))) (fun h8 => gd (isHm h8) ((fX8_houseAt (g 800) 800 v2).bind fun z13 => oc z13 (some ((-1))) (fun h14 => gd (isHm h14) ((some (gi (g h8) 0)).bind fun x16 => (some (gi (g h14) 0)).bind fun x17 => (some (mni x16 x17)).bind fun x18 => (some (gi (g h8) 1)).bind fun x19 => (some (gi (g h14) 1)).bind fun x20 => (some (mni x19 x20)).bind fun x21 => iter (fun st : Int32 × Int32 => bX9_unlike_64 g h8 h14 x18 x21 st.1 st.2) (0, 0)))))
set_option maxRecDepth 100000 in
set_option maxHeartbeats 4000000 in
theorem wX9_unlike_e {p : Program} {l : Launch} {e : Env} {s : State} {m : MethodId} {args : Array Value} {below : List Frame} {meth : Method} {c : Code} {Γ : Gm} {A : Nat → Prop} {g : Gs} {v1 : Int32} {v2 : Int32} {q : Int32} {fin : Int32} (C : Cx p s m args meth c yX9_unlike cX9_unlike 10 (some .int) Γ A) (hf : fX9_unlike g v1 v2 = some q) (hq : (fun x => x = fin) q) : Wk p l e { frames := 3, cells := 0, slots := 0, locals := 68 } s m args below meth c Γ A g (some (.int fin)) 0 10 [(0, .ref (ad Γ 901)), (1, .int v1), (2, .int v2)] [] g := by
  intro H locs ls hw hS hl
  unfold fX9_unlike at hf
  obtain ⟨hx, hb, hml, hr, hown, htw, hlocks, hE⟩ := id C
  have hown : s.vm.findClass RX9 = some m.cls := hown
  refine lv_aload_n hx hb dX9_unlike_0 rfl (lv_at hl 0 rfl) ?_
  refine va_get (ci := 9) (v := .ref (ad Γ 800)) (C := RX9) (T := TX9) (N := 8) hx hb htw uwX9 hown hE.1 (hw _ _ (wf_901 hE)) 0 rfl rfl 0 (by decide) (htw _ mw433) (fun _ h9 => h9) rfl dX9_unlike_1 ?_
  refine lv_iload_n hx hb dX9_unlike_4 rfl (lv_at hl 1 rfl) ?_
  obtain ⟨z7, hz7, hf⟩ := bd hf
  refine cl_Vs (rest := []) (kgX8_houseAt (l := l) (Γ := Γ) (A := A) (G := g) (o := 800) (wf_800 hE) hz7) ⟨hx, hb, hml, hown, htw⟩ hE hw hS (hw _ _ (wf_800 hE)) (q0 := 0) rfl rfl mw629 mw630 mw631 mw119 mw632 pdX8_houseAt ⟨Nat.le_of_ble_eq_true rfl, Nat.le_of_ble_eq_true rfl⟩ rfl rfl hl.1 (Nat.le_of_ble_eq_true rfl) dX9_unlike_5 (fun H locs hw hS => ?_)
  cases z7 with
  | none =>
    have hf := oc_none hf
    refine lv_astore_nN (lv' := [(3, .null), (0, .ref (ad Γ 901)), (1, .int v1), (2, .int v2)]) hx hb dX9_unlike_8 rfl hl (by decide) rfl (fun ls hl => ?_)
    refine lv_aload_n hx hb dX9_unlike_9 rfl (lv_at hl 1 rfl) ?_
    refine va_get (ci := 9) (v := .ref (ad Γ 800)) (C := RX9) (T := TX9) (N := 8) hx hb htw uwX9 hown hE.1 (hw _ _ (wf_901 hE)) 0 rfl rfl 0 (by decide) (htw _ mw433) (fun _ h9 => h9) rfl dX9_unlike_10 ?_
    refine lv_iload_n hx hb dX9_unlike_13 rfl (lv_at hl 3 rfl) ?_
    obtain ⟨z9, hz9, hf⟩ := bd hf
    refine cl_Vs (rest := []) (kgX8_houseAt (l := l) (Γ := Γ) (A := A) (G := g) (o := 800) (wf_800 hE) hz9) ⟨hx, hb, hml, hown, htw⟩ hE hw hS (hw _ _ (wf_800 hE)) (q0 := 0) rfl rfl mw629 mw630 mw631 mw119 mw632 pdX8_houseAt ⟨Nat.le_of_ble_eq_true rfl, Nat.le_of_ble_eq_true rfl⟩ rfl rfl hl.1 (Nat.le_of_ble_eq_true rfl) dX9_unlike_14 (fun H locs hw hS => ?_)
    cases z9 with
    | none =>
      have hf := oc_none hf
      refine lv_astoreN (lv' := [(4, .null), (3, .null), (0, .ref (ad Γ 901)), (1, .int v1), (2, .int v2)]) hx hb dX9_unlike_17 hl (by decide) rfl (fun ls hl => ?_)
      refine lv_aload_nN hx hb dX9_unlike_19 rfl (lv_at hl 1 rfl) ?_
      refine lv_ifnullN (tgt := 28) hx hb dX9_unlike_20 (by decide) ?_
      refine lv_iconst (v := (-1)) hx hb dX9_unlike_28 (by decide) ?_
      obtain rfl := Option.some.inj hf
      subst hq
      exact rt_i C hw hS dX9_unlike_29
    | some h10 =>
      have hf := oc_some hf
      obtain ⟨g11, hf⟩ := gd_some hf
      refine lv_astore (lv' := [(4, .ref (ad Γ h10)), (3, .null), (0, .ref (ad Γ 901)), (1, .int v1), (2, .int v2)]) hx hb dX9_unlike_17 hl (by decide) rfl (fun ls hl => ?_)
      refine lv_aload_nN hx hb dX9_unlike_19 rfl (lv_at hl 1 rfl) ?_
      refine lv_ifnullN (tgt := 28) hx hb dX9_unlike_20 (by decide) ?_
      refine lv_iconst (v := (-1)) hx hb dX9_unlike_28 (by decide) ?_
      obtain rfl := Option.some.inj hf
      subst hq
      exact rt_i C hw hS dX9_unlike_29
  | some h8 =>
    have hf := oc_some hf
    obtain ⟨g12, hf⟩ := gd_some hf
    refine lv_astore_n (lv' := [(3, .ref (ad Γ h8)), (0, .ref (ad Γ 901)), (1, .int v1), (2, .int v2)]) hx hb dX9_unlike_8 rfl hl (by decide) rfl (fun ls hl => ?_)
    refine lv_aload_n hx hb dX9_unlike_9 rfl (lv_at hl 1 rfl) ?_
    refine va_get (ci := 9) (v := .ref (ad Γ 800)) (C := RX9) (T := TX9) (N := 8) hx hb htw uwX9 hown hE.1 (hw _ _ (wf_901 hE)) 0 rfl rfl 0 (by decide) (htw _ mw433) (fun _ h9 => h9) rfl dX9_unlike_10 ?_
    refine lv_iload_n hx hb dX9_unlike_13 rfl (lv_at hl 3 rfl) ?_
    obtain ⟨z13, hz13, hf⟩ := bd hf
    refine cl_Vs (rest := []) (kgX8_houseAt (l := l) (Γ := Γ) (A := A) (G := g) (o := 800) (wf_800 hE) hz13) ⟨hx, hb, hml, hown, htw⟩ hE hw hS (hw _ _ (wf_800 hE)) (q0 := 0) rfl rfl mw629 mw630 mw631 mw119 mw632 pdX8_houseAt ⟨Nat.le_of_ble_eq_true rfl, Nat.le_of_ble_eq_true rfl⟩ rfl rfl hl.1 (Nat.le_of_ble_eq_true rfl) dX9_unlike_14 (fun H locs hw hS => ?_)
    cases z13 with
    | none =>
      have hf := oc_none hf
      refine lv_astoreN (lv' := [(4, .null), (3, .ref (ad Γ h8)), (0, .ref (ad Γ 901)), (1, .int v1), (2, .int v2)]) hx hb dX9_unlike_17 hl (by decide) rfl (fun ls hl => ?_)
      refine lv_aload_n hx hb dX9_unlike_19 rfl (lv_at hl 1 rfl) ?_
      refine lv_ifnull hx hb dX9_unlike_20 ?_
      refine lv_aloadN hx hb dX9_unlike_23 (lv_at hl 0 rfl) ?_
      refine lv_ifnonnullN hx hb dX9_unlike_25 ?_
      refine lv_iconst (v := (-1)) hx hb dX9_unlike_28 (by decide) ?_
      obtain rfl := Option.some.inj hf
      subst hq
      exact rt_i C hw hS dX9_unlike_29
    | some h14 =>
      have hf := oc_some hf
      obtain ⟨g15, hf⟩ := gd_some hf
      refine lv_astore (lv' := [(4, .ref (ad Γ h14)), (3, .ref (ad Γ h8)), (0, .ref (ad Γ 901)), (1, .int v1), (2, .int v2)]) hx hb dX9_unlike_17 hl (by decide) rfl (fun ls hl => ?_)
      refine lv_aload_n hx hb dX9_unlike_19 rfl (lv_at hl 1 rfl) ?_
      refine lv_ifnull hx hb dX9_unlike_20 ?_
      refine lv_aload hx hb dX9_unlike_23 (lv_at hl 0 rfl) ?_
      refine lv_ifnonnull (tgt := 30) hx hb dX9_unlike_25 (by decide) ?_
      refine lv_aload_n hx hb dX9_unlike_30 rfl (lv_at hl 1 rfl) ?_
      refine va_get (ci := 2) (v := .int (gi (g h8) 0)) (C := RX2) (T := TX2) (N := 11) hx hb htw uwX2 hown hE.1 (hw _ _ (hm_kd hE g12)) 0 rfl rfl 0 (by decide) (htw _ mw163) (fun _ h9 => h9) rfl dX9_unlike_31 ?_
      refine lv_aload hx hb dX9_unlike_34 (lv_at hl 0 rfl) ?_
      refine va_get (ci := 2) (v := .int (gi (g h14) 0)) (C := RX2) (T := TX2) (N := 11) hx hb htw uwX2 hown hE.1 (hw _ _ (hm_kd hE g15)) 0 rfl rfl 0 (by decide) (htw _ mw163) (fun _ h9 => h9) rfl dX9_unlike_36 ?_
      obtain ⟨x16, hx16, hf⟩ := bd hf
      have hx16 := Option.some.inj hx16
      refine tp2i hx16 ?_
      obtain ⟨x17, hx17, hf⟩ := bd hf
      have hx17 := Option.some.inj hx17
      refine tp1i hx17 ?_
      refine va_mmin hx hb (hml.trans hl.1.symm) hown (htw _ mw1026) (htw _ mw222) (htw _ mw122) (htw _ mw223) (Nat.le_of_ble_eq_true rfl) (Nat.le_of_ble_eq_true rfl) (Nat.le_refl _) (Nat.le_refl _) dX9_unlike_39 ?_
      obtain ⟨x18, hx18, hf⟩ := bd hf
      have hx18 := Option.some.inj hx18
      refine tp1i hx18 ?_
      refine lv_istore (lv' := [(5, .int x18), (4, .ref (ad Γ h14)), (3, .ref (ad Γ h8)), (0, .ref (ad Γ 901)), (1, .int v1), (2, .int v2)]) hx hb dX9_unlike_42 hl (by decide) rfl (fun ls hl => ?_)
      refine lv_aload_n hx hb dX9_unlike_44 rfl (lv_at hl 2 rfl) ?_
      refine va_get (ci := 2) (v := .int (gi (g h8) 1)) (C := RX2) (T := TX2) (N := 11) hx hb htw uwX2 hown hE.1 (hw _ _ (hm_kd hE g12)) 0 rfl rfl 1 (by decide) (htw _ mw169) (fun _ h9 => h9) rfl dX9_unlike_45 ?_
      refine lv_aload hx hb dX9_unlike_48 (lv_at hl 1 rfl) ?_
      refine va_get (ci := 2) (v := .int (gi (g h14) 1)) (C := RX2) (T := TX2) (N := 11) hx hb htw uwX2 hown hE.1 (hw _ _ (hm_kd hE g15)) 0 rfl rfl 1 (by decide) (htw _ mw169) (fun _ h9 => h9) rfl dX9_unlike_50 ?_
      obtain ⟨x19, hx19, hf⟩ := bd hf
      have hx19 := Option.some.inj hx19
      refine tp2i hx19 ?_
      obtain ⟨x20, hx20, hf⟩ := bd hf
      have hx20 := Option.some.inj hx20
      refine tp1i hx20 ?_
      refine va_mmin hx hb (hml.trans hl.1.symm) hown (htw _ mw1026) (htw _ mw222) (htw _ mw122) (htw _ mw223) (Nat.le_of_ble_eq_true rfl) (Nat.le_of_ble_eq_true rfl) (Nat.le_refl _) (Nat.le_refl _) dX9_unlike_53 ?_
      obtain ⟨x21, hx21, hf⟩ := bd hf
      have hx21 := Option.some.inj hx21
      refine tp1i hx21 ?_
      refine lv_istore (lv' := [(6, .int x21), (5, .int x18), (4, .ref (ad Γ h14)), (3, .ref (ad Γ h8)), (0, .ref (ad Γ 901)), (1, .int v1), (2, .int v2)]) hx hb dX9_unlike_56 hl (by decide) rfl (fun ls hl => ?_)
      refine lv_iconst (v := 0) hx hb dX9_unlike_58 (by decide) ?_
      refine lv_istore (lv' := [(7, .int 0), (6, .int x21), (5, .int x18), (4, .ref (ad Γ h14)), (3, .ref (ad Γ h8)), (0, .ref (ad Γ 901)), (1, .int v1), (2, .int v2)]) hx hb dX9_unlike_59 hl (by decide) rfl (fun ls hl => ?_)
      refine lv_iconst (v := 0) hx hb dX9_unlike_61 (by decide) ?_
      refine lv_istore (lv' := [(8, .int 0), (7, .int 0), (6, .int x21), (5, .int x18), (4, .ref (ad Γ h14)), (3, .ref (ad Γ h8)), (0, .ref (ad Γ 901)), (1, .int v1), (2, .int v2)]) hx hb dX9_unlike_62 hl (by decide) rfl (fun ls hl => ?_)
      exact lwX9_unlike_64 C (hm_kd hE g12) (hm_kd hE g15) hf hq H locs ls hw hS (lv_sub hl [5, 4, 3, 2, 1, 0] rfl)

theorem kX9_unlike {l : Launch} {Γ : Gm} {A : Nat → Prop} {g : Gs} {v1 : Int32} {v2 : Int32} {fin : Int32} (hf : fX9_unlike g v1 v2 = some fin) : Kt l yX9_unlike cX9_unlike 10 (some .int) 3 68 Γ A g g [.ref (ad Γ 901), .int v1, .int v2] (some (.int fin)) :=
  kt_of (by decide) (Nat.le_of_ble_eq_true rfl) (fun p e s m args below meth c C => wX9_unlike_e C hf rfl)
noncomputable def fX9_spread (g : Gs) (v1 : Int32) (v2 : Int32) : Option Int32 :=
  (fX8_houseAt (g 800) 800 v1).bind fun z1 => oc z1 (some ((-1))) (fun h2 => gd (isHm h2) (if v2 = 0 then (fX2_knownBy (g h2) (gi (g h2) 0)).bind fun z4 => some (z4) else if v2 = 1 then (fX2_knownBy (g h2) 0).bind fun z5 => some (z5) else if v2 = 2 then (fX2_knownBy (g h2) 1).bind fun z6 => some (z6) else some ((-1))))
set_option maxRecDepth 100000 in
set_option maxHeartbeats 4000000 in
theorem wX9_spread_e {p : Program} {l : Launch} {e : Env} {s : State} {m : MethodId} {args : Array Value} {below : List Frame} {meth : Method} {c : Code} {Γ : Gm} {A : Nat → Prop} {g : Gs} {v1 : Int32} {v2 : Int32} {q : Int32} {fin : Int32} (C : Cx p s m args meth c yX9_spread cX9_spread 4 (some .int) Γ A) (hf : fX9_spread g v1 v2 = some q) (hq : (fun x => x = fin) q) : Wk p l e { frames := 2, cells := 0, slots := 0, locals := 46 } s m args below meth c Γ A g (some (.int fin)) 0 4 [(0, .ref (ad Γ 901)), (1, .int v1), (2, .int v2)] [] g := by
  intro H locs ls hw hS hl
  unfold fX9_spread at hf
  obtain ⟨hx, hb, hml, hr, hown, htw, hlocks, hE⟩ := id C
  have hown : s.vm.findClass RX9 = some m.cls := hown
  refine lv_aload_n hx hb dX9_spread_0 rfl (lv_at hl 0 rfl) ?_
  refine va_get (ci := 9) (v := .ref (ad Γ 800)) (C := RX9) (T := TX9) (N := 8) hx hb htw uwX9 hown hE.1 (hw _ _ (wf_901 hE)) 0 rfl rfl 0 (by decide) (htw _ mw433) (fun _ h9 => h9) rfl dX9_spread_1 ?_
  refine lv_iload_n hx hb dX9_spread_4 rfl (lv_at hl 1 rfl) ?_
  obtain ⟨z1, hz1, hf⟩ := bd hf
  refine cl_Vs (rest := []) (kgX8_houseAt (l := l) (Γ := Γ) (A := A) (G := g) (o := 800) (wf_800 hE) hz1) ⟨hx, hb, hml, hown, htw⟩ hE hw hS (hw _ _ (wf_800 hE)) (q0 := 0) rfl rfl mw629 mw630 mw631 mw119 mw632 pdX8_houseAt ⟨Nat.le_of_ble_eq_true rfl, Nat.le_of_ble_eq_true rfl⟩ rfl rfl hl.1 (Nat.le_of_ble_eq_true rfl) dX9_spread_5 (fun H locs hw hS => ?_)
  cases z1 with
  | none =>
    have hf := oc_none hf
    refine lv_astore_nN (lv' := [(3, .null), (0, .ref (ad Γ 901)), (1, .int v1), (2, .int v2)]) hx hb dX9_spread_8 rfl hl (by decide) rfl (fun ls hl => ?_)
    refine lv_aload_nN hx hb dX9_spread_9 rfl (lv_at hl 0 rfl) ?_
    refine lv_ifnonnullN hx hb dX9_spread_10 ?_
    refine lv_iconst (v := (-1)) hx hb dX9_spread_13 (by decide) ?_
    obtain rfl := Option.some.inj hf
    subst hq
    exact rt_i C hw hS dX9_spread_14
  | some h2 =>
    have hf := oc_some hf
    obtain ⟨g3, hf⟩ := gd_some hf
    refine lv_astore_n (lv' := [(3, .ref (ad Γ h2)), (0, .ref (ad Γ 901)), (1, .int v1), (2, .int v2)]) hx hb dX9_spread_8 rfl hl (by decide) rfl (fun ls hl => ?_)
    refine lv_aload_n hx hb dX9_spread_9 rfl (lv_at hl 0 rfl) ?_
    refine lv_ifnonnull (tgt := 15) hx hb dX9_spread_10 (by decide) ?_
    refine lv_iload_n hx hb dX9_spread_15 rfl (lv_at hl 3 rfl) ?_
    by_cases c7 : v2 = 0
    · have hf := ifp c7 hf
      rw [c7]
      refine lv_tableIn (off := 28) (tgt := 44) hx hb dX9_spread_16 (by decide) (by decide) (by rfl) (by decide) ?_
      refine lv_aload_n hx hb dX9_spread_44 rfl (lv_at hl 0 rfl) ?_
      refine lv_aload_n hx hb dX9_spread_45 rfl (lv_at hl 0 rfl) ?_
      refine va_get (ci := 2) (v := .int (gi (g h2) 0)) (C := RX2) (T := TX2) (N := 11) hx hb htw uwX2 hown hE.1 (hw _ _ (hm_kd hE g3)) 0 rfl rfl 0 (by decide) (htw _ mw163) (fun _ h9 => h9) rfl dX9_spread_46 ?_
      obtain ⟨z4, hz4, hf⟩ := bd hf
      refine cl_Vs (rest := []) (kgX2_knownBy (l := l) (Γ := Γ) (A := A) (G := g) (o := h2) (hm_kd hE g3) hz4) ⟨hx, hb, hml, hown, htw⟩ hE hw hS (hw _ _ (hm_kd hE g3)) (q0 := 0) rfl rfl mw1134 mw1135 mw1136 mw120 mw1137 pdX2_knownBy ⟨Nat.le_of_ble_eq_true rfl, Nat.le_of_ble_eq_true rfl⟩ rfl rfl hl.1 (Nat.le_of_ble_eq_true rfl) dX9_spread_49 (fun H locs hw hS => ?_)
      obtain rfl := Option.some.inj hf
      subst hq
      exact rt_i C hw hS dX9_spread_52
    have hf := ifn c7 hf
    by_cases c8 : v2 = 1
    · have hf := ifp c8 hf
      rw [c8]
      refine lv_tableIn (off := 37) (tgt := 53) hx hb dX9_spread_16 (by decide) (by decide) (by rfl) (by decide) ?_
      refine lv_aload_n hx hb dX9_spread_53 rfl (lv_at hl 0 rfl) ?_
      refine lv_iconst (v := 0) hx hb dX9_spread_54 (by decide) ?_
      obtain ⟨z5, hz5, hf⟩ := bd hf
      refine cl_Vs (rest := []) (kgX2_knownBy (l := l) (Γ := Γ) (A := A) (G := g) (o := h2) (hm_kd hE g3) hz5) ⟨hx, hb, hml, hown, htw⟩ hE hw hS (hw _ _ (hm_kd hE g3)) (q0 := 0) rfl rfl mw1134 mw1135 mw1136 mw120 mw1137 pdX2_knownBy ⟨Nat.le_of_ble_eq_true rfl, Nat.le_of_ble_eq_true rfl⟩ rfl rfl hl.1 (Nat.le_of_ble_eq_true rfl) dX9_spread_55 (fun H locs hw hS => ?_)
      obtain rfl := Option.some.inj hf
      subst hq
      exact rt_i C hw hS dX9_spread_58
    have hf := ifn c8 hf
    by_cases c9 : v2 = 2
    · have hf := ifp c9 hf
      rw [c9]
      refine lv_tableIn (off := 43) (tgt := 59) hx hb dX9_spread_16 (by decide) (by decide) (by rfl) (by decide) ?_
      refine lv_aload_n hx hb dX9_spread_59 rfl (lv_at hl 0 rfl) ?_
      refine lv_iconst (v := 1) hx hb dX9_spread_60 (by decide) ?_
      obtain ⟨z6, hz6, hf⟩ := bd hf
      refine cl_Vs (rest := []) (kgX2_knownBy (l := l) (Γ := Γ) (A := A) (G := g) (o := h2) (hm_kd hE g3) hz6) ⟨hx, hb, hml, hown, htw⟩ hE hw hS (hw _ _ (hm_kd hE g3)) (q0 := 0) rfl rfl mw1134 mw1135 mw1136 mw120 mw1137 pdX2_knownBy ⟨Nat.le_of_ble_eq_true rfl, Nat.le_of_ble_eq_true rfl⟩ rfl rfl hl.1 (Nat.le_of_ble_eq_true rfl) dX9_spread_61 (fun H locs hw hS => ?_)
      obtain rfl := Option.some.inj hf
      subst hq
      exact rt_i C hw hS dX9_spread_64
    have hf := ifn c9 hf
    refine lv_tableOut (tgt := 65) hx hb dX9_spread_16 (by have := And.intro (ts_ne (k := 0) (by decide) c7) (And.intro (ts_ne (k := 1) (by decide) c8) (And.intro (ts_ne (k := 2) (by decide) c9) (True.intro))); omega) (by decide) ?_
    refine lv_iconst (v := (-1)) hx hb dX9_spread_65 (by decide) ?_
    obtain rfl := Option.some.inj hf
    subst hq
    exact rt_i C hw hS dX9_spread_66

theorem kX9_spread {l : Launch} {Γ : Gm} {A : Nat → Prop} {g : Gs} {v1 : Int32} {v2 : Int32} {fin : Int32} (hf : fX9_spread g v1 v2 = some fin) : Kt l yX9_spread cX9_spread 4 (some .int) 2 46 Γ A g g [.ref (ad Γ 901), .int v1, .int v2] (some (.int fin)) :=
  kt_of (by decide) (Nat.le_of_ble_eq_true rfl) (fun p e s m args below meth c C => wX9_spread_e C hf rfl)
noncomputable def fX9_depth (g : Gs) (v1 : Int32) (v2 : Int32) (v3 : Int32) : Option Int32 :=
  (fX8_houseAt (g 800) 800 v1).bind fun z1 => oc z1 (some ((-1))) (fun h2 => gd (isHm h2) ((fX2_hasSecrets (g h2) v2).bind fun z4 => if z4 = 0 then some ((-1)) else (fX2_hasSecret (g h2) v3).bind fun z5 => if z5 = 0 then some ((-1)) else (fX2_roundsTo (g h2) v2 v3).bind fun z6 => some (z6)))
set_option maxRecDepth 100000 in
set_option maxHeartbeats 4000000 in
theorem wX9_depth_e {p : Program} {l : Launch} {e : Env} {s : State} {m : MethodId} {args : Array Value} {below : List Frame} {meth : Method} {c : Code} {Γ : Gm} {A : Nat → Prop} {g : Gs} {v1 : Int32} {v2 : Int32} {v3 : Int32} {q : Int32} {fin : Int32} (C : Cx p s m args meth c yX9_depth cX9_depth 5 (some .int) Γ A) (hf : fX9_depth g v1 v2 v3 = some q) (hq : (fun x => x = fin) q) : Wk p l e { frames := 3, cells := 0, slots := 0, locals := 69 } s m args below meth c Γ A g (some (.int fin)) 0 5 [(0, .ref (ad Γ 901)), (1, .int v1), (2, .int v2), (3, .int v3)] [] g := by
  intro H locs ls hw hS hl
  unfold fX9_depth at hf
  obtain ⟨hx, hb, hml, hr, hown, htw, hlocks, hE⟩ := id C
  have hown : s.vm.findClass RX9 = some m.cls := hown
  refine lv_aload_n hx hb dX9_depth_0 rfl (lv_at hl 0 rfl) ?_
  refine va_get (ci := 9) (v := .ref (ad Γ 800)) (C := RX9) (T := TX9) (N := 8) hx hb htw uwX9 hown hE.1 (hw _ _ (wf_901 hE)) 0 rfl rfl 0 (by decide) (htw _ mw433) (fun _ h9 => h9) rfl dX9_depth_1 ?_
  refine lv_iload_n hx hb dX9_depth_4 rfl (lv_at hl 1 rfl) ?_
  obtain ⟨z1, hz1, hf⟩ := bd hf
  refine cl_Vs (rest := []) (kgX8_houseAt (l := l) (Γ := Γ) (A := A) (G := g) (o := 800) (wf_800 hE) hz1) ⟨hx, hb, hml, hown, htw⟩ hE hw hS (hw _ _ (wf_800 hE)) (q0 := 0) rfl rfl mw629 mw630 mw631 mw119 mw632 pdX8_houseAt ⟨Nat.le_of_ble_eq_true rfl, Nat.le_of_ble_eq_true rfl⟩ rfl rfl hl.1 (Nat.le_of_ble_eq_true rfl) dX9_depth_5 (fun H locs hw hS => ?_)
  cases z1 with
  | none =>
    have hf := oc_none hf
    refine lv_astoreN (lv' := [(4, .null), (0, .ref (ad Γ 901)), (1, .int v1), (2, .int v2), (3, .int v3)]) hx hb dX9_depth_8 hl (by decide) rfl (fun ls hl => ?_)
    refine lv_aloadN hx hb dX9_depth_10 (lv_at hl 0 rfl) ?_
    refine lv_ifnullN (tgt := 33) hx hb dX9_depth_12 (by decide) ?_
    refine lv_iconst (v := (-1)) hx hb dX9_depth_33 (by decide) ?_
    obtain rfl := Option.some.inj hf
    subst hq
    exact rt_i C hw hS dX9_depth_34
  | some h2 =>
    have hf := oc_some hf
    obtain ⟨g3, hf⟩ := gd_some hf
    refine lv_astore (lv' := [(4, .ref (ad Γ h2)), (0, .ref (ad Γ 901)), (1, .int v1), (2, .int v2), (3, .int v3)]) hx hb dX9_depth_8 hl (by decide) rfl (fun ls hl => ?_)
    refine lv_aload hx hb dX9_depth_10 (lv_at hl 0 rfl) ?_
    refine lv_ifnull hx hb dX9_depth_12 ?_
    refine lv_aload hx hb dX9_depth_15 (lv_at hl 0 rfl) ?_
    refine lv_iload_n hx hb dX9_depth_17 rfl (lv_at hl 3 rfl) ?_
    obtain ⟨z4, hz4, hf⟩ := bd hf
    refine cl_Vs (rest := []) (kgX2_hasSecrets (l := l) (Γ := Γ) (A := A) (G := g) (o := h2) (hm_kd hE g3) hz4) ⟨hx, hb, hml, hown, htw⟩ hE hw hS (hw _ _ (hm_kd hE g3)) (q0 := 0) rfl rfl mw888 mw889 mw890 mw120 mw891 pdX2_hasSecrets ⟨Nat.le_of_ble_eq_true rfl, Nat.le_of_ble_eq_true rfl⟩ rfl rfl hl.1 (Nat.le_of_ble_eq_true rfl) dX9_depth_18 (fun H locs hw hS => ?_)
    refine lv_if_eq (tgt := 33) hx hb dX9_depth_21 (by decide) (fun c8 => ?_) (fun c8 => ?_)
    · have hf := ifp c8 hf
      refine lv_iconst (v := (-1)) hx hb dX9_depth_33 (by decide) ?_
      obtain rfl := Option.some.inj hf
      subst hq
      exact rt_i C hw hS dX9_depth_34
    · have hf := ifn c8 hf
      refine lv_aload hx hb dX9_depth_24 (lv_at hl 0 rfl) ?_
      refine lv_iload_n hx hb dX9_depth_26 rfl (lv_at hl 4 rfl) ?_
      obtain ⟨z5, hz5, hf⟩ := bd hf
      refine cl_Vs (rest := []) (kgX2_hasSecret (l := l) (Γ := Γ) (A := A) (G := g) (o := h2) (hm_kd hE g3) hz5) ⟨hx, hb, hml, hown, htw⟩ hE hw hS (hw _ _ (hm_kd hE g3)) (q0 := 0) rfl rfl mw706 mw691 mw692 mw120 mw693 pdX2_hasSecret ⟨Nat.le_of_ble_eq_true rfl, Nat.le_of_ble_eq_true rfl⟩ rfl rfl hl.1 (Nat.le_of_ble_eq_true rfl) dX9_depth_27 (fun H locs hw hS => ?_)
      refine lv_if_ne (tgt := 35) hx hb dX9_depth_30 (by decide) (fun c7 => ?_) (fun c7 => ?_)
      · have hf := ifn c7 hf
        refine lv_aload hx hb dX9_depth_35 (lv_at hl 0 rfl) ?_
        refine lv_iload_n hx hb dX9_depth_37 rfl (lv_at hl 3 rfl) ?_
        refine lv_iload_n hx hb dX9_depth_38 rfl (lv_at hl 4 rfl) ?_
        obtain ⟨z6, hz6, hf⟩ := bd hf
        refine cl_Vs (rest := []) (kgX2_roundsTo (l := l) (Γ := Γ) (A := A) (G := g) (o := h2) (hm_kd hE g3) hz6) ⟨hx, hb, hml, hown, htw⟩ hE hw hS (hw _ _ (hm_kd hE g3)) (q0 := 0) rfl rfl mw1142 mw1143 mw1144 mw120 mw1145 pdX2_roundsTo ⟨Nat.le_of_ble_eq_true rfl, Nat.le_of_ble_eq_true rfl⟩ rfl rfl hl.1 (Nat.le_of_ble_eq_true rfl) dX9_depth_39 (fun H locs hw hS => ?_)
        obtain rfl := Option.some.inj hf
        subst hq
        exact rt_i C hw hS dX9_depth_42
      · have hf := ifp c7 hf
        refine lv_iconst (v := (-1)) hx hb dX9_depth_33 (by decide) ?_
        obtain rfl := Option.some.inj hf
        subst hq
        exact rt_i C hw hS dX9_depth_34

theorem kX9_depth {l : Launch} {Γ : Gm} {A : Nat → Prop} {g : Gs} {v1 : Int32} {v2 : Int32} {v3 : Int32} {fin : Int32} (hf : fX9_depth g v1 v2 v3 = some fin) : Kt l yX9_depth cX9_depth 5 (some .int) 3 69 Γ A g g [.ref (ad Γ 901), .int v1, .int v2, .int v3] (some (.int fin)) :=
  kt_of (by decide) (Nat.le_of_ble_eq_true rfl) (fun p e s m args below meth c C => wX9_depth_e C hf rfl)
noncomputable def fX9_spare (g : Gs) (v1 : Int32) : Option Int32 :=
  (fX8_houseAt (g 800) 800 v1).bind fun z1 => oc z1 (some ((-1))) (fun h2 => gd (isHm h2) ((fX2_spareLinks (g h2)).bind fun z4 => some (z4)))
set_option maxRecDepth 100000 in
set_option maxHeartbeats 4000000 in
theorem wX9_spare_e {p : Program} {l : Launch} {e : Env} {s : State} {m : MethodId} {args : Array Value} {below : List Frame} {meth : Method} {c : Code} {Γ : Gm} {A : Nat → Prop} {g : Gs} {v1 : Int32} {q : Int32} {fin : Int32} (C : Cx p s m args meth c yX9_spare cX9_spare 3 (some .int) Γ A) (hf : fX9_spare g v1 = some q) (hq : (fun x => x = fin) q) : Wk p l e { frames := 4, cells := 0, slots := 0, locals := 92 } s m args below meth c Γ A g (some (.int fin)) 0 3 [(0, .ref (ad Γ 901)), (1, .int v1)] [] g := by
  intro H locs ls hw hS hl
  unfold fX9_spare at hf
  obtain ⟨hx, hb, hml, hr, hown, htw, hlocks, hE⟩ := id C
  have hown : s.vm.findClass RX9 = some m.cls := hown
  refine lv_aload_n hx hb dX9_spare_0 rfl (lv_at hl 0 rfl) ?_
  refine va_get (ci := 9) (v := .ref (ad Γ 800)) (C := RX9) (T := TX9) (N := 8) hx hb htw uwX9 hown hE.1 (hw _ _ (wf_901 hE)) 0 rfl rfl 0 (by decide) (htw _ mw433) (fun _ h9 => h9) rfl dX9_spare_1 ?_
  refine lv_iload_n hx hb dX9_spare_4 rfl (lv_at hl 1 rfl) ?_
  obtain ⟨z1, hz1, hf⟩ := bd hf
  refine cl_Vs (rest := []) (kgX8_houseAt (l := l) (Γ := Γ) (A := A) (G := g) (o := 800) (wf_800 hE) hz1) ⟨hx, hb, hml, hown, htw⟩ hE hw hS (hw _ _ (wf_800 hE)) (q0 := 0) rfl rfl mw629 mw630 mw631 mw119 mw632 pdX8_houseAt ⟨Nat.le_of_ble_eq_true rfl, Nat.le_of_ble_eq_true rfl⟩ rfl rfl hl.1 (Nat.le_of_ble_eq_true rfl) dX9_spare_5 (fun H locs hw hS => ?_)
  cases z1 with
  | none =>
    have hf := oc_none hf
    refine lv_astore_nN (lv' := [(2, .null), (0, .ref (ad Γ 901)), (1, .int v1)]) hx hb dX9_spare_8 rfl hl (by decide) rfl (fun ls hl => ?_)
    refine lv_aload_nN hx hb dX9_spare_9 rfl (lv_at hl 0 rfl) ?_
    refine lv_ifnonnullN hx hb dX9_spare_10 ?_
    refine lv_iconst (v := (-1)) hx hb dX9_spare_13 (by decide) ?_
    refine lv_goto (tgt := 21) hx hb dX9_spare_14 (by decide) ?_
    obtain rfl := Option.some.inj hf
    subst hq
    exact rt_i C hw hS dX9_spare_21
  | some h2 =>
    have hf := oc_some hf
    obtain ⟨g3, hf⟩ := gd_some hf
    refine lv_astore_n (lv' := [(2, .ref (ad Γ h2)), (0, .ref (ad Γ 901)), (1, .int v1)]) hx hb dX9_spare_8 rfl hl (by decide) rfl (fun ls hl => ?_)
    refine lv_aload_n hx hb dX9_spare_9 rfl (lv_at hl 0 rfl) ?_
    refine lv_ifnonnull (tgt := 17) hx hb dX9_spare_10 (by decide) ?_
    refine lv_aload_n hx hb dX9_spare_17 rfl (lv_at hl 0 rfl) ?_
    obtain ⟨z4, hz4, hf⟩ := bd hf
    refine cl_Vs (rest := []) (kgX2_spareLinks (l := l) (Γ := Γ) (A := A) (G := g) (o := h2) (hm_kd hE g3) hz4) ⟨hx, hb, hml, hown, htw⟩ hE hw hS (hw _ _ (hm_kd hE g3)) (q0 := 0) rfl rfl mw1150 mw1151 mw1152 mw120 mw1153 pdX2_spareLinks ⟨Nat.le_of_ble_eq_true rfl, Nat.le_of_ble_eq_true rfl⟩ rfl rfl hl.1 (Nat.le_of_ble_eq_true rfl) dX9_spare_18 (fun H locs hw hS => ?_)
    obtain rfl := Option.some.inj hf
    subst hq
    exact rt_i C hw hS dX9_spare_21

theorem kX9_spare {l : Launch} {Γ : Gm} {A : Nat → Prop} {g : Gs} {v1 : Int32} {fin : Int32} (hf : fX9_spare g v1 = some fin) : Kt l yX9_spare cX9_spare 3 (some .int) 4 92 Γ A g g [.ref (ad Γ 901), .int v1] (some (.int fin)) :=
  kt_of (by decide) (Nat.le_of_ble_eq_true rfl) (fun p e s m args below meth c C => wX9_spare_e C hf rfl)
noncomputable def fX9_guarded (g : Gs) (v1 : Int32) (v2 : Int32) (v3 : Int32) (v4 : Int32) : Option (Gs × Int32) :=
  (fX8_houseAt (g 800) 800 v1).bind fun z1 => oc z1 (some ((g, (-1)))) (fun h2 => gd (isHm h2) (if v2 < 0 then some ((g, (-1))) else if 8 < v2 then some ((g, (-1))) else if v3 < 0 then some ((g, (-1))) else if v3 ≤ 8 then (fX7_spoil g h2).bind fun z4 => (fX2_allPieces (z4 h2)).bind fun z5 => (fX7_bestGuards z4 z5 v2 v3).bind fun z6 => if v4 = 0 then (fX2_allPieces (z4 h2)).bind fun z7 => (fX7_bestPieces z4 (z7 &&& (z6 ^^^ (-1))) v3).bind fun z8 => (fX7_got z4 z8).bind fun z9 => some ((z4, z9)) else some ((z4, z6)) else some ((g, (-1)))))
set_option maxRecDepth 100000 in
set_option maxHeartbeats 4000000 in
theorem wX9_guarded_e {p : Program} {l : Launch} {e : Env} {s : State} {m : MethodId} {args : Array Value} {below : List Frame} {meth : Method} {c : Code} {Γ : Gm} {A : Nat → Prop} {g : Gs} {v1 : Int32} {v2 : Int32} {v3 : Int32} {v4 : Int32} {q : (Gs × Int32)} {fin : Gs × Int32} (C : Cx p s m args meth c yX9_guarded cX9_guarded 7 (some .int) Γ A) (hf : fX9_guarded g v1 v2 v3 v4 = some q) (hq : (fun x => x = fin) q) : Wk p l e { frames := 4, cells := 0, slots := 0, locals := 93 } s m args below meth c Γ A fin.1 (some (.int fin.2)) 0 7 [(0, .ref (ad Γ 901)), (1, .int v1), (2, .int v2), (3, .int v3), (4, .int v4)] [] g := by
  intro H locs ls hw hS hl
  unfold fX9_guarded at hf
  obtain ⟨hx, hb, hml, hr, hown, htw, hlocks, hE⟩ := id C
  have hown : s.vm.findClass RX9 = some m.cls := hown
  refine lv_aload_n hx hb dX9_guarded_0 rfl (lv_at hl 0 rfl) ?_
  refine va_get (ci := 9) (v := .ref (ad Γ 800)) (C := RX9) (T := TX9) (N := 8) hx hb htw uwX9 hown hE.1 (hw _ _ (wf_901 hE)) 0 rfl rfl 0 (by decide) (htw _ mw433) (fun _ h9 => h9) rfl dX9_guarded_1 ?_
  refine lv_iload_n hx hb dX9_guarded_4 rfl (lv_at hl 1 rfl) ?_
  obtain ⟨z1, hz1, hf⟩ := bd hf
  refine cl_Vs (rest := []) (kgX8_houseAt (l := l) (Γ := Γ) (A := A) (G := g) (o := 800) (wf_800 hE) hz1) ⟨hx, hb, hml, hown, htw⟩ hE hw hS (hw _ _ (wf_800 hE)) (q0 := 0) rfl rfl mw629 mw630 mw631 mw119 mw632 pdX8_houseAt ⟨Nat.le_of_ble_eq_true rfl, Nat.le_of_ble_eq_true rfl⟩ rfl rfl hl.1 (Nat.le_of_ble_eq_true rfl) dX9_guarded_5 (fun H locs hw hS => ?_)
  cases z1 with
  | none =>
    have hf := oc_none hf
    refine lv_astoreN (lv' := [(5, .null), (0, .ref (ad Γ 901)), (1, .int v1), (2, .int v2), (3, .int v3), (4, .int v4)]) hx hb dX9_guarded_8 hl (by decide) rfl (fun ls hl => ?_)
    refine lv_aloadN hx hb dX9_guarded_10 (lv_at hl 0 rfl) ?_
    refine lv_ifnullN (tgt := 35) hx hb dX9_guarded_12 (by decide) ?_
    refine lv_iconst (v := (-1)) hx hb dX9_guarded_35 (by decide) ?_
    obtain rfl := Option.some.inj hf
    subst hq
    exact rt_i C hw hS dX9_guarded_36
  | some h2 =>
    have hf := oc_some hf
    obtain ⟨g3, hf⟩ := gd_some hf
    refine lv_astore (lv' := [(5, .ref (ad Γ h2)), (0, .ref (ad Γ 901)), (1, .int v1), (2, .int v2), (3, .int v3), (4, .int v4)]) hx hb dX9_guarded_8 hl (by decide) rfl (fun ls hl => ?_)
    refine lv_aload hx hb dX9_guarded_10 (lv_at hl 0 rfl) ?_
    refine lv_ifnull hx hb dX9_guarded_12 ?_
    refine lv_iload_n hx hb dX9_guarded_15 rfl (lv_at hl 3 rfl) ?_
    refine lv_if_lt (tgt := 35) hx hb dX9_guarded_16 (by decide) (fun c14 => ?_) (fun c14 => ?_)
    · have hf := ifp c14 hf
      refine lv_iconst (v := (-1)) hx hb dX9_guarded_35 (by decide) ?_
      obtain rfl := Option.some.inj hf
      subst hq
      exact rt_i C hw hS dX9_guarded_36
    · have hf := ifn c14 hf
      refine lv_iload_n hx hb dX9_guarded_19 rfl (lv_at hl 3 rfl) ?_
      refine lv_bipush (v := 8) hx hb dX9_guarded_20 (by decide) ?_
      refine lv_icmp_gt (tgt := 35) hx hb dX9_guarded_22 (by decide) (fun c13 => ?_) (fun c13 => ?_)
      · have hf := ifp c13 hf
        refine lv_iconst (v := (-1)) hx hb dX9_guarded_35 (by decide) ?_
        obtain rfl := Option.some.inj hf
        subst hq
        exact rt_i C hw hS dX9_guarded_36
      · have hf := ifn c13 hf
        refine lv_iload_n hx hb dX9_guarded_25 rfl (lv_at hl 4 rfl) ?_
        refine lv_if_lt (tgt := 35) hx hb dX9_guarded_26 (by decide) (fun c12 => ?_) (fun c12 => ?_)
        · have hf := ifp c12 hf
          refine lv_iconst (v := (-1)) hx hb dX9_guarded_35 (by decide) ?_
          obtain rfl := Option.some.inj hf
          subst hq
          exact rt_i C hw hS dX9_guarded_36
        · have hf := ifn c12 hf
          refine lv_iload_n hx hb dX9_guarded_29 rfl (lv_at hl 4 rfl) ?_
          refine lv_bipush (v := 8) hx hb dX9_guarded_30 (by decide) ?_
          refine lv_icmp_le (tgt := 37) hx hb dX9_guarded_32 (by decide) (fun c11 => ?_) (fun c11 => ?_)
          · have hf := ifp c11 hf
            refine lv_aload_n hx hb dX9_guarded_37 rfl (lv_at hl 1 rfl) ?_
            refine va_get (ci := 9) (v := .ref (ad Γ 701)) (C := RX9) (T := TX9) (N := 8) hx hb htw uwX9 hown hE.1 (hw _ _ (wf_901 hE)) 0 rfl rfl 7 (by decide) (htw _ mw440) (fun _ h9 => h9) rfl dX9_guarded_38 ?_
            refine lv_aload hx hb dX9_guarded_41 (lv_at hl 0 rfl) ?_
            obtain ⟨z4, hz4, hf⟩ := bd hf
            refine cl_Vv (rest := []) (kX7_spoil (l := l) (Γ := Γ) (A := A) (hm_kd hE g3) hz4) ⟨hx, hb, hml, hown, htw⟩ hE hw hS (hw _ _ (wf_701 hE)) (q0 := 0) rfl rfl mw919 mw920 mw921 mw128 mw922 pdX7_spoil ⟨Nat.le_of_ble_eq_true rfl, Nat.le_of_ble_eq_true rfl⟩ rfl rfl hl.1 (Nat.le_of_ble_eq_true rfl) dX9_guarded_43 (fun H locs hw hS => ?_)
            refine lv_aload_n hx hb dX9_guarded_46 rfl (lv_at hl 1 rfl) ?_
            refine va_get (ci := 9) (v := .ref (ad Γ 701)) (C := RX9) (T := TX9) (N := 8) hx hb htw uwX9 hown hE.1 (hw _ _ (wf_901 hE)) 0 rfl rfl 7 (by decide) (htw _ mw440) (fun _ h9 => h9) rfl dX9_guarded_47 ?_
            refine lv_aload hx hb dX9_guarded_50 (lv_at hl 0 rfl) ?_
            obtain ⟨z5, hz5, hf⟩ := bd hf
            refine cl_Vs (rest := [.ref (ad Γ 701)]) (kgX2_allPieces (l := l) (Γ := Γ) (A := A) (G := z4) (o := h2) (hm_kd hE g3) hz5) ⟨hx, hb, hml, hown, htw⟩ hE hw hS (hw _ _ (hm_kd hE g3)) (q0 := 0) rfl rfl mw933 mw924 mw925 mw120 mw926 pdX2_allPieces ⟨Nat.le_of_ble_eq_true rfl, Nat.le_of_ble_eq_true rfl⟩ rfl rfl hl.1 (Nat.le_of_ble_eq_true rfl) dX9_guarded_52 (fun H locs hw hS => ?_)
            refine lv_iload_n hx hb dX9_guarded_55 rfl (lv_at hl 3 rfl) ?_
            refine lv_iload_n hx hb dX9_guarded_56 rfl (lv_at hl 4 rfl) ?_
            obtain ⟨z6, hz6, hf⟩ := bd hf
            refine cl_Vs (rest := []) (kX7_bestGuards (l := l) (Γ := Γ) (A := A) hz6) ⟨hx, hb, hml, hown, htw⟩ hE hw hS (hw _ _ (wf_701 hE)) (q0 := 0) rfl rfl mw1158 mw1159 mw1160 mw128 mw1161 pdX7_bestGuards ⟨Nat.le_of_ble_eq_true rfl, Nat.le_of_ble_eq_true rfl⟩ rfl rfl hl.1 (Nat.le_of_ble_eq_true rfl) dX9_guarded_57 (fun H locs hw hS => ?_)
            refine lv_istore (lv' := [(6, .int z6), (5, .ref (ad Γ h2)), (0, .ref (ad Γ 901)), (1, .int v1), (2, .int v2), (3, .int v3), (4, .int v4)]) hx hb dX9_guarded_60 hl (by decide) rfl (fun ls hl => ?_)
            refine lv_iload hx hb dX9_guarded_62 (lv_at hl 6 rfl) ?_
            refine lv_if_eq (tgt := 72) hx hb dX9_guarded_64 (by decide) (fun c10 => ?_) (fun c10 => ?_)
            · have hf := ifp c10 hf
              refine lv_aload_n hx hb dX9_guarded_72 rfl (lv_at hl 2 rfl) ?_
              refine va_get (ci := 9) (v := .ref (ad Γ 701)) (C := RX9) (T := TX9) (N := 8) hx hb htw uwX9 hown hE.1 (hw _ _ (wf_901 hE)) 0 rfl rfl 7 (by decide) (htw _ mw440) (fun _ h9 => h9) rfl dX9_guarded_73 ?_
              refine lv_aload_n hx hb dX9_guarded_76 rfl (lv_at hl 2 rfl) ?_
              refine va_get (ci := 9) (v := .ref (ad Γ 701)) (C := RX9) (T := TX9) (N := 8) hx hb htw uwX9 hown hE.1 (hw _ _ (wf_901 hE)) 0 rfl rfl 7 (by decide) (htw _ mw440) (fun _ h9 => h9) rfl dX9_guarded_77 ?_
              refine lv_aload hx hb dX9_guarded_80 (lv_at hl 1 rfl) ?_
              obtain ⟨z7, hz7, hf⟩ := bd hf
              refine cl_Vs (rest := [.ref (ad Γ 701), .ref (ad Γ 701)]) (kgX2_allPieces (l := l) (Γ := Γ) (A := A) (G := z4) (o := h2) (hm_kd hE g3) hz7) ⟨hx, hb, hml, hown, htw⟩ hE hw hS (hw _ _ (hm_kd hE g3)) (q0 := 0) rfl rfl mw933 mw924 mw925 mw120 mw926 pdX2_allPieces ⟨Nat.le_of_ble_eq_true rfl, Nat.le_of_ble_eq_true rfl⟩ rfl rfl hl.1 (Nat.le_of_ble_eq_true rfl) dX9_guarded_82 (fun H locs hw hS => ?_)
              refine lv_iload hx hb dX9_guarded_85 (lv_at hl 0 rfl) ?_
              refine lv_iconst (v := (-1)) hx hb dX9_guarded_87 (by decide) ?_
              refine lv_ixor hx hb dX9_guarded_88 ?_
              refine lv_iand hx hb dX9_guarded_89 ?_
              refine lv_iload_n hx hb dX9_guarded_90 rfl (lv_at hl 5 rfl) ?_
              obtain ⟨z8, hz8, hf⟩ := bd hf
              refine cl_Vs (rest := [.ref (ad Γ 701)]) (kX7_bestPieces (l := l) (Γ := Γ) (A := A) hz8) ⟨hx, hb, hml, hown, htw⟩ hE hw hS (hw _ _ (wf_701 hE)) (q0 := 0) rfl rfl mw934 mw935 mw936 mw128 mw937 pdX7_bestPieces ⟨Nat.le_of_ble_eq_true rfl, Nat.le_of_ble_eq_true rfl⟩ rfl rfl hl.1 (Nat.le_of_ble_eq_true rfl) dX9_guarded_91 (fun H locs hw hS => ?_)
              obtain ⟨z9, hz9, hf⟩ := bd hf
              refine cl_Vs (rest := []) (kX7_got (l := l) (Γ := Γ) (A := A) hz9) ⟨hx, hb, hml, hown, htw⟩ hE hw hS (hw _ _ (wf_701 hE)) (q0 := 0) rfl rfl mw943 mw940 mw941 mw128 mw942 pdX7_got ⟨Nat.le_of_ble_eq_true rfl, Nat.le_of_ble_eq_true rfl⟩ rfl rfl hl.1 (Nat.le_of_ble_eq_true rfl) dX9_guarded_94 (fun H locs hw hS => ?_)
              obtain rfl := Option.some.inj hf
              subst hq
              exact rt_i C hw hS dX9_guarded_97
            · have hf := ifn c10 hf
              refine lv_iload hx hb dX9_guarded_67 (lv_at hl 0 rfl) ?_
              refine lv_goto (tgt := 97) hx hb dX9_guarded_69 (by decide) ?_
              obtain rfl := Option.some.inj hf
              subst hq
              exact rt_i C hw hS dX9_guarded_97
          · have hf := ifn c11 hf
            refine lv_iconst (v := (-1)) hx hb dX9_guarded_35 (by decide) ?_
            obtain rfl := Option.some.inj hf
            subst hq
            exact rt_i C hw hS dX9_guarded_36

theorem kX9_guarded {l : Launch} {Γ : Gm} {A : Nat → Prop} {g : Gs} {v1 : Int32} {v2 : Int32} {v3 : Int32} {v4 : Int32} {fin : Gs × Int32} (hf : fX9_guarded g v1 v2 v3 v4 = some fin) : Kt l yX9_guarded cX9_guarded 7 (some .int) 4 93 Γ A g fin.1 [.ref (ad Γ 901), .int v1, .int v2, .int v3, .int v4] (some (.int fin.2)) :=
  kt_of (by decide) (Nat.le_of_ble_eq_true rfl) (fun p e s m args below meth c C => wX9_guarded_e C hf rfl)
noncomputable def fX9_evening (g : Gs) (v1 : Int32) (v2 : Int32) (v3 : Int32) : Option (Gs × Int32) :=
  (fX8_houseAt (g 800) 800 v1).bind fun z1 => oc z1 (some ((g, (-1)))) (fun h2 => gd (isHm h2) ((fX2_mayBeTold (g h2) v2).bind fun z4 => if z4 = 0 then some ((g, (-1))) else (fX2_hasSecret (g h2) v3).bind fun z5 => if z5 = 0 then some ((g, (-1))) else (fX3_whenTold g h2 v2 v3).bind fun z6 => some ((z6.1, z6.2))))
set_option maxRecDepth 100000 in
set_option maxHeartbeats 4000000 in
theorem wX9_evening_e {p : Program} {l : Launch} {e : Env} {s : State} {m : MethodId} {args : Array Value} {below : List Frame} {meth : Method} {c : Code} {Γ : Gm} {A : Nat → Prop} {g : Gs} {v1 : Int32} {v2 : Int32} {v3 : Int32} {q : (Gs × Int32)} {fin : Gs × Int32} (C : Cx p s m args meth c yX9_evening cX9_evening 5 (some .int) Γ A) (hf : fX9_evening g v1 v2 v3 = some q) (hq : (fun x => x = fin) q) : Wk p l e { frames := 14, cells := 0, slots := 0, locals := 375 } s m args below meth c Γ A fin.1 (some (.int fin.2)) 0 5 [(0, .ref (ad Γ 901)), (1, .int v1), (2, .int v2), (3, .int v3)] [] g := by
  intro H locs ls hw hS hl
  unfold fX9_evening at hf
  obtain ⟨hx, hb, hml, hr, hown, htw, hlocks, hE⟩ := id C
  have hown : s.vm.findClass RX9 = some m.cls := hown
  refine lv_aload_n hx hb dX9_evening_0 rfl (lv_at hl 0 rfl) ?_
  refine va_get (ci := 9) (v := .ref (ad Γ 800)) (C := RX9) (T := TX9) (N := 8) hx hb htw uwX9 hown hE.1 (hw _ _ (wf_901 hE)) 0 rfl rfl 0 (by decide) (htw _ mw433) (fun _ h9 => h9) rfl dX9_evening_1 ?_
  refine lv_iload_n hx hb dX9_evening_4 rfl (lv_at hl 1 rfl) ?_
  obtain ⟨z1, hz1, hf⟩ := bd hf
  refine cl_Vs (rest := []) (kgX8_houseAt (l := l) (Γ := Γ) (A := A) (G := g) (o := 800) (wf_800 hE) hz1) ⟨hx, hb, hml, hown, htw⟩ hE hw hS (hw _ _ (wf_800 hE)) (q0 := 0) rfl rfl mw629 mw630 mw631 mw119 mw632 pdX8_houseAt ⟨Nat.le_of_ble_eq_true rfl, Nat.le_of_ble_eq_true rfl⟩ rfl rfl hl.1 (Nat.le_of_ble_eq_true rfl) dX9_evening_5 (fun H locs hw hS => ?_)
  cases z1 with
  | none =>
    have hf := oc_none hf
    refine lv_astoreN (lv' := [(4, .null), (0, .ref (ad Γ 901)), (1, .int v1), (2, .int v2), (3, .int v3)]) hx hb dX9_evening_8 hl (by decide) rfl (fun ls hl => ?_)
    refine lv_aloadN hx hb dX9_evening_10 (lv_at hl 0 rfl) ?_
    refine lv_ifnullN (tgt := 33) hx hb dX9_evening_12 (by decide) ?_
    refine lv_iconst (v := (-1)) hx hb dX9_evening_33 (by decide) ?_
    obtain rfl := Option.some.inj hf
    subst hq
    exact rt_i C hw hS dX9_evening_34
  | some h2 =>
    have hf := oc_some hf
    obtain ⟨g3, hf⟩ := gd_some hf
    refine lv_astore (lv' := [(4, .ref (ad Γ h2)), (0, .ref (ad Γ 901)), (1, .int v1), (2, .int v2), (3, .int v3)]) hx hb dX9_evening_8 hl (by decide) rfl (fun ls hl => ?_)
    refine lv_aload hx hb dX9_evening_10 (lv_at hl 0 rfl) ?_
    refine lv_ifnull hx hb dX9_evening_12 ?_
    refine lv_aload hx hb dX9_evening_15 (lv_at hl 0 rfl) ?_
    refine lv_iload_n hx hb dX9_evening_17 rfl (lv_at hl 3 rfl) ?_
    obtain ⟨z4, hz4, hf⟩ := bd hf
    refine cl_Vs (rest := []) (kgX2_mayBeTold (l := l) (Γ := Γ) (A := A) (G := g) (o := h2) (hm_kd hE g3) hz4) ⟨hx, hb, hml, hown, htw⟩ hE hw hS (hw _ _ (hm_kd hE g3)) (q0 := 0) rfl rfl mw948 mw949 mw950 mw120 mw951 pdX2_mayBeTold ⟨Nat.le_of_ble_eq_true rfl, Nat.le_of_ble_eq_true rfl⟩ rfl rfl hl.1 (Nat.le_of_ble_eq_true rfl) dX9_evening_18 (fun H locs hw hS => ?_)
    refine lv_if_eq (tgt := 33) hx hb dX9_evening_21 (by decide) (fun c8 => ?_) (fun c8 => ?_)
    · have hf := ifp c8 hf
      refine lv_iconst (v := (-1)) hx hb dX9_evening_33 (by decide) ?_
      obtain rfl := Option.some.inj hf
      subst hq
      exact rt_i C hw hS dX9_evening_34
    · have hf := ifn c8 hf
      refine lv_aload hx hb dX9_evening_24 (lv_at hl 0 rfl) ?_
      refine lv_iload_n hx hb dX9_evening_26 rfl (lv_at hl 4 rfl) ?_
      obtain ⟨z5, hz5, hf⟩ := bd hf
      refine cl_Vs (rest := []) (kgX2_hasSecret (l := l) (Γ := Γ) (A := A) (G := g) (o := h2) (hm_kd hE g3) hz5) ⟨hx, hb, hml, hown, htw⟩ hE hw hS (hw _ _ (hm_kd hE g3)) (q0 := 0) rfl rfl mw706 mw691 mw692 mw120 mw693 pdX2_hasSecret ⟨Nat.le_of_ble_eq_true rfl, Nat.le_of_ble_eq_true rfl⟩ rfl rfl hl.1 (Nat.le_of_ble_eq_true rfl) dX9_evening_27 (fun H locs hw hS => ?_)
      refine lv_if_ne (tgt := 35) hx hb dX9_evening_30 (by decide) (fun c7 => ?_) (fun c7 => ?_)
      · have hf := ifn c7 hf
        refine lv_aload_n hx hb dX9_evening_35 rfl (lv_at hl 1 rfl) ?_
        refine va_get (ci := 9) (v := .ref (ad Γ 301)) (C := RX9) (T := TX9) (N := 8) hx hb htw uwX9 hown hE.1 (hw _ _ (wf_901 hE)) 0 rfl rfl 5 (by decide) (htw _ mw438) (fun _ h9 => h9) rfl dX9_evening_36 ?_
        refine lv_aload hx hb dX9_evening_39 (lv_at hl 0 rfl) ?_
        refine lv_iload_n hx hb dX9_evening_41 rfl (lv_at hl 3 rfl) ?_
        refine lv_iload_n hx hb dX9_evening_42 rfl (lv_at hl 4 rfl) ?_
        obtain ⟨z6, hz6, hf⟩ := bd hf
        refine cl_Vs (rest := []) (kX3_whenTold (l := l) (Γ := Γ) (A := A) (hm_kd hE g3) hz6) ⟨hx, hb, hml, hown, htw⟩ hE hw hS (hw _ _ (wf_301 hE)) (q0 := 0) rfl rfl mw1167 mw1168 mw1169 mw126 mw1170 pdX3_whenTold ⟨Nat.le_of_ble_eq_true rfl, Nat.le_of_ble_eq_true rfl⟩ rfl rfl hl.1 (Nat.le_of_ble_eq_true rfl) dX9_evening_43 (fun H locs hw hS => ?_)
        obtain rfl := Option.some.inj hf
        subst hq
        exact rt_i C hw hS dX9_evening_46
      · have hf := ifp c7 hf
        refine lv_iconst (v := (-1)) hx hb dX9_evening_33 (by decide) ?_
        obtain rfl := Option.some.inj hf
        subst hq
        exact rt_i C hw hS dX9_evening_34

theorem kX9_evening {l : Launch} {Γ : Gm} {A : Nat → Prop} {g : Gs} {v1 : Int32} {v2 : Int32} {v3 : Int32} {fin : Gs × Int32} (hf : fX9_evening g v1 v2 v3 = some fin) : Kt l yX9_evening cX9_evening 5 (some .int) 14 375 Γ A g fin.1 [.ref (ad Γ 901), .int v1, .int v2, .int v3] (some (.int fin.2)) :=
  kt_of (by decide) (Nat.le_of_ble_eq_true rfl) (fun p e s m args below meth c C => wX9_evening_e C hf rfl)
noncomputable def fX9_leaks (g : Gs) (v1 : Int32) (v2 : Int32) (v3 : Int32) : Option Int64 :=
  (fX8_houseAt (g 800) 800 v1).bind fun z1 => oc z1 (some ((-1))) (fun h2 => gd (isHm h2) (if v2 < 0 then some ((-1)) else if v2 ≤ (gi (g h2) 1) then (fX2_weightLeaking (g h2) v2).bind fun z4 => (fX2_countSets (g h2) v2).bind fun z5 => (fX9_fractionPart ((z4 : Int32).toInt64) ((z5 : Int32).toInt64) v3).bind fun z6 => some (z6) else some ((-1))))
set_option maxRecDepth 100000 in
set_option maxHeartbeats 4000000 in
theorem wX9_leaks_e {p : Program} {l : Launch} {e : Env} {s : State} {m : MethodId} {args : Array Value} {below : List Frame} {meth : Method} {c : Code} {Γ : Gm} {A : Nat → Prop} {g : Gs} {v1 : Int32} {v2 : Int32} {v3 : Int32} {q : Int64} {fin : Int64} (C : Cx p s m args meth c yX9_leaks cX9_leaks 5 (some .long) Γ A) (hf : fX9_leaks g v1 v2 v3 = some q) (hq : (fun x => x = fin) q) : Wk p l e { frames := 4, cells := 0, slots := 0, locals := 92 } s m args below meth c Γ A g (some (.long fin)) 0 5 [(0, .ref (ad Γ 901)), (1, .int v1), (2, .int v2), (3, .int v3)] [] g := by
  intro H locs ls hw hS hl
  unfold fX9_leaks at hf
  obtain ⟨hx, hb, hml, hr, hown, htw, hlocks, hE⟩ := id C
  have hown : s.vm.findClass RX9 = some m.cls := hown
  refine lv_aload_n hx hb dX9_leaks_0 rfl (lv_at hl 0 rfl) ?_
  refine va_get (ci := 9) (v := .ref (ad Γ 800)) (C := RX9) (T := TX9) (N := 8) hx hb htw uwX9 hown hE.1 (hw _ _ (wf_901 hE)) 0 rfl rfl 0 (by decide) (htw _ mw433) (fun _ h9 => h9) rfl dX9_leaks_1 ?_
  refine lv_iload_n hx hb dX9_leaks_4 rfl (lv_at hl 1 rfl) ?_
  obtain ⟨z1, hz1, hf⟩ := bd hf
  refine cl_Vs (rest := []) (kgX8_houseAt (l := l) (Γ := Γ) (A := A) (G := g) (o := 800) (wf_800 hE) hz1) ⟨hx, hb, hml, hown, htw⟩ hE hw hS (hw _ _ (wf_800 hE)) (q0 := 0) rfl rfl mw629 mw630 mw631 mw119 mw632 pdX8_houseAt ⟨Nat.le_of_ble_eq_true rfl, Nat.le_of_ble_eq_true rfl⟩ rfl rfl hl.1 (Nat.le_of_ble_eq_true rfl) dX9_leaks_5 (fun H locs hw hS => ?_)
  cases z1 with
  | none =>
    have hf := oc_none hf
    refine lv_astoreN (lv' := [(4, .null), (0, .ref (ad Γ 901)), (1, .int v1), (2, .int v2), (3, .int v3)]) hx hb dX9_leaks_8 hl (by decide) rfl (fun ls hl => ?_)
    refine lv_aloadN hx hb dX9_leaks_10 (lv_at hl 0 rfl) ?_
    refine lv_ifnullN (tgt := 28) hx hb dX9_leaks_12 (by decide) ?_
    refine lv_ldc2 hx hb hown (htw _ mw967) dX9_leaks_28 ?_
    obtain rfl := Option.some.inj hf
    subst hq
    exact rt_l C hw hS dX9_leaks_31
  | some h2 =>
    have hf := oc_some hf
    obtain ⟨g3, hf⟩ := gd_some hf
    refine lv_astore (lv' := [(4, .ref (ad Γ h2)), (0, .ref (ad Γ 901)), (1, .int v1), (2, .int v2), (3, .int v3)]) hx hb dX9_leaks_8 hl (by decide) rfl (fun ls hl => ?_)
    refine lv_aload hx hb dX9_leaks_10 (lv_at hl 0 rfl) ?_
    refine lv_ifnull hx hb dX9_leaks_12 ?_
    refine lv_iload_n hx hb dX9_leaks_15 rfl (lv_at hl 3 rfl) ?_
    refine lv_if_lt (tgt := 28) hx hb dX9_leaks_16 (by decide) (fun c8 => ?_) (fun c8 => ?_)
    · have hf := ifp c8 hf
      refine lv_ldc2 hx hb hown (htw _ mw967) dX9_leaks_28 ?_
      obtain rfl := Option.some.inj hf
      subst hq
      exact rt_l C hw hS dX9_leaks_31
    · have hf := ifn c8 hf
      refine lv_iload_n hx hb dX9_leaks_19 rfl (lv_at hl 3 rfl) ?_
      refine lv_aload hx hb dX9_leaks_20 (lv_at hl 0 rfl) ?_
      refine va_get (ci := 2) (v := .int (gi (g h2) 1)) (C := RX2) (T := TX2) (N := 11) hx hb htw uwX2 hown hE.1 (hw _ _ (hm_kd hE g3)) 0 rfl rfl 1 (by decide) (htw _ mw169) (fun _ h9 => h9) rfl dX9_leaks_22 ?_
      refine lv_icmp_le (tgt := 32) hx hb dX9_leaks_25 (by decide) (fun c7 => ?_) (fun c7 => ?_)
      · have hf := ifp c7 hf
        refine lv_aload hx hb dX9_leaks_32 (lv_at hl 0 rfl) ?_
        refine lv_iload_n hx hb dX9_leaks_34 rfl (lv_at hl 3 rfl) ?_
        obtain ⟨z4, hz4, hf⟩ := bd hf
        refine cl_Vs (rest := []) (kgX2_weightLeaking (l := l) (Γ := Γ) (A := A) (G := g) (o := h2) (hm_kd hE g3) hz4) ⟨hx, hb, hml, hown, htw⟩ hE hw hS (hw _ _ (hm_kd hE g3)) (q0 := 0) rfl rfl mw1180 mw1181 mw1182 mw120 mw1183 pdX2_weightLeaking ⟨Nat.le_of_ble_eq_true rfl, Nat.le_of_ble_eq_true rfl⟩ rfl rfl hl.1 (Nat.le_of_ble_eq_true rfl) dX9_leaks_35 (fun H locs hw hS => ?_)
        refine lv_i2l (v := (z4 : Int32).toInt64) hx hb dX9_leaks_38 rfl ?_
        refine lv_aload hx hb dX9_leaks_39 (lv_at hl 0 rfl) ?_
        refine lv_iload_n hx hb dX9_leaks_41 rfl (lv_at hl 3 rfl) ?_
        obtain ⟨z5, hz5, hf⟩ := bd hf
        refine cl_Vs (rest := [.long ((z4 : Int32).toInt64)]) (kgX2_countSets (l := l) (Γ := Γ) (A := A) (G := g) (o := h2) (hm_kd hE g3) hz5) ⟨hx, hb, hml, hown, htw⟩ hE hw hS (hw _ _ (hm_kd hE g3)) (q0 := 0) rfl rfl mw972 mw973 mw974 mw120 mw975 pdX2_countSets ⟨Nat.le_of_ble_eq_true rfl, Nat.le_of_ble_eq_true rfl⟩ rfl rfl hl.1 (Nat.le_of_ble_eq_true rfl) dX9_leaks_42 (fun H locs hw hS => ?_)
        refine lv_i2l (v := (z5 : Int32).toInt64) hx hb dX9_leaks_45 rfl ?_
        refine lv_iload_n hx hb dX9_leaks_46 rfl (lv_at hl 4 rfl) ?_
        obtain ⟨z6, hz6, hf⟩ := bd hf
        refine cl_Ss (rest := []) (kX9_fractionPart (l := l) (Γ := Γ) (A := A) (G := g) hz6) ⟨hx, hb, hml, hown, htw⟩ hE hw hS mw976 mw977 mw118 mw978 pdX9_fractionPart ⟨Nat.le_of_ble_eq_true rfl, Nat.le_of_ble_eq_true rfl⟩ rfl rfl hl.1 (Nat.le_of_ble_eq_true rfl) dX9_leaks_47 (fun H locs hw hS => ?_)
        obtain rfl := Option.some.inj hf
        subst hq
        exact rt_l C hw hS dX9_leaks_50
      · have hf := ifn c7 hf
        refine lv_ldc2 hx hb hown (htw _ mw967) dX9_leaks_28 ?_
        obtain rfl := Option.some.inj hf
        subst hq
        exact rt_l C hw hS dX9_leaks_31

theorem kX9_leaks {l : Launch} {Γ : Gm} {A : Nat → Prop} {g : Gs} {v1 : Int32} {v2 : Int32} {v3 : Int32} {fin : Int64} (hf : fX9_leaks g v1 v2 v3 = some fin) : Kt l yX9_leaks cX9_leaks 5 (some .long) 4 92 Γ A g g [.ref (ad Γ 901), .int v1, .int v2, .int v3] (some (.long fin)) :=
  kt_of (by decide) (Nat.le_of_ble_eq_true rfl) (fun p e s m args below meth c C => wX9_leaks_e C hf rfl)
noncomputable def fX9_cut (g : Gs) (v1 : Int32) (v2 : Int32) (v3 : Int32) : Option Int32 :=
  (fX8_houseAt (g 800) 800 v1).bind fun z1 => oc z1 (some ((-1))) (fun h2 => gd (isHm h2) (if v2 < 0 then some ((-1)) else if v2 ≤ 3 then (fX2_bestTakenAway (g h2) v2).bind fun z4 => if v3 = 0 then (fX2_weightKeptOut (g h2) z4).bind fun z5 => some (z5) else some (z4) else some ((-1))))
set_option maxRecDepth 100000 in
set_option maxHeartbeats 4000000 in
theorem wX9_cut_e {p : Program} {l : Launch} {e : Env} {s : State} {m : MethodId} {args : Array Value} {below : List Frame} {meth : Method} {c : Code} {Γ : Gm} {A : Nat → Prop} {g : Gs} {v1 : Int32} {v2 : Int32} {v3 : Int32} {q : Int32} {fin : Int32} (C : Cx p s m args meth c yX9_cut cX9_cut 6 (some .int) Γ A) (hf : fX9_cut g v1 v2 v3 = some q) (hq : (fun x => x = fin) q) : Wk p l e { frames := 5, cells := 0, slots := 0, locals := 116 } s m args below meth c Γ A g (some (.int fin)) 0 6 [(0, .ref (ad Γ 901)), (1, .int v1), (2, .int v2), (3, .int v3)] [] g := by
  intro H locs ls hw hS hl
  unfold fX9_cut at hf
  obtain ⟨hx, hb, hml, hr, hown, htw, hlocks, hE⟩ := id C
  have hown : s.vm.findClass RX9 = some m.cls := hown
  refine lv_aload_n hx hb dX9_cut_0 rfl (lv_at hl 0 rfl) ?_
  refine va_get (ci := 9) (v := .ref (ad Γ 800)) (C := RX9) (T := TX9) (N := 8) hx hb htw uwX9 hown hE.1 (hw _ _ (wf_901 hE)) 0 rfl rfl 0 (by decide) (htw _ mw433) (fun _ h9 => h9) rfl dX9_cut_1 ?_
  refine lv_iload_n hx hb dX9_cut_4 rfl (lv_at hl 1 rfl) ?_
  obtain ⟨z1, hz1, hf⟩ := bd hf
  refine cl_Vs (rest := []) (kgX8_houseAt (l := l) (Γ := Γ) (A := A) (G := g) (o := 800) (wf_800 hE) hz1) ⟨hx, hb, hml, hown, htw⟩ hE hw hS (hw _ _ (wf_800 hE)) (q0 := 0) rfl rfl mw629 mw630 mw631 mw119 mw632 pdX8_houseAt ⟨Nat.le_of_ble_eq_true rfl, Nat.le_of_ble_eq_true rfl⟩ rfl rfl hl.1 (Nat.le_of_ble_eq_true rfl) dX9_cut_5 (fun H locs hw hS => ?_)
  cases z1 with
  | none =>
    have hf := oc_none hf
    refine lv_astoreN (lv' := [(4, .null), (0, .ref (ad Γ 901)), (1, .int v1), (2, .int v2), (3, .int v3)]) hx hb dX9_cut_8 hl (by decide) rfl (fun ls hl => ?_)
    refine lv_aloadN hx hb dX9_cut_10 (lv_at hl 0 rfl) ?_
    refine lv_ifnullN (tgt := 24) hx hb dX9_cut_12 (by decide) ?_
    refine lv_iconst (v := (-1)) hx hb dX9_cut_24 (by decide) ?_
    obtain rfl := Option.some.inj hf
    subst hq
    exact rt_i C hw hS dX9_cut_25
  | some h2 =>
    have hf := oc_some hf
    obtain ⟨g3, hf⟩ := gd_some hf
    refine lv_astore (lv' := [(4, .ref (ad Γ h2)), (0, .ref (ad Γ 901)), (1, .int v1), (2, .int v2), (3, .int v3)]) hx hb dX9_cut_8 hl (by decide) rfl (fun ls hl => ?_)
    refine lv_aload hx hb dX9_cut_10 (lv_at hl 0 rfl) ?_
    refine lv_ifnull hx hb dX9_cut_12 ?_
    refine lv_iload_n hx hb dX9_cut_15 rfl (lv_at hl 3 rfl) ?_
    refine lv_if_lt (tgt := 24) hx hb dX9_cut_16 (by decide) (fun c8 => ?_) (fun c8 => ?_)
    · have hf := ifp c8 hf
      refine lv_iconst (v := (-1)) hx hb dX9_cut_24 (by decide) ?_
      obtain rfl := Option.some.inj hf
      subst hq
      exact rt_i C hw hS dX9_cut_25
    · have hf := ifn c8 hf
      refine lv_iload_n hx hb dX9_cut_19 rfl (lv_at hl 3 rfl) ?_
      refine lv_iconst (v := 3) hx hb dX9_cut_20 (by decide) ?_
      refine lv_icmp_le (tgt := 26) hx hb dX9_cut_21 (by decide) (fun c7 => ?_) (fun c7 => ?_)
      · have hf := ifp c7 hf
        refine lv_aload hx hb dX9_cut_26 (lv_at hl 0 rfl) ?_
        refine lv_iload_n hx hb dX9_cut_28 rfl (lv_at hl 3 rfl) ?_
        obtain ⟨z4, hz4, hf⟩ := bd hf
        refine cl_Vs (rest := []) (kgX2_bestTakenAway (l := l) (Γ := Γ) (A := A) (G := g) (o := h2) (hm_kd hE g3) hz4) ⟨hx, hb, hml, hown, htw⟩ hE hw hS (hw _ _ (hm_kd hE g3)) (q0 := 0) rfl rfl mw1188 mw1189 mw1190 mw120 mw1191 pdX2_bestTakenAway ⟨Nat.le_of_ble_eq_true rfl, Nat.le_of_ble_eq_true rfl⟩ rfl rfl hl.1 (Nat.le_of_ble_eq_true rfl) dX9_cut_29 (fun H locs hw hS => ?_)
        refine lv_istore (lv' := [(5, .int z4), (4, .ref (ad Γ h2)), (0, .ref (ad Γ 901)), (1, .int v1), (2, .int v2), (3, .int v3)]) hx hb dX9_cut_32 hl (by decide) rfl (fun ls hl => ?_)
        refine lv_iload_n hx hb dX9_cut_34 rfl (lv_at hl 5 rfl) ?_
        refine lv_if_eq (tgt := 43) hx hb dX9_cut_35 (by decide) (fun c6 => ?_) (fun c6 => ?_)
        · have hf := ifp c6 hf
          refine lv_aload hx hb dX9_cut_43 (lv_at hl 1 rfl) ?_
          refine lv_iload hx hb dX9_cut_45 (lv_at hl 0 rfl) ?_
          obtain ⟨z5, hz5, hf⟩ := bd hf
          refine cl_Vs (rest := []) (kgX2_weightKeptOut (l := l) (Γ := Γ) (A := A) (G := g) (o := h2) (hm_kd hE g3) hz5) ⟨hx, hb, hml, hown, htw⟩ hE hw hS (hw _ _ (hm_kd hE g3)) (q0 := 0) rfl rfl mw1196 mw1193 mw1194 mw120 mw1195 pdX2_weightKeptOut ⟨Nat.le_of_ble_eq_true rfl, Nat.le_of_ble_eq_true rfl⟩ rfl rfl hl.1 (Nat.le_of_ble_eq_true rfl) dX9_cut_47 (fun H locs hw hS => ?_)
          obtain rfl := Option.some.inj hf
          subst hq
          exact rt_i C hw hS dX9_cut_50
        · have hf := ifn c6 hf
          refine lv_iload hx hb dX9_cut_38 (lv_at hl 0 rfl) ?_
          refine lv_goto (tgt := 50) hx hb dX9_cut_40 (by decide) ?_
          obtain rfl := Option.some.inj hf
          subst hq
          exact rt_i C hw hS dX9_cut_50
      · have hf := ifn c7 hf
        refine lv_iconst (v := (-1)) hx hb dX9_cut_24 (by decide) ?_
        obtain rfl := Option.some.inj hf
        subst hq
        exact rt_i C hw hS dX9_cut_25

theorem kX9_cut {l : Launch} {Γ : Gm} {A : Nat → Prop} {g : Gs} {v1 : Int32} {v2 : Int32} {v3 : Int32} {fin : Int32} (hf : fX9_cut g v1 v2 v3 = some fin) : Kt l yX9_cut cX9_cut 6 (some .int) 5 116 Γ A g g [.ref (ad Γ 901), .int v1, .int v2, .int v3] (some (.int fin)) :=
  kt_of (by decide) (Nat.le_of_ble_eq_true rfl) (fun p e s m args below meth c C => wX9_cut_e C hf rfl)
noncomputable def fX9_after (g : Gs) (v1 : Int32) (v2 : Int32) (v3 : Int32) : Option (Gs × Int32) :=
  (fX8_houseAt (g 800) 800 v1).bind fun z1 => oc z1 ((fX8_rowsAt (g 800) 800 1 v2).bind fun z3 => oc z3 (some ((g, (-2)))) (fun h4 => gd (isRw h4) (some ((g, (-2)))))) (fun h2 => gd (isHm h2) ((fX8_rowsAt (g 800) 800 1 v2).bind fun z7 => oc z7 (some ((g, (-2)))) (fun h8 => gd (isRw h8) ((fX0_follow g h2 h8 (gi (g h8) 2)).bind fun z10 => if v3 = 0 then (fX0_star z10.1).bind fun z11 => some ((z10.1, z11)) else if v3 = 1 then some ((z10.1, gi (z10.1 1) 9)) else if v3 = 2 then some ((z10.1, gi (z10.1 1) 10)) else if v3 = 3 then some ((z10.1, gi (z10.1 1) 11)) else some ((z10.1, (-2)))))))
set_option maxRecDepth 100000 in
set_option maxHeartbeats 4000000 in
theorem wX9_after_e {p : Program} {l : Launch} {e : Env} {s : State} {m : MethodId} {args : Array Value} {below : List Frame} {meth : Method} {c : Code} {Γ : Gm} {A : Nat → Prop} {g : Gs} {v1 : Int32} {v2 : Int32} {v3 : Int32} {q : (Gs × Int32)} {fin : Gs × Int32} (C : Cx p s m args meth c yX9_after cX9_after 6 (some .int) Γ A) (hf : fX9_after g v1 v2 v3 = some q) (hq : (fun x => x = fin) q) : Wk p l e { frames := 5, cells := 0, slots := 0, locals := 116 } s m args below meth c Γ A fin.1 (some (.int fin.2)) 0 6 [(0, .ref (ad Γ 901)), (1, .int v1), (2, .int v2), (3, .int v3)] [] g := by
  intro H locs ls hw hS hl
  unfold fX9_after at hf
  obtain ⟨hx, hb, hml, hr, hown, htw, hlocks, hE⟩ := id C
  have hown : s.vm.findClass RX9 = some m.cls := hown
  refine lv_aload_n hx hb dX9_after_0 rfl (lv_at hl 0 rfl) ?_
  refine va_get (ci := 9) (v := .ref (ad Γ 800)) (C := RX9) (T := TX9) (N := 8) hx hb htw uwX9 hown hE.1 (hw _ _ (wf_901 hE)) 0 rfl rfl 0 (by decide) (htw _ mw433) (fun _ h9 => h9) rfl dX9_after_1 ?_
  refine lv_iload_n hx hb dX9_after_4 rfl (lv_at hl 1 rfl) ?_
  obtain ⟨z1, hz1, hf⟩ := bd hf
  refine cl_Vs (rest := []) (kgX8_houseAt (l := l) (Γ := Γ) (A := A) (G := g) (o := 800) (wf_800 hE) hz1) ⟨hx, hb, hml, hown, htw⟩ hE hw hS (hw _ _ (wf_800 hE)) (q0 := 0) rfl rfl mw629 mw630 mw631 mw119 mw632 pdX8_houseAt ⟨Nat.le_of_ble_eq_true rfl, Nat.le_of_ble_eq_true rfl⟩ rfl rfl hl.1 (Nat.le_of_ble_eq_true rfl) dX9_after_5 (fun H locs hw hS => ?_)
  cases z1 with
  | none =>
    have hf := oc_none hf
    refine lv_astoreN (lv' := [(4, .null), (0, .ref (ad Γ 901)), (1, .int v1), (2, .int v2), (3, .int v3)]) hx hb dX9_after_8 hl (by decide) rfl (fun ls hl => ?_)
    refine lv_aload_n hx hb dX9_after_10 rfl (lv_at hl 1 rfl) ?_
    refine va_get (ci := 9) (v := .ref (ad Γ 800)) (C := RX9) (T := TX9) (N := 8) hx hb htw uwX9 hown hE.1 (hw _ _ (wf_901 hE)) 0 rfl rfl 0 (by decide) (htw _ mw433) (fun _ h9 => h9) rfl dX9_after_11 ?_
    refine lv_iconst (v := 1) hx hb dX9_after_14 (by decide) ?_
    refine lv_iload_n hx hb dX9_after_15 rfl (lv_at hl 3 rfl) ?_
    obtain ⟨z3, hz3, hf⟩ := bd hf
    refine cl_Vs (rest := []) (kgX8_rowsAt (l := l) (Γ := Γ) (A := A) (G := g) (o := 800) (wf_800 hE) hz3) ⟨hx, hb, hml, hown, htw⟩ hE hw hS (hw _ _ (wf_800 hE)) (q0 := 0) rfl rfl mw658 mw659 mw660 mw119 mw661 pdX8_rowsAt ⟨Nat.le_of_ble_eq_true rfl, Nat.le_of_ble_eq_true rfl⟩ rfl rfl hl.1 (Nat.le_of_ble_eq_true rfl) dX9_after_16 (fun H locs hw hS => ?_)
    cases z3 with
    | none =>
      have hf := oc_none hf
      refine lv_astoreN (lv' := [(5, .null), (4, .null), (0, .ref (ad Γ 901)), (1, .int v1), (2, .int v2), (3, .int v3)]) hx hb dX9_after_19 hl (by decide) rfl (fun ls hl => ?_)
      refine lv_aloadN hx hb dX9_after_21 (lv_at hl 1 rfl) ?_
      refine lv_ifnullN (tgt := 31) hx hb dX9_after_23 (by decide) ?_
      refine lv_bipush (v := (-2)) hx hb dX9_after_31 (by decide) ?_
      obtain rfl := Option.some.inj hf
      subst hq
      exact rt_i C hw hS dX9_after_33
    | some h4 =>
      have hf := oc_some hf
      obtain ⟨g5, hf⟩ := gd_some hf
      refine lv_astore (lv' := [(5, .ref (ad Γ h4)), (4, .null), (0, .ref (ad Γ 901)), (1, .int v1), (2, .int v2), (3, .int v3)]) hx hb dX9_after_19 hl (by decide) rfl (fun ls hl => ?_)
      refine lv_aloadN hx hb dX9_after_21 (lv_at hl 1 rfl) ?_
      refine lv_ifnullN (tgt := 31) hx hb dX9_after_23 (by decide) ?_
      refine lv_bipush (v := (-2)) hx hb dX9_after_31 (by decide) ?_
      obtain rfl := Option.some.inj hf
      subst hq
      exact rt_i C hw hS dX9_after_33
  | some h2 =>
    have hf := oc_some hf
    obtain ⟨g6, hf⟩ := gd_some hf
    refine lv_astore (lv' := [(4, .ref (ad Γ h2)), (0, .ref (ad Γ 901)), (1, .int v1), (2, .int v2), (3, .int v3)]) hx hb dX9_after_8 hl (by decide) rfl (fun ls hl => ?_)
    refine lv_aload_n hx hb dX9_after_10 rfl (lv_at hl 1 rfl) ?_
    refine va_get (ci := 9) (v := .ref (ad Γ 800)) (C := RX9) (T := TX9) (N := 8) hx hb htw uwX9 hown hE.1 (hw _ _ (wf_901 hE)) 0 rfl rfl 0 (by decide) (htw _ mw433) (fun _ h9 => h9) rfl dX9_after_11 ?_
    refine lv_iconst (v := 1) hx hb dX9_after_14 (by decide) ?_
    refine lv_iload_n hx hb dX9_after_15 rfl (lv_at hl 3 rfl) ?_
    obtain ⟨z7, hz7, hf⟩ := bd hf
    refine cl_Vs (rest := []) (kgX8_rowsAt (l := l) (Γ := Γ) (A := A) (G := g) (o := 800) (wf_800 hE) hz7) ⟨hx, hb, hml, hown, htw⟩ hE hw hS (hw _ _ (wf_800 hE)) (q0 := 0) rfl rfl mw658 mw659 mw660 mw119 mw661 pdX8_rowsAt ⟨Nat.le_of_ble_eq_true rfl, Nat.le_of_ble_eq_true rfl⟩ rfl rfl hl.1 (Nat.le_of_ble_eq_true rfl) dX9_after_16 (fun H locs hw hS => ?_)
    cases z7 with
    | none =>
      have hf := oc_none hf
      refine lv_astoreN (lv' := [(5, .null), (4, .ref (ad Γ h2)), (0, .ref (ad Γ 901)), (1, .int v1), (2, .int v2), (3, .int v3)]) hx hb dX9_after_19 hl (by decide) rfl (fun ls hl => ?_)
      refine lv_aload hx hb dX9_after_21 (lv_at hl 1 rfl) ?_
      refine lv_ifnull hx hb dX9_after_23 ?_
      refine lv_aloadN hx hb dX9_after_26 (lv_at hl 0 rfl) ?_
      refine lv_ifnonnullN hx hb dX9_after_28 ?_
      refine lv_bipush (v := (-2)) hx hb dX9_after_31 (by decide) ?_
      obtain rfl := Option.some.inj hf
      subst hq
      exact rt_i C hw hS dX9_after_33
    | some h8 =>
      have hf := oc_some hf
      obtain ⟨g9, hf⟩ := gd_some hf
      refine lv_astore (lv' := [(5, .ref (ad Γ h8)), (4, .ref (ad Γ h2)), (0, .ref (ad Γ 901)), (1, .int v1), (2, .int v2), (3, .int v3)]) hx hb dX9_after_19 hl (by decide) rfl (fun ls hl => ?_)
      refine lv_aload hx hb dX9_after_21 (lv_at hl 1 rfl) ?_
      refine lv_ifnull hx hb dX9_after_23 ?_
      refine lv_aload hx hb dX9_after_26 (lv_at hl 0 rfl) ?_
      refine lv_ifnonnull (tgt := 34) hx hb dX9_after_28 (by decide) ?_
      refine lv_aload_n hx hb dX9_after_34 rfl (lv_at hl 2 rfl) ?_
      refine va_get (ci := 9) (v := .ref (ad Γ 1)) (C := RX9) (T := TX9) (N := 8) hx hb htw uwX9 hown hE.1 (hw _ _ (wf_901 hE)) 0 rfl rfl 3 (by decide) (htw _ mw436) (fun _ h9 => h9) rfl dX9_after_35 ?_
      refine lv_aload hx hb dX9_after_38 (lv_at hl 1 rfl) ?_
      refine lv_aload hx hb dX9_after_40 (lv_at hl 0 rfl) ?_
      refine lv_aload hx hb dX9_after_42 (lv_at hl 0 rfl) ?_
      refine va_get (ci := 5) (v := .int (gi (g h8) 2)) (C := RX5) (T := TX5) (N := 3) hx hb htw uwX5 hown hE.1 (hw _ _ (rw_kd hE g9)) 0 rfl rfl 2 (by decide) (htw _ mw233) (fun _ h9 => h9) rfl dX9_after_44 ?_
      obtain ⟨z10, hz10, hf⟩ := bd hf
      refine cl_Vs (rest := []) (kX0_follow (l := l) (Γ := Γ) (A := A) (hm_kd hE g6) (rw_kd hE g9) hz10) ⟨hx, hb, hml, hown, htw⟩ hE hw hS (hw _ _ (wf_1 hE)) (q0 := 0) rfl rfl mw739 mw740 mw741 mw124 mw742 pdX0_follow ⟨Nat.le_of_ble_eq_true rfl, Nat.le_of_ble_eq_true rfl⟩ rfl rfl hl.1 (Nat.le_of_ble_eq_true rfl) dX9_after_47 (fun H locs hw hS => ?_)
      refine lv_pop hx hb dX9_after_50 rfl ?_
      refine lv_iload_n hx hb dX9_after_51 rfl (lv_at hl 5 rfl) ?_
      by_cases c12 : v3 = 0
      · have hf := ifp c12 hf
        rw [c12]
        refine lv_tableIn (off := 32) (tgt := 84) hx hb dX9_after_52 (by decide) (by decide) (by rfl) (by decide) ?_
        refine lv_aload_n hx hb dX9_after_84 rfl (lv_at hl 2 rfl) ?_
        refine va_get (ci := 9) (v := .ref (ad Γ 1)) (C := RX9) (T := TX9) (N := 8) hx hb htw uwX9 hown hE.1 (hw _ _ (wf_901 hE)) 0 rfl rfl 3 (by decide) (htw _ mw436) (fun _ h9 => h9) rfl dX9_after_85 ?_
        obtain ⟨z11, hz11, hf⟩ := bd hf
        refine cl_Vs (rest := []) (kX0_star (l := l) (Γ := Γ) (A := A) hz11) ⟨hx, hb, hml, hown, htw⟩ hE hw hS (hw _ _ (wf_1 hE)) (q0 := 0) rfl rfl mw1201 mw1202 mw1203 mw124 mw1204 pdX0_star ⟨Nat.le_of_ble_eq_true rfl, Nat.le_of_ble_eq_true rfl⟩ rfl rfl hl.1 (Nat.le_of_ble_eq_true rfl) dX9_after_88 (fun H locs hw hS => ?_)
        obtain rfl := Option.some.inj hf
        subst hq
        exact rt_i C hw hS dX9_after_91
      have hf := ifn c12 hf
      by_cases c13 : v3 = 1
      · have hf := ifp c13 hf
        rw [c13]
        refine lv_tableIn (off := 40) (tgt := 92) hx hb dX9_after_52 (by decide) (by decide) (by rfl) (by decide) ?_
        refine lv_aload_n hx hb dX9_after_92 rfl (lv_at hl 2 rfl) ?_
        refine va_get (ci := 9) (v := .ref (ad Γ 1)) (C := RX9) (T := TX9) (N := 8) hx hb htw uwX9 hown hE.1 (hw _ _ (wf_901 hE)) 0 rfl rfl 3 (by decide) (htw _ mw436) (fun _ h9 => h9) rfl dX9_after_93 ?_
        refine va_get (ci := 0) (v := .int (gi (z10.1 1) 9)) (C := RX0) (T := TX0) (N := 12) hx hb htw uwX0 hown hE.1 (hw _ _ (wf_1 hE)) 0 rfl rfl 9 (by decide) (htw _ mw346) (fun _ h9 => h9) rfl dX9_after_96 ?_
        obtain rfl := Option.some.inj hf
        subst hq
        exact rt_i C hw hS dX9_after_99
      have hf := ifn c13 hf
      by_cases c14 : v3 = 2
      · have hf := ifp c14 hf
        rw [c14]
        refine lv_tableIn (off := 48) (tgt := 100) hx hb dX9_after_52 (by decide) (by decide) (by rfl) (by decide) ?_
        refine lv_aload_n hx hb dX9_after_100 rfl (lv_at hl 2 rfl) ?_
        refine va_get (ci := 9) (v := .ref (ad Γ 1)) (C := RX9) (T := TX9) (N := 8) hx hb htw uwX9 hown hE.1 (hw _ _ (wf_901 hE)) 0 rfl rfl 3 (by decide) (htw _ mw436) (fun _ h9 => h9) rfl dX9_after_101 ?_
        refine va_get (ci := 0) (v := .int (gi (z10.1 1) 10)) (C := RX0) (T := TX0) (N := 12) hx hb htw uwX0 hown hE.1 (hw _ _ (wf_1 hE)) 0 rfl rfl 10 (by decide) (htw _ mw348) (fun _ h9 => h9) rfl dX9_after_104 ?_
        obtain rfl := Option.some.inj hf
        subst hq
        exact rt_i C hw hS dX9_after_107
      have hf := ifn c14 hf
      by_cases c15 : v3 = 3
      · have hf := ifp c15 hf
        rw [c15]
        refine lv_tableIn (off := 56) (tgt := 108) hx hb dX9_after_52 (by decide) (by decide) (by rfl) (by decide) ?_
        refine lv_aload_n hx hb dX9_after_108 rfl (lv_at hl 2 rfl) ?_
        refine va_get (ci := 9) (v := .ref (ad Γ 1)) (C := RX9) (T := TX9) (N := 8) hx hb htw uwX9 hown hE.1 (hw _ _ (wf_901 hE)) 0 rfl rfl 3 (by decide) (htw _ mw436) (fun _ h9 => h9) rfl dX9_after_109 ?_
        refine va_get (ci := 0) (v := .int (gi (z10.1 1) 11)) (C := RX0) (T := TX0) (N := 12) hx hb htw uwX0 hown hE.1 (hw _ _ (wf_1 hE)) 0 rfl rfl 11 (by decide) (htw _ mw350) (fun _ h9 => h9) rfl dX9_after_112 ?_
        obtain rfl := Option.some.inj hf
        subst hq
        exact rt_i C hw hS dX9_after_115
      have hf := ifn c15 hf
      refine lv_tableOut (tgt := 116) hx hb dX9_after_52 (by have := And.intro (ts_ne (k := 0) (by decide) c12) (And.intro (ts_ne (k := 1) (by decide) c13) (And.intro (ts_ne (k := 2) (by decide) c14) (And.intro (ts_ne (k := 3) (by decide) c15) (True.intro)))); omega) (by decide) ?_
      refine lv_bipush (v := (-2)) hx hb dX9_after_116 (by decide) ?_
      obtain rfl := Option.some.inj hf
      subst hq
      exact rt_i C hw hS dX9_after_118

theorem kX9_after {l : Launch} {Γ : Gm} {A : Nat → Prop} {g : Gs} {v1 : Int32} {v2 : Int32} {v3 : Int32} {fin : Gs × Int32} (hf : fX9_after g v1 v2 v3 = some fin) : Kt l yX9_after cX9_after 6 (some .int) 5 116 Γ A g fin.1 [.ref (ad Γ 901), .int v1, .int v2, .int v3] (some (.int fin.2)) :=
  kt_of (by decide) (Nat.le_of_ble_eq_true rfl) (fun p e s m args below meth c C => wX9_after_e C hf rfl)
noncomputable def fX9_would (g : Gs) (v1 : Int32) (v2 : Int32) (v3 : Int32) (v4 : Int32) : Option (Gs × Int32) :=
  (fX8_houseAt (g 800) 800 v1).bind fun z1 => oc z1 ((fX8_rowsAt (g 800) 800 3 v2).bind fun z3 => oc z3 (some ((g, (-1)))) (fun h4 => gd (isRw h4) (some ((g, (-1)))))) (fun h2 => gd (isHm h2) ((fX8_rowsAt (g 800) 800 3 v2).bind fun z7 => oc z7 (some ((g, (-1)))) (fun h8 => gd (isRw h8) ((fX2_hasPieces g h2 h8 1).bind fun z10 => if z10 = 0 then some ((g, (-1))) else (fX2_hasPiece (g h2) v4).bind fun z11 => if z11 = 0 then some ((g, (-1))) else (fX1_gather g h2 h8).bind fun z12 => (fX1_hasFit z12 v3).bind fun z13 => if z13 = 0 then some ((z12, (-1))) else gd (inR v3 120) ((fX2_hoursTold (z12 h2) (ga (z12 101) 0 (Int32.toNatClampNeg v3)) v4).bind fun z15 => some ((z12, z15)))))))
set_option maxRecDepth 100000 in
set_option maxHeartbeats 4000000 in
theorem wX9_would_e {p : Program} {l : Launch} {e : Env} {s : State} {m : MethodId} {args : Array Value} {below : List Frame} {meth : Method} {c : Code} {Γ : Gm} {A : Nat → Prop} {g : Gs} {v1 : Int32} {v2 : Int32} {v3 : Int32} {v4 : Int32} {q : (Gs × Int32)} {fin : Gs × Int32} (C : Cx p s m args meth c yX9_would cX9_would 7 (some .int) Γ A) (hf : fX9_would g v1 v2 v3 v4 = some q) (hq : (fun x => x = fin) q) : Wk p l e { frames := 5, cells := 0, slots := 0, locals := 110 } s m args below meth c Γ A fin.1 (some (.int fin.2)) 0 7 [(0, .ref (ad Γ 901)), (1, .int v1), (2, .int v2), (3, .int v3), (4, .int v4)] [] g := by
  intro H locs ls hw hS hl
  unfold fX9_would at hf
  obtain ⟨hx, hb, hml, hr, hown, htw, hlocks, hE⟩ := id C
  have hown : s.vm.findClass RX9 = some m.cls := hown
  refine lv_aload_n hx hb dX9_would_0 rfl (lv_at hl 0 rfl) ?_
  refine va_get (ci := 9) (v := .ref (ad Γ 800)) (C := RX9) (T := TX9) (N := 8) hx hb htw uwX9 hown hE.1 (hw _ _ (wf_901 hE)) 0 rfl rfl 0 (by decide) (htw _ mw433) (fun _ h9 => h9) rfl dX9_would_1 ?_
  refine lv_iload_n hx hb dX9_would_4 rfl (lv_at hl 1 rfl) ?_
  obtain ⟨z1, hz1, hf⟩ := bd hf
  refine cl_Vs (rest := []) (kgX8_houseAt (l := l) (Γ := Γ) (A := A) (G := g) (o := 800) (wf_800 hE) hz1) ⟨hx, hb, hml, hown, htw⟩ hE hw hS (hw _ _ (wf_800 hE)) (q0 := 0) rfl rfl mw629 mw630 mw631 mw119 mw632 pdX8_houseAt ⟨Nat.le_of_ble_eq_true rfl, Nat.le_of_ble_eq_true rfl⟩ rfl rfl hl.1 (Nat.le_of_ble_eq_true rfl) dX9_would_5 (fun H locs hw hS => ?_)
  cases z1 with
  | none =>
    have hf := oc_none hf
    refine lv_astoreN (lv' := [(5, .null), (0, .ref (ad Γ 901)), (1, .int v1), (2, .int v2), (3, .int v3), (4, .int v4)]) hx hb dX9_would_8 hl (by decide) rfl (fun ls hl => ?_)
    refine lv_aload_n hx hb dX9_would_10 rfl (lv_at hl 1 rfl) ?_
    refine va_get (ci := 9) (v := .ref (ad Γ 800)) (C := RX9) (T := TX9) (N := 8) hx hb htw uwX9 hown hE.1 (hw _ _ (wf_901 hE)) 0 rfl rfl 0 (by decide) (htw _ mw433) (fun _ h9 => h9) rfl dX9_would_11 ?_
    refine lv_iconst (v := 3) hx hb dX9_would_14 (by decide) ?_
    refine lv_iload_n hx hb dX9_would_15 rfl (lv_at hl 3 rfl) ?_
    obtain ⟨z3, hz3, hf⟩ := bd hf
    refine cl_Vs (rest := []) (kgX8_rowsAt (l := l) (Γ := Γ) (A := A) (G := g) (o := 800) (wf_800 hE) hz3) ⟨hx, hb, hml, hown, htw⟩ hE hw hS (hw _ _ (wf_800 hE)) (q0 := 0) rfl rfl mw658 mw659 mw660 mw119 mw661 pdX8_rowsAt ⟨Nat.le_of_ble_eq_true rfl, Nat.le_of_ble_eq_true rfl⟩ rfl rfl hl.1 (Nat.le_of_ble_eq_true rfl) dX9_would_16 (fun H locs hw hS => ?_)
    cases z3 with
    | none =>
      have hf := oc_none hf
      refine lv_astoreN (lv' := [(6, .null), (5, .null), (0, .ref (ad Γ 901)), (1, .int v1), (2, .int v2), (3, .int v3), (4, .int v4)]) hx hb dX9_would_19 hl (by decide) rfl (fun ls hl => ?_)
      refine lv_aloadN hx hb dX9_would_21 (lv_at hl 1 rfl) ?_
      refine lv_ifnullN (tgt := 52) hx hb dX9_would_23 (by decide) ?_
      refine lv_iconst (v := (-1)) hx hb dX9_would_52 (by decide) ?_
      obtain rfl := Option.some.inj hf
      subst hq
      exact rt_i C hw hS dX9_would_53
    | some h4 =>
      have hf := oc_some hf
      obtain ⟨g5, hf⟩ := gd_some hf
      refine lv_astore (lv' := [(6, .ref (ad Γ h4)), (5, .null), (0, .ref (ad Γ 901)), (1, .int v1), (2, .int v2), (3, .int v3), (4, .int v4)]) hx hb dX9_would_19 hl (by decide) rfl (fun ls hl => ?_)
      refine lv_aloadN hx hb dX9_would_21 (lv_at hl 1 rfl) ?_
      refine lv_ifnullN (tgt := 52) hx hb dX9_would_23 (by decide) ?_
      refine lv_iconst (v := (-1)) hx hb dX9_would_52 (by decide) ?_
      obtain rfl := Option.some.inj hf
      subst hq
      exact rt_i C hw hS dX9_would_53
  | some h2 =>
    have hf := oc_some hf
    obtain ⟨g6, hf⟩ := gd_some hf
    refine lv_astore (lv' := [(5, .ref (ad Γ h2)), (0, .ref (ad Γ 901)), (1, .int v1), (2, .int v2), (3, .int v3), (4, .int v4)]) hx hb dX9_would_8 hl (by decide) rfl (fun ls hl => ?_)
    refine lv_aload_n hx hb dX9_would_10 rfl (lv_at hl 1 rfl) ?_
    refine va_get (ci := 9) (v := .ref (ad Γ 800)) (C := RX9) (T := TX9) (N := 8) hx hb htw uwX9 hown hE.1 (hw _ _ (wf_901 hE)) 0 rfl rfl 0 (by decide) (htw _ mw433) (fun _ h9 => h9) rfl dX9_would_11 ?_
    refine lv_iconst (v := 3) hx hb dX9_would_14 (by decide) ?_
    refine lv_iload_n hx hb dX9_would_15 rfl (lv_at hl 3 rfl) ?_
    obtain ⟨z7, hz7, hf⟩ := bd hf
    refine cl_Vs (rest := []) (kgX8_rowsAt (l := l) (Γ := Γ) (A := A) (G := g) (o := 800) (wf_800 hE) hz7) ⟨hx, hb, hml, hown, htw⟩ hE hw hS (hw _ _ (wf_800 hE)) (q0 := 0) rfl rfl mw658 mw659 mw660 mw119 mw661 pdX8_rowsAt ⟨Nat.le_of_ble_eq_true rfl, Nat.le_of_ble_eq_true rfl⟩ rfl rfl hl.1 (Nat.le_of_ble_eq_true rfl) dX9_would_16 (fun H locs hw hS => ?_)
    cases z7 with
    | none =>
      have hf := oc_none hf
      refine lv_astoreN (lv' := [(6, .null), (5, .ref (ad Γ h2)), (0, .ref (ad Γ 901)), (1, .int v1), (2, .int v2), (3, .int v3), (4, .int v4)]) hx hb dX9_would_19 hl (by decide) rfl (fun ls hl => ?_)
      refine lv_aload hx hb dX9_would_21 (lv_at hl 1 rfl) ?_
      refine lv_ifnull hx hb dX9_would_23 ?_
      refine lv_aloadN hx hb dX9_would_26 (lv_at hl 0 rfl) ?_
      refine lv_ifnullN (tgt := 52) hx hb dX9_would_28 (by decide) ?_
      refine lv_iconst (v := (-1)) hx hb dX9_would_52 (by decide) ?_
      obtain rfl := Option.some.inj hf
      subst hq
      exact rt_i C hw hS dX9_would_53
    | some h8 =>
      have hf := oc_some hf
      obtain ⟨g9, hf⟩ := gd_some hf
      refine lv_astore (lv' := [(6, .ref (ad Γ h8)), (5, .ref (ad Γ h2)), (0, .ref (ad Γ 901)), (1, .int v1), (2, .int v2), (3, .int v3), (4, .int v4)]) hx hb dX9_would_19 hl (by decide) rfl (fun ls hl => ?_)
      refine lv_aload hx hb dX9_would_21 (lv_at hl 1 rfl) ?_
      refine lv_ifnull hx hb dX9_would_23 ?_
      refine lv_aload hx hb dX9_would_26 (lv_at hl 0 rfl) ?_
      refine lv_ifnull hx hb dX9_would_28 ?_
      refine lv_aload hx hb dX9_would_31 (lv_at hl 1 rfl) ?_
      refine lv_aload hx hb dX9_would_33 (lv_at hl 0 rfl) ?_
      refine lv_iconst (v := 1) hx hb dX9_would_35 (by decide) ?_
      obtain ⟨z10, hz10, hf⟩ := bd hf
      refine cl_Vs (rest := []) (kX2_hasPieces (l := l) (Γ := Γ) (A := A) (hm_kd hE g6) (rw_kd hE g9) hz10) ⟨hx, hb, hml, hown, htw⟩ hE hw hS (hw _ _ (hm_kd hE g6)) (q0 := 0) rfl rfl mw831 mw832 mw833 mw120 mw834 pdX2_hasPieces ⟨Nat.le_of_ble_eq_true rfl, Nat.le_of_ble_eq_true rfl⟩ rfl rfl hl.1 (Nat.le_of_ble_eq_true rfl) dX9_would_36 (fun H locs hw hS => ?_)
      refine lv_if_eq (tgt := 52) hx hb dX9_would_39 (by decide) (fun c18 => ?_) (fun c18 => ?_)
      · have hf := ifp c18 hf
        refine lv_iconst (v := (-1)) hx hb dX9_would_52 (by decide) ?_
        obtain rfl := Option.some.inj hf
        subst hq
        exact rt_i C hw hS dX9_would_53
      · have hf := ifn c18 hf
        refine lv_aload hx hb dX9_would_42 (lv_at hl 1 rfl) ?_
        refine lv_iload hx hb dX9_would_44 (lv_at hl 6 rfl) ?_
        obtain ⟨z11, hz11, hf⟩ := bd hf
        refine cl_Vs (rest := []) (kgX2_hasPiece (l := l) (Γ := Γ) (A := A) (G := g) (o := h2) (hm_kd hE g6) hz11) ⟨hx, hb, hml, hown, htw⟩ hE hw hS (hw _ _ (hm_kd hE g6)) (q0 := 0) rfl rfl mw707 mw683 mw684 mw120 mw685 pdX2_hasPiece ⟨Nat.le_of_ble_eq_true rfl, Nat.le_of_ble_eq_true rfl⟩ rfl rfl hl.1 (Nat.le_of_ble_eq_true rfl) dX9_would_46 (fun H locs hw hS => ?_)
        refine lv_if_ne (tgt := 54) hx hb dX9_would_49 (by decide) (fun c17 => ?_) (fun c17 => ?_)
        · have hf := ifn c17 hf
          refine lv_aload_n hx hb dX9_would_54 rfl (lv_at hl 2 rfl) ?_
          refine va_get (ci := 9) (v := .ref (ad Γ 101)) (C := RX9) (T := TX9) (N := 8) hx hb htw uwX9 hown hE.1 (hw _ _ (wf_901 hE)) 0 rfl rfl 6 (by decide) (htw _ mw439) (fun _ h9 => h9) rfl dX9_would_55 ?_
          refine lv_aload hx hb dX9_would_58 (lv_at hl 1 rfl) ?_
          refine lv_aload hx hb dX9_would_60 (lv_at hl 0 rfl) ?_
          obtain ⟨z12, hz12, hf⟩ := bd hf
          refine cl_Vv (rest := []) (kX1_gather (l := l) (Γ := Γ) (A := A) (hm_kd hE g6) (rw_kd hE g9) hz12) ⟨hx, hb, hml, hown, htw⟩ hE hw hS (hw _ _ (wf_101 hE)) (q0 := 0) rfl rfl mw1005 mw1006 mw1007 mw127 mw1008 pdX1_gather ⟨Nat.le_of_ble_eq_true rfl, Nat.le_of_ble_eq_true rfl⟩ rfl rfl hl.1 (Nat.le_of_ble_eq_true rfl) dX9_would_62 (fun H locs hw hS => ?_)
          refine lv_aload_n hx hb dX9_would_65 rfl (lv_at hl 2 rfl) ?_
          refine va_get (ci := 9) (v := .ref (ad Γ 101)) (C := RX9) (T := TX9) (N := 8) hx hb htw uwX9 hown hE.1 (hw _ _ (wf_901 hE)) 0 rfl rfl 6 (by decide) (htw _ mw439) (fun _ h9 => h9) rfl dX9_would_66 ?_
          refine lv_iload_n hx hb dX9_would_69 rfl (lv_at hl 5 rfl) ?_
          obtain ⟨z13, hz13, hf⟩ := bd hf
          refine cl_Vs (rest := []) (kX1_hasFit (l := l) (Γ := Γ) (A := A) hz13) ⟨hx, hb, hml, hown, htw⟩ hE hw hS (hw _ _ (wf_101 hE)) (q0 := 0) rfl rfl mw1051 mw1052 mw1053 mw127 mw1054 pdX1_hasFit ⟨Nat.le_of_ble_eq_true rfl, Nat.le_of_ble_eq_true rfl⟩ rfl rfl hl.1 (Nat.le_of_ble_eq_true rfl) dX9_would_70 (fun H locs hw hS => ?_)
          refine lv_if_eq (tgt := 95) hx hb dX9_would_73 (by decide) (fun c16 => ?_) (fun c16 => ?_)
          · have hf := ifp c16 hf
            refine lv_iconst (v := (-1)) hx hb dX9_would_95 (by decide) ?_
            obtain rfl := Option.some.inj hf
            subst hq
            exact rt_i C hw hS dX9_would_96
          · have hf := ifn c16 hf
            refine lv_aload hx hb dX9_would_76 (lv_at hl 1 rfl) ?_
            refine lv_aload_n hx hb dX9_would_78 rfl (lv_at hl 2 rfl) ?_
            refine va_get (ci := 9) (v := .ref (ad Γ 101)) (C := RX9) (T := TX9) (N := 8) hx hb htw uwX9 hown hE.1 (hw _ _ (wf_901 hE)) 0 rfl rfl 6 (by decide) (htw _ mw439) (fun _ h9 => h9) rfl dX9_would_79 ?_
            refine va_get (ci := 1) (v := .ref (aa Γ 101 0)) (C := RX1) (T := TX1) (N := 3) hx hb htw uwX1 hown hE.1 (hw _ _ (wf_101 hE)) 0 rfl rfl 0 (by decide) (htw _ mw412) (fun _ h9 => h9) rfl dX9_would_82 ?_
            refine lv_iload_n hx hb dX9_would_85 rfl (lv_at hl 5 rfl) ?_
            obtain ⟨g14, hf⟩ := gd_some hf
            refine va_iald hx hb hE.1 (hw _ _ (wf_101 hE)) 1 0 rfl rfl (inR_in g14) dX9_would_86 ?_
            refine lv_iload hx hb dX9_would_87 (lv_at hl 6 rfl) ?_
            obtain ⟨z15, hz15, hf⟩ := bd hf
            refine cl_Vs (rest := []) (kgX2_hoursTold (l := l) (Γ := Γ) (A := A) (G := z12) (o := h2) (hm_kd hE g6) hz15) ⟨hx, hb, hml, hown, htw⟩ hE hw hS (hw _ _ (hm_kd hE g6)) (q0 := 0) rfl rfl mw1209 mw1014 mw1015 mw120 mw1016 pdX2_hoursTold ⟨Nat.le_of_ble_eq_true rfl, Nat.le_of_ble_eq_true rfl⟩ rfl rfl hl.1 (Nat.le_of_ble_eq_true rfl) dX9_would_89 (fun H locs hw hS => ?_)
            refine lv_goto (tgt := 96) hx hb dX9_would_92 (by decide) ?_
            obtain rfl := Option.some.inj hf
            subst hq
            exact rt_i C hw hS dX9_would_96
        · have hf := ifp c17 hf
          refine lv_iconst (v := (-1)) hx hb dX9_would_52 (by decide) ?_
          obtain rfl := Option.some.inj hf
          subst hq
          exact rt_i C hw hS dX9_would_53

theorem kX9_would {l : Launch} {Γ : Gm} {A : Nat → Prop} {g : Gs} {v1 : Int32} {v2 : Int32} {v3 : Int32} {v4 : Int32} {fin : Gs × Int32} (hf : fX9_would g v1 v2 v3 v4 = some fin) : Kt l yX9_would cX9_would 7 (some .int) 5 110 Γ A g fin.1 [.ref (ad Γ 901), .int v1, .int v2, .int v3, .int v4] (some (.int fin.2)) :=
  kt_of (by decide) (Nat.le_of_ble_eq_true rfl) (fun p e s m args below meth c C => wX9_would_e C hf rfl)
noncomputable def bX9_count_9 (g : Gs) : Option Int32 :=
  some ((-2))
set_option maxRecDepth 100000 in
set_option maxHeartbeats 4000000 in
theorem wX9_count_9 {p : Program} {l : Launch} {e : Env} {s : State} {m : MethodId} {args : Array Value} {below : List Frame} {meth : Method} {c : Code} {Γ : Gm} {A : Nat → Prop} {g : Gs} {q : Int32} {fin : Int32} (C : Cx p s m args meth c yX9_count cX9_count 2 (some .int) Γ A) (hf : bX9_count_9 g = some q) (hq : (fun x => x = fin) q) : Wk p l e { frames := 0, cells := 0, slots := 0, locals := 0 } s m args below meth c Γ A g (some (.int fin)) 9 2 [] [] g := by
  intro H locs ls hw hS hl
  unfold bX9_count_9 at hf
  obtain ⟨hx, hb, hml, hr, hown, htw, hlocks, hE⟩ := id C
  have hown : s.vm.findClass RX9 = some m.cls := hown
  refine lv_bipush (v := (-2)) hx hb dX9_count_9 (by decide) ?_
  refine lv_goto (tgt := 23) hx hb dX9_count_11 (by decide) ?_
  obtain rfl := Option.some.inj hf
  subst hq
  exact rt_i C hw hS dX9_count_23

noncomputable def fX9_count (g : Gs) (v1 : Int32) : Option Int32 :=
  if v1 < 0 then bX9_count_9 g else if v1 < 4 then gd (inR v1 4) (some (ga (g 800) 4 (Int32.toNatClampNeg v1))) else bX9_count_9 g
set_option maxRecDepth 100000 in
set_option maxHeartbeats 4000000 in
theorem wX9_count_e {p : Program} {l : Launch} {e : Env} {s : State} {m : MethodId} {args : Array Value} {below : List Frame} {meth : Method} {c : Code} {Γ : Gm} {A : Nat → Prop} {g : Gs} {v1 : Int32} {q : Int32} {fin : Int32} (C : Cx p s m args meth c yX9_count cX9_count 2 (some .int) Γ A) (hf : fX9_count g v1 = some q) (hq : (fun x => x = fin) q) : Wk p l e { frames := 0, cells := 0, slots := 0, locals := 0 } s m args below meth c Γ A g (some (.int fin)) 0 2 [(0, .ref (ad Γ 901)), (1, .int v1)] [] g := by
  intro H locs ls hw hS hl
  unfold fX9_count at hf
  obtain ⟨hx, hb, hml, hr, hown, htw, hlocks, hE⟩ := id C
  have hown : s.vm.findClass RX9 = some m.cls := hown
  refine lv_iload_n hx hb dX9_count_0 rfl (lv_at hl 1 rfl) ?_
  refine lv_if_lt (tgt := 9) hx hb dX9_count_1 (by decide) (fun c3 => ?_) (fun c3 => ?_)
  · have hf := ifp c3 hf
    exact wX9_count_9 C hf hq H locs ls hw hS (lv_sub hl [] rfl)
  · have hf := ifn c3 hf
    refine lv_iload_n hx hb dX9_count_4 rfl (lv_at hl 1 rfl) ?_
    refine lv_iconst (v := 4) hx hb dX9_count_5 (by decide) ?_
    refine lv_icmp_lt (tgt := 14) hx hb dX9_count_6 (by decide) (fun c2 => ?_) (fun c2 => ?_)
    · have hf := ifp c2 hf
      refine lv_aload_n hx hb dX9_count_14 rfl (lv_at hl 0 rfl) ?_
      refine va_get (ci := 9) (v := .ref (ad Γ 800)) (C := RX9) (T := TX9) (N := 8) hx hb htw uwX9 hown hE.1 (hw _ _ (wf_901 hE)) 0 rfl rfl 0 (by decide) (htw _ mw433) (fun _ h9 => h9) rfl dX9_count_15 ?_
      refine va_get (ci := 8) (v := .ref (aa Γ 800 4)) (C := RX8) (T := TX8) (N := 9) hx hb htw uwX8 hown hE.1 (hw _ _ (wf_800 hE)) 0 rfl rfl 4 (by decide) (htw _ mw252) (fun _ h9 => h9) rfl dX9_count_18 ?_
      refine lv_iload_n hx hb dX9_count_21 rfl (lv_at hl 1 rfl) ?_
      obtain ⟨g1, hf⟩ := gd_some hf
      refine va_iald hx hb hE.1 (hw _ _ (wf_800 hE)) 2 0 rfl rfl (inR_in g1) dX9_count_22 ?_
      obtain rfl := Option.some.inj hf
      subst hq
      exact rt_i C hw hS dX9_count_23
    · have hf := ifn c2 hf
      exact wX9_count_9 C hf hq H locs ls hw hS (lv_sub hl [] rfl)

theorem kX9_count {l : Launch} {Γ : Gm} {A : Nat → Prop} {g : Gs} {v1 : Int32} {fin : Int32} (hf : fX9_count g v1 = some fin) : Kt l yX9_count cX9_count 2 (some .int) 0 0 Γ A g g [.ref (ad Γ 901), .int v1] (some (.int fin)) :=
  kt_of (by decide) (Nat.le_of_ble_eq_true rfl) (fun p e s m args below meth c C => wX9_count_e C hf rfl)
