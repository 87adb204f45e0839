noncomputable def fX9_would (g : Gs) (v1 : Int32) (v2 : Int32) (v3 : Int32) (v4 : Int32) : Option (Gs × Int32) :=
  (fX8_houseAt (g 800) 800 v1).bind fun z1 => oc z1 ((fX8_rowsAt (g 800) 800 3 v2).bind fun z3 => oc z3 (some ((g, (-1)))) (fun h4 => gd (isRw h4) (some ((g, (-1)))))) (fun h2 => gd (isHm h2) ((fX8_rowsAt (g 800) 800 3 v2).bind fun z7 => oc z7 (some ((g, (-1)))) (fun h8 => gd (isRw h8) ((fX2_hasPieces g h2 h8 1).bind fun z10 => if z10 = 0 then some ((g, (-1))) else (fX2_hasPiece (g h2) v4).bind fun z11 => if z11 = 0 then some ((g, (-1))) else (fX1_gather g h2 h8).bind fun z12 => (fX1_hasFit z12 v3).bind fun z13 => if z13 = 0 then some ((z12, (-1))) else gd (inR v3 120) ((fX2_hoursTold (z12 h2) (ga (z12 101) 0 (Int32.toNatClampNeg v3)) v4).bind fun z15 => some ((z12, z15)))))))
set_option maxRecDepth 100000 in
set_option maxHeartbeats 4000000 in
theorem wX9_would_e {p : Program} {l : Launch} {e : Env} {s : State} {m : MethodId} {args : Array Value} {below : List Frame} {meth : Method} {c : Code} {Γ : Gm} {A : Nat → Prop} {g : Gs} {v1 : Int32} {v2 : Int32} {v3 : Int32} {v4 : Int32} {q : (Gs × Int32)} {fin : Gs × Int32} (C : Cx p s m args meth c yX9_would cX9_would 7 (some .int) Γ A) (hf : fX9_would g v1 v2 v3 v4 = some q) (hq : (fun x => x = fin) q) : Wk p l e { frames := 5, cells := 0, slots := 0, locals := 110 } s m args below meth c Γ A fin.1 (some (.int fin.2)) 0 7 [(0, .ref (ad Γ 901)), (1, .int v1), (2, .int v2), (3, .int v3), (4, .int v4)] [] g := by
  intro H locs ls hw hS hl
  unfold fX9_would at hf
  obtain ⟨hx, hb, hml, hr, hown, htw, hlocks, hE⟩ := id C
  have hown : s.vm.findClass RX9 = some m.cls := hown
  refine lv_aload_n hx hb dX9_would_0 rfl (lv_at hl 0 rfl) ?_
  refine va_get (ci := 9) (v := .ref (ad Γ 800)) (C := RX9) (T := TX9) (N := 8) hx hb htw uwX9 hown hE.1 (hw _ _ (wf_901 hE)) 0 rfl rfl 0 (by decide) (htw _ mw434) (fun _ h9 => h9) rfl dX9_would_1 ?_
  refine lv_iload_n hx hb dX9_would_4 rfl (lv_at hl 1 rfl) ?_
  obtain ⟨z1, hz1, hf⟩ := bd hf
  refine cl_Vs (rest := []) (kgX8_houseAt (l := l) (Γ := Γ) (A := A) (G := g) (o := 800) (wf_800 hE) hz1) ⟨hx, hb, hml, hown, htw⟩ hE hw hS (hw _ _ (wf_800 hE)) (q0 := 0) rfl rfl mw630 mw631 mw632 mw120 mw633 pdX8_houseAt ⟨Nat.le_of_ble_eq_true rfl, Nat.le_of_ble_eq_true rfl⟩ rfl rfl hl.1 (Nat.le_of_ble_eq_true rfl) dX9_would_5 (fun H locs hw hS => ?_)
  cases z1 with
  | none =>
    have hf := oc_none hf
    refine lv_astoreN (lv' := [(5, .null), (0, .ref (ad Γ 901)), (1, .int v1), (2, .int v2), (3, .int v3), (4, .int v4)]) hx hb dX9_would_8 hl (by decide) rfl (fun ls hl => ?_)
    refine lv_aload_n hx hb dX9_would_10 rfl (lv_at hl 1 rfl) ?_
    refine va_get (ci := 9) (v := .ref (ad Γ 800)) (C := RX9) (T := TX9) (N := 8) hx hb htw uwX9 hown hE.1 (hw _ _ (wf_901 hE)) 0 rfl rfl 0 (by decide) (htw _ mw434) (fun _ h9 => h9) rfl dX9_would_11 ?_
    refine lv_iconst (v := 3) hx hb dX9_would_14 (by decide) ?_
    refine lv_iload_n hx hb dX9_would_15 rfl (lv_at hl 3 rfl) ?_
    obtain ⟨z3, hz3, hf⟩ := bd hf
    refine cl_Vs (rest := []) (kgX8_rowsAt (l := l) (Γ := Γ) (A := A) (G := g) (o := 800) (wf_800 hE) hz3) ⟨hx, hb, hml, hown, htw⟩ hE hw hS (hw _ _ (wf_800 hE)) (q0 := 0) rfl rfl mw659 mw660 mw661 mw120 mw662 pdX8_rowsAt ⟨Nat.le_of_ble_eq_true rfl, Nat.le_of_ble_eq_true rfl⟩ rfl rfl hl.1 (Nat.le_of_ble_eq_true rfl) dX9_would_16 (fun H locs hw hS => ?_)
    cases z3 with
    | none =>
      have hf := oc_none hf
      refine lv_astoreN (lv' := [(6, .null), (5, .null), (0, .ref (ad Γ 901)), (1, .int v1), (2, .int v2), (3, .int v3), (4, .int v4)]) hx hb dX9_would_19 hl (by decide) rfl (fun ls hl => ?_)
      refine lv_aloadN hx hb dX9_would_21 (lv_at hl 1 rfl) ?_
      refine lv_ifnullN (tgt := 52) hx hb dX9_would_23 (by decide) ?_
      refine lv_iconst (v := (-1)) hx hb dX9_would_52 (by decide) ?_
      obtain rfl := Option.some.inj hf
      subst hq
      exact rt_i C hw hS dX9_would_53
    | some h4 =>
      have hf := oc_some hf
      obtain ⟨g5, hf⟩ := gd_some hf
      refine lv_astore (lv' := [(6, .ref (ad Γ h4)), (5, .null), (0, .ref (ad Γ 901)), (1, .int v1), (2, .int v2), (3, .int v3), (4, .int v4)]) hx hb dX9_would_19 hl (by decide) rfl (fun ls hl => ?_)
      refine lv_aloadN hx hb dX9_would_21 (lv_at hl 1 rfl) ?_
      refine lv_ifnullN (tgt := 52) hx hb dX9_would_23 (by decide) ?_
      refine lv_iconst (v := (-1)) hx hb dX9_would_52 (by decide) ?_
      obtain rfl := Option.some.inj hf
      subst hq
      exact rt_i C hw hS dX9_would_53
  | some h2 =>
    have hf := oc_some hf
    obtain ⟨g6, hf⟩ := gd_some hf
    refine lv_astore (lv' := [(5, .ref (ad Γ h2)), (0, .ref (ad Γ 901)), (1, .int v1), (2, .int v2), (3, .int v3), (4, .int v4)]) hx hb dX9_would_8 hl (by decide) rfl (fun ls hl => ?_)
    refine lv_aload_n hx hb dX9_would_10 rfl (lv_at hl 1 rfl) ?_
    refine va_get (ci := 9) (v := .ref (ad Γ 800)) (C := RX9) (T := TX9) (N := 8) hx hb htw uwX9 hown hE.1 (hw _ _ (wf_901 hE)) 0 rfl rfl 0 (by decide) (htw _ mw434) (fun _ h9 => h9) rfl dX9_would_11 ?_
    refine lv_iconst (v := 3) hx hb dX9_would_14 (by decide) ?_
    refine lv_iload_n hx hb dX9_would_15 rfl (lv_at hl 3 rfl) ?_
    obtain ⟨z7, hz7, hf⟩ := bd hf
    refine cl_Vs (rest := []) (kgX8_rowsAt (l := l) (Γ := Γ) (A := A) (G := g) (o := 800) (wf_800 hE) hz7) ⟨hx, hb, hml, hown, htw⟩ hE hw hS (hw _ _ (wf_800 hE)) (q0 := 0) rfl rfl mw659 mw660 mw661 mw120 mw662 pdX8_rowsAt ⟨Nat.le_of_ble_eq_true rfl, Nat.le_of_ble_eq_true rfl⟩ rfl rfl hl.1 (Nat.le_of_ble_eq_true rfl) dX9_would_16 (fun H locs hw hS => ?_)
    cases z7 with
    | none =>
      have hf := oc_none hf
      refine lv_astoreN (lv' := [(6, .null), (5, .ref (ad Γ h2)), (0, .ref (ad Γ 901)), (1, .int v1), (2, .int v2), (3, .int v3), (4, .int v4)]) hx hb dX9_would_19 hl (by decide) rfl (fun ls hl => ?_)
      refine lv_aload hx hb dX9_would_21 (lv_at hl 1 rfl) ?_
      refine lv_ifnull hx hb dX9_would_23 ?_
      refine lv_aloadN hx hb dX9_would_26 (lv_at hl 0 rfl) ?_
      refine lv_ifnullN (tgt := 52) hx hb dX9_would_28 (by decide) ?_
      refine lv_iconst (v := (-1)) hx hb dX9_would_52 (by decide) ?_
      obtain rfl := Option.some.inj hf
      subst hq
      exact rt_i C hw hS dX9_would_53
    | some h8 =>
      have hf := oc_some hf
      obtain ⟨g9, hf⟩ := gd_some hf
      refine lv_astore (lv' := [(6, .ref (ad Γ h8)), (5, .ref (ad Γ h2)), (0, .ref (ad Γ 901)), (1, .int v1), (2, .int v2), (3, .int v3), (4, .int v4)]) hx hb dX9_would_19 hl (by decide) rfl (fun ls hl => ?_)
      refine lv_aload hx hb dX9_would_21 (lv_at hl 1 rfl) ?_
      refine lv_ifnull hx hb dX9_would_23 ?_
      refine lv_aload hx hb dX9_would_26 (lv_at hl 0 rfl) ?_
      refine lv_ifnull hx hb dX9_would_28 ?_
      refine lv_aload hx hb dX9_would_31 (lv_at hl 1 rfl) ?_
      refine lv_aload hx hb dX9_would_33 (lv_at hl 0 rfl) ?_
      refine lv_iconst (v := 1) hx hb dX9_would_35 (by decide) ?_
      obtain ⟨z10, hz10, hf⟩ := bd hf
      refine cl_Vs (rest := []) (kX2_hasPieces (l := l) (Γ := Γ) (A := A) (hm_kd hE g6) (rw_kd hE g9) hz10) ⟨hx, hb, hml, hown, htw⟩ hE hw hS (hw _ _ (hm_kd hE g6)) (q0 := 0) rfl rfl mw832 mw833 mw834 mw121 mw835 pdX2_hasPieces ⟨Nat.le_of_ble_eq_true rfl, Nat.le_of_ble_eq_true rfl⟩ rfl rfl hl.1 (Nat.le_of_ble_eq_true rfl) dX9_would_36 (fun H locs hw hS => ?_)
      refine lv_if_eq (tgt := 52) hx hb dX9_would_39 (by decide) (fun c18 => ?_) (fun c18 => ?_)
      · have hf := ifp c18 hf
        refine lv_iconst (v := (-1)) hx hb dX9_would_52 (by decide) ?_
        obtain rfl := Option.some.inj hf
        subst hq
        exact rt_i C hw hS dX9_would_53
      · have hf := ifn c18 hf
        refine lv_aload hx hb dX9_would_42 (lv_at hl 1 rfl) ?_
        refine lv_iload hx hb dX9_would_44 (lv_at hl 6 rfl) ?_
        obtain ⟨z11, hz11, hf⟩ := bd hf
        refine cl_Vs (rest := []) (kgX2_hasPiece (l := l) (Γ := Γ) (A := A) (G := g) (o := h2) (hm_kd hE g6) hz11) ⟨hx, hb, hml, hown, htw⟩ hE hw hS (hw _ _ (hm_kd hE g6)) (q0 := 0) rfl rfl mw708 mw684 mw685 mw121 mw686 pdX2_hasPiece ⟨Nat.le_of_ble_eq_true rfl, Nat.le_of_ble_eq_true rfl⟩ rfl rfl hl.1 (Nat.le_of_ble_eq_true rfl) dX9_would_46 (fun H locs hw hS => ?_)
        refine lv_if_ne (tgt := 54) hx hb dX9_would_49 (by decide) (fun c17 => ?_) (fun c17 => ?_)
        · have hf := ifn c17 hf
          refine lv_aload_n hx hb dX9_would_54 rfl (lv_at hl 2 rfl) ?_
          refine va_get (ci := 9) (v := .ref (ad Γ 101)) (C := RX9) (T := TX9) (N := 8) hx hb htw uwX9 hown hE.1 (hw _ _ (wf_901 hE)) 0 rfl rfl 6 (by decide) (htw _ mw440) (fun _ h9 => h9) rfl dX9_would_55 ?_
          refine lv_aload hx hb dX9_would_58 (lv_at hl 1 rfl) ?_
          refine lv_aload hx hb dX9_would_60 (lv_at hl 0 rfl) ?_
          obtain ⟨z12, hz12, hf⟩ := bd hf
          refine cl_Vv (rest := []) (kX1_gather (l := l) (Γ := Γ) (A := A) (hm_kd hE g6) (rw_kd hE g9) hz12) ⟨hx, hb, hml, hown, htw⟩ hE hw hS (hw _ _ (wf_101 hE)) (q0 := 0) rfl rfl mw1006 mw1007 mw1008 mw128 mw1009 pdX1_gather ⟨Nat.le_of_ble_eq_true rfl, Nat.le_of_ble_eq_true rfl⟩ rfl rfl hl.1 (Nat.le_of_ble_eq_true rfl) dX9_would_62 (fun H locs hw hS => ?_)
          refine lv_aload_n hx hb dX9_would_65 rfl (lv_at hl 2 rfl) ?_
          refine va_get (ci := 9) (v := .ref (ad Γ 101)) (C := RX9) (T := TX9) (N := 8) hx hb htw uwX9 hown hE.1 (hw _ _ (wf_901 hE)) 0 rfl rfl 6 (by decide) (htw _ mw440) (fun _ h9 => h9) rfl dX9_would_66 ?_
          refine lv_iload_n hx hb dX9_would_69 rfl (lv_at hl 5 rfl) ?_
          obtain ⟨z13, hz13, hf⟩ := bd hf
          refine cl_Vs (rest := []) (kX1_hasFit (l := l) (Γ := Γ) (A := A) hz13) ⟨hx, hb, hml, hown, htw⟩ hE hw hS (hw _ _ (wf_101 hE)) (q0 := 0) rfl rfl mw1052 mw1053 mw1054 mw128 mw1055 pdX1_hasFit ⟨Nat.le_of_ble_eq_true rfl, Nat.le_of_ble_eq_true rfl⟩ rfl rfl hl.1 (Nat.le_of_ble_eq_true rfl) dX9_would_70 (fun H locs hw hS => ?_)
          refine lv_if_eq (tgt := 95) hx hb dX9_would_73 (by decide) (fun c16 => ?_) (fun c16 => ?_)
          · have hf := ifp c16 hf
            refine lv_iconst (v := (-1)) hx hb dX9_would_95 (by decide) ?_
            obtain rfl := Option.some.inj hf
            subst hq
            exact rt_i C hw hS dX9_would_96
          · have hf := ifn c16 hf
            refine lv_aload hx hb dX9_would_76 (lv_at hl 1 rfl) ?_
            refine lv_aload_n hx hb dX9_would_78 rfl (lv_at hl 2 rfl) ?_
            refine va_get (ci := 9) (v := .ref (ad Γ 101)) (C := RX9) (T := TX9) (N := 8) hx hb htw uwX9 hown hE.1 (hw _ _ (wf_901 hE)) 0 rfl rfl 6 (by decide) (htw _ mw440) (fun _ h9 => h9) rfl dX9_would_79 ?_
            refine va_get (ci := 1) (v := .ref (aa Γ 101 0)) (C := RX1) (T := TX1) (N := 3) hx hb htw uwX1 hown hE.1 (hw _ _ (wf_101 hE)) 0 rfl rfl 0 (by decide) (htw _ mw413) (fun _ h9 => h9) rfl dX9_would_82 ?_
            refine lv_iload_n hx hb dX9_would_85 rfl (lv_at hl 5 rfl) ?_
            obtain ⟨g14, hf⟩ := gd_some hf
            refine va_iald hx hb hE.1 (hw _ _ (wf_101 hE)) 1 0 rfl rfl (inR_in g14) dX9_would_86 ?_
            refine lv_iload hx hb dX9_would_87 (lv_at hl 6 rfl) ?_
            obtain ⟨z15, hz15, hf⟩ := bd hf
            refine cl_Vs (rest := []) (kgX2_hoursTold (l := l) (Γ := Γ) (A := A) (G := z12) (o := h2) (hm_kd hE g6) hz15) ⟨hx, hb, hml, hown, htw⟩ hE hw hS (hw _ _ (hm_kd hE g6)) (q0 := 0) rfl rfl mw1211 mw1015 mw1016 mw121 mw1017 pdX2_hoursTold ⟨Nat.le_of_ble_eq_true rfl, Nat.le_of_ble_eq_true rfl⟩ rfl rfl hl.1 (Nat.le_of_ble_eq_true rfl) dX9_would_89 (fun H locs hw hS => ?_)
            refine lv_goto (tgt := 96) hx hb dX9_would_92 (by decide) ?_
            obtain rfl := Option.some.inj hf
            subst hq
            exact rt_i C hw hS dX9_would_96
        · have hf := ifp c17 hf
          refine lv_iconst (v := (-1)) hx hb dX9_would_52 (by decide) ?_
          obtain rfl := Option.some.inj hf
          subst hq
          exact rt_i C hw hS dX9_would_53

theorem kX9_would {l : Launch} {Γ : Gm} {A : Nat → Prop} {g : Gs} {v1 : Int32} {v2 : Int32} {v3 : Int32} {v4 : Int32} {fin : Gs × Int32} (hf : fX9_would g v1 v2 v3 v4 = some fin) : Kt l yX9_would cX9_would 7 (some .int) 5 110 Γ A g fin.1 [.ref (ad Γ 901), .int v1, .int v2, .int v3, .int v4] (some (.int fin.2)) :=
  kt_of (by decide) (Nat.le_of_ble_eq_true rfl) (fun p e s m args below meth c C => wX9_would_e C hf rfl)
noncomputable def bX9_count_9 (g : Gs) : Option Int32 :=
  some ((-2))
set_option maxRecDepth 100000 in
set_option maxHeartbeats 4000000 in
theorem wX9_count_9 {p : Program} {l : Launch} {e : Env} {s : State} {m : MethodId} {args : Array Value} {below : List Frame} {meth : Method} {c : Code} {Γ : Gm} {A : Nat → Prop} {g : Gs} {q : Int32} {fin : Int32} (C : Cx p s m args meth c yX9_count cX9_count 2 (some .int) Γ A) (hf : bX9_count_9 g = some q) (hq : (fun x => x = fin) q) : Wk p l e { frames := 0, cells := 0, slots := 0, locals := 0 } s m args below meth c Γ A g (some (.int fin)) 9 2 [] [] g := by
  intro H locs ls hw hS hl
  unfold bX9_count_9 at hf
  obtain ⟨hx, hb, hml, hr, hown, htw, hlocks, hE⟩ := id C
  have hown : s.vm.findClass RX9 = some m.cls := hown
  refine lv_bipush (v := (-2)) hx hb dX9_count_9 (by decide) ?_
  refine lv_goto (tgt := 23) hx hb dX9_count_11 (by decide) ?_
  obtain rfl := Option.some.inj hf
  subst hq
  exact rt_i C hw hS dX9_count_23

noncomputable def fX9_count (g : Gs) (v1 : Int32) : Option Int32 :=
  if v1 < 0 then bX9_count_9 g else if v1 < 4 then gd (inR v1 4) (some (ga (g 800) 4 (Int32.toNatClampNeg v1))) else bX9_count_9 g
set_option maxRecDepth 100000 in
set_option maxHeartbeats 4000000 in
theorem wX9_count_e {p : Program} {l : Launch} {e : Env} {s : State} {m : MethodId} {args : Array Value} {below : List Frame} {meth : Method} {c : Code} {Γ : Gm} {A : Nat → Prop} {g : Gs} {v1 : Int32} {q : Int32} {fin : Int32} (C : Cx p s m args meth c yX9_count cX9_count 2 (some .int) Γ A) (hf : fX9_count g v1 = some q) (hq : (fun x => x = fin) q) : Wk p l e { frames := 0, cells := 0, slots := 0, locals := 0 } s m args below meth c Γ A g (some (.int fin)) 0 2 [(0, .ref (ad Γ 901)), (1, .int v1)] [] g := by
  intro H locs ls hw hS hl
  unfold fX9_count at hf
  obtain ⟨hx, hb, hml, hr, hown, htw, hlocks, hE⟩ := id C
  have hown : s.vm.findClass RX9 = some m.cls := hown
  refine lv_iload_n hx hb dX9_count_0 rfl (lv_at hl 1 rfl) ?_
  refine lv_if_lt (tgt := 9) hx hb dX9_count_1 (by decide) (fun c3 => ?_) (fun c3 => ?_)
  · have hf := ifp c3 hf
    exact wX9_count_9 C hf hq H locs ls hw hS (lv_sub hl [] rfl)
  · have hf := ifn c3 hf
    refine lv_iload_n hx hb dX9_count_4 rfl (lv_at hl 1 rfl) ?_
    refine lv_iconst (v := 4) hx hb dX9_count_5 (by decide) ?_
    refine lv_icmp_lt (tgt := 14) hx hb dX9_count_6 (by decide) (fun c2 => ?_) (fun c2 => ?_)
    · have hf := ifp c2 hf
      refine lv_aload_n hx hb dX9_count_14 rfl (lv_at hl 0 rfl) ?_
      refine va_get (ci := 9) (v := .ref (ad Γ 800)) (C := RX9) (T := TX9) (N := 8) hx hb htw uwX9 hown hE.1 (hw _ _ (wf_901 hE)) 0 rfl rfl 0 (by decide) (htw _ mw434) (fun _ h9 => h9) rfl dX9_count_15 ?_
      refine va_get (ci := 8) (v := .ref (aa Γ 800 4)) (C := RX8) (T := TX8) (N := 9) hx hb htw uwX8 hown hE.1 (hw _ _ (wf_800 hE)) 0 rfl rfl 4 (by decide) (htw _ mw253) (fun _ h9 => h9) rfl dX9_count_18 ?_
      refine lv_iload_n hx hb dX9_count_21 rfl (lv_at hl 1 rfl) ?_
      obtain ⟨g1, hf⟩ := gd_some hf
      refine va_iald hx hb hE.1 (hw _ _ (wf_800 hE)) 2 0 rfl rfl (inR_in g1) dX9_count_22 ?_
      obtain rfl := Option.some.inj hf
      subst hq
      exact rt_i C hw hS dX9_count_23
    · have hf := ifn c2 hf
      exact wX9_count_9 C hf hq H locs ls hw hS (lv_sub hl [] rfl)

theorem kX9_count {l : Launch} {Γ : Gm} {A : Nat → Prop} {g : Gs} {v1 : Int32} {fin : Int32} (hf : fX9_count g v1 = some fin) : Kt l yX9_count cX9_count 2 (some .int) 0 0 Γ A g g [.ref (ad Γ 901), .int v1] (some (.int fin)) :=
  kt_of (by decide) (Nat.le_of_ble_eq_true rfl) (fun p e s m args below meth c C => wX9_count_e C hf rfl)
