noncomputable def bX10_takeKind_73 (r : Rec) (v1 : Int32) (s0 : Int32) : Option (Rec × Int32) :=
  if s0 = (-1) then (fX10_fails r).bind fun z4 => gd (isB z4.2) (some ((z4.1, z4.2))) else gd (inR v1 4) ((some (sa r 20 (upd (ga r 20) (Int32.toNatClampNeg v1) s0))).bind fun r2 => (fX10_token r2).bind fun z3 => some ((z3, 1)))
set_option maxRecDepth 100000 in
set_option maxHeartbeats 4000000 in
theorem wX10_takeKind_73 {p : Program} {l : Launch} {e : Env} {s : State} {m : MethodId} {args : Array Value} {below : List Frame} {meth : Method} {c : Code} {Γ : Gm} {A : Nat → Prop} {G : Gs} {o : Nat} {r : Rec} {v1 : Int32} {s0 : Int32} {q : (Rec × Int32)} {fin : Rec × Int32} (C : Cx p s m args meth c yX10_takeKind cX10_takeKind 3 (some .boolean) Γ A) (hk : kd Γ o = some 10) (hf : bX10_takeKind_73 r v1 s0 = some q) (hq : (fun x => x = fin) q) : Wk p l e { frames := 2, cells := 0, slots := 0, locals := 44 } s m args below meth c Γ A (ug G o fin.1) (some (.int fin.2)) 73 3 [(0, .ref (ad Γ o)), (1, .int v1)] [.int s0] (ug G o r) := by
  intro H locs ls hw hS hl
  unfold bX10_takeKind_73 at hf
  obtain ⟨hx, hb, hml, hr, hown, htw, hlocks, hE⟩ := id C
  have hown : s.vm.findClass RX10 = some m.cls := hown
  refine lv_istore_n (lv' := [(2, .int s0), (0, .ref (ad Γ o)), (1, .int v1)]) hx hb dX10_takeKind_73 rfl hl (by decide) rfl (fun ls hl => ?_)
  refine lv_iload_n hx hb dX10_takeKind_74 rfl (lv_at hl 0 rfl) ?_
  refine lv_iconst (v := (-1)) hx hb dX10_takeKind_75 (by decide) ?_
  refine lv_icmp_ne (tgt := 84) hx hb dX10_takeKind_76 (by decide) (fun c6 => ?_) (fun c6 => ?_)
  · have hf := ifn c6 hf
    refine lv_aload_n hx hb dX10_takeKind_84 rfl (lv_at hl 1 rfl) ?_
    refine va_get (ci := 10) (v := .ref (aa Γ o 20)) (C := RX10) (T := TX10) (N := 49) hx hb htw uwX10 hown hE.1 (wo_me hw hk) 0 rfl rfl 20 (by decide) (htw _ mw1263) (fun _ h9 => h9) rfl dX10_takeKind_85 ?_
    refine lv_iload_n hx hb dX10_takeKind_88 rfl (lv_at hl 2 rfl) ?_
    refine lv_iload_n hx hb dX10_takeKind_89 rfl (lv_at hl 0 rfl) ?_
    obtain ⟨g1, hf⟩ := gd_some hf
    obtain ⟨r2, hr2, hf⟩ := bd hf
    have hr2 := Option.some.inj hr2
    refine wo_iast hx hb hE hw hS hk (q0 := 11) rfl (inR_in g1) (sa10_20 hr2) dX10_takeKind_90 (fun H locs hw hS => ?_)
    refine lv_aload_n hx hb dX10_takeKind_91 rfl (lv_at hl 1 rfl) ?_
    obtain ⟨z3, hz3, hf⟩ := bd hf
    refine cl_Vv (rest := []) (kX10_token (l := l) (Γ := Γ) (A := A) (G := G) (o := o) hk hz3) ⟨hx, hb, hml, hown, htw⟩ hE hw hS (wo_me hw hk) (q0 := 0) rfl rfl mw1419 mw1421 mw43 mw129 mw1422 pdX10_token ⟨Nat.le_of_ble_eq_true rfl, Nat.le_of_ble_eq_true rfl⟩ rfl rfl hl.1 (Nat.le_of_ble_eq_true rfl) dX10_takeKind_92 (fun H locs hw hS => ?_)
    refine lv_iconst (v := 1) hx hb dX10_takeKind_95 (by decide) ?_
    obtain rfl := Option.some.inj hf
    subst hq
    exact rt_z C (Or.inr rfl) hw hS dX10_takeKind_96
  · have hf := ifp c6 hf
    refine lv_aload_n hx hb dX10_takeKind_79 rfl (lv_at hl 1 rfl) ?_
    obtain ⟨z4, hz4, hf⟩ := bd hf
    refine cl_Vs (rest := []) (kX10_fails (l := l) (Γ := Γ) (A := A) (G := G) (o := o) hk hz4) ⟨hx, hb, hml, hown, htw⟩ hE hw hS (wo_me hw hk) (q0 := 0) rfl rfl mw1443 mw1445 mw48 mw129 mw1446 pdX10_fails ⟨Nat.le_of_ble_eq_true rfl, Nat.le_of_ble_eq_true rfl⟩ rfl rfl hl.1 (Nat.le_of_ble_eq_true rfl) dX10_takeKind_80 (fun H locs hw hS => ?_)
    obtain ⟨g5, hf⟩ := gd_some hf
    obtain rfl := Option.some.inj hf
    subst hq
    exact rt_z C (isB_or g5) hw hS dX10_takeKind_83

noncomputable def fX10_takeKind (r : Rec) (v1 : Int32) : Option (Rec × Int32) :=
  if (gi r 13) = 2 then if (lg_cmp (gl r 15) 1819244133) = 0 then bX10_takeKind_73 r v1 0 else if (lg_cmp (gl r 15) 1684365940) = 0 then bX10_takeKind_73 r v1 1 else if (lg_cmp (gl r 15) 431197615208) = 0 then bX10_takeKind_73 r v1 2 else if (lg_cmp (gl r 15) 2003397740) = 0 then bX10_takeKind_73 r v1 3 else bX10_takeKind_73 r v1 (-1) else bX10_takeKind_73 r v1 (-1)
set_option maxRecDepth 100000 in
set_option maxHeartbeats 4000000 in
theorem wX10_takeKind_e {p : Program} {l : Launch} {e : Env} {s : State} {m : MethodId} {args : Array Value} {below : List Frame} {meth : Method} {c : Code} {Γ : Gm} {A : Nat → Prop} {G : Gs} {o : Nat} {r : Rec} {v1 : Int32} {q : (Rec × Int32)} {fin : Rec × Int32} (C : Cx p s m args meth c yX10_takeKind cX10_takeKind 3 (some .boolean) Γ A) (hk : kd Γ o = some 10) (hf : fX10_takeKind r v1 = some q) (hq : (fun x => x = fin) q) : Wk p l e { frames := 2, cells := 0, slots := 0, locals := 44 } s m args below meth c Γ A (ug G o fin.1) (some (.int fin.2)) 0 3 [(0, .ref (ad Γ o)), (1, .int v1)] [] (ug G o r) := by
  intro H locs ls hw hS hl
  unfold fX10_takeKind at hf
  obtain ⟨hx, hb, hml, hr, hown, htw, hlocks, hE⟩ := id C
  have hown : s.vm.findClass RX10 = some m.cls := hown
  refine lv_aload_n hx hb dX10_takeKind_0 rfl (lv_at hl 0 rfl) ?_
  refine va_get (ci := 10) (v := .int (gi r 13)) (C := RX10) (T := TX10) (N := 49) hx hb htw uwX10 hown hE.1 (wo_me hw hk) 0 rfl rfl 13 (by decide) (htw _ mw1256) (fun _ h9 => h9) rfl dX10_takeKind_1 ?_
  refine lv_iconst (v := 2) hx hb dX10_takeKind_4 (by decide) ?_
  refine lv_icmp_eq (tgt := 12) hx hb dX10_takeKind_5 (by decide) (fun c11 => ?_) (fun c11 => ?_)
  · have hf := ifp c11 hf
    refine lv_aload_n hx hb dX10_takeKind_12 rfl (lv_at hl 0 rfl) ?_
    refine va_get (ci := 10) (v := .long (gl r 15)) (C := RX10) (T := TX10) (N := 49) hx hb htw uwX10 hown hE.1 (wo_me hw hk) 0 rfl rfl 15 (by decide) (htw _ mw1258) (fun _ h9 => h9) rfl dX10_takeKind_13 ?_
    refine lv_ldc2 hx hb hown (htw _ mw1482) dX10_takeKind_16 ?_
    refine W.lcmp hx hb dX10_takeKind_19 ?_
    refine lv_if_ne (tgt := 27) hx hb dX10_takeKind_20 (by decide) (fun c10 => ?_) (fun c10 => ?_)
    · have hf := ifn c10 hf
      refine lv_aload_n hx hb dX10_takeKind_27 rfl (lv_at hl 0 rfl) ?_
      refine va_get (ci := 10) (v := .long (gl r 15)) (C := RX10) (T := TX10) (N := 49) hx hb htw uwX10 hown hE.1 (wo_me hw hk) 0 rfl rfl 15 (by decide) (htw _ mw1258) (fun _ h9 => h9) rfl dX10_takeKind_28 ?_
      refine lv_ldc2 hx hb hown (htw _ mw1483) dX10_takeKind_31 ?_
      refine W.lcmp hx hb dX10_takeKind_34 ?_
      refine lv_if_ne (tgt := 42) hx hb dX10_takeKind_35 (by decide) (fun c9 => ?_) (fun c9 => ?_)
      · have hf := ifn c9 hf
        refine lv_aload_n hx hb dX10_takeKind_42 rfl (lv_at hl 0 rfl) ?_
        refine va_get (ci := 10) (v := .long (gl r 15)) (C := RX10) (T := TX10) (N := 49) hx hb htw uwX10 hown hE.1 (wo_me hw hk) 0 rfl rfl 15 (by decide) (htw _ mw1258) (fun _ h9 => h9) rfl dX10_takeKind_43 ?_
        refine lv_ldc2 hx hb hown (htw _ mw1484) dX10_takeKind_46 ?_
        refine W.lcmp hx hb dX10_takeKind_49 ?_
        refine lv_if_ne (tgt := 57) hx hb dX10_takeKind_50 (by decide) (fun c8 => ?_) (fun c8 => ?_)
        · have hf := ifn c8 hf
          refine lv_aload_n hx hb dX10_takeKind_57 rfl (lv_at hl 0 rfl) ?_
          refine va_get (ci := 10) (v := .long (gl r 15)) (C := RX10) (T := TX10) (N := 49) hx hb htw uwX10 hown hE.1 (wo_me hw hk) 0 rfl rfl 15 (by decide) (htw _ mw1258) (fun _ h9 => h9) rfl dX10_takeKind_58 ?_
          refine lv_ldc2 hx hb hown (htw _ mw1485) dX10_takeKind_61 ?_
          refine W.lcmp hx hb dX10_takeKind_64 ?_
          refine lv_if_ne (tgt := 72) hx hb dX10_takeKind_65 (by decide) (fun c7 => ?_) (fun c7 => ?_)
          · have hf := ifn c7 hf
            refine lv_iconst (v := (-1)) hx hb dX10_takeKind_72 (by decide) ?_
            exact wX10_takeKind_73 C hk hf hq H locs ls hw hS hl
          · have hf := ifp c7 hf
            refine lv_iconst (v := 3) hx hb dX10_takeKind_68 (by decide) ?_
            refine lv_goto (tgt := 73) hx hb dX10_takeKind_69 (by decide) ?_
            exact wX10_takeKind_73 C hk hf hq H locs ls hw hS hl
        · have hf := ifp c8 hf
          refine lv_iconst (v := 2) hx hb dX10_takeKind_53 (by decide) ?_
          refine lv_goto (tgt := 73) hx hb dX10_takeKind_54 (by decide) ?_
          exact wX10_takeKind_73 C hk hf hq H locs ls hw hS hl
      · have hf := ifp c9 hf
        refine lv_iconst (v := 1) hx hb dX10_takeKind_38 (by decide) ?_
        refine lv_goto (tgt := 73) hx hb dX10_takeKind_39 (by decide) ?_
        exact wX10_takeKind_73 C hk hf hq H locs ls hw hS hl
    · have hf := ifp c10 hf
      refine lv_iconst (v := 0) hx hb dX10_takeKind_23 (by decide) ?_
      refine lv_goto (tgt := 73) hx hb dX10_takeKind_24 (by decide) ?_
      exact wX10_takeKind_73 C hk hf hq H locs ls hw hS hl
  · have hf := ifn c11 hf
    refine lv_iconst (v := (-1)) hx hb dX10_takeKind_8 (by decide) ?_
    refine lv_goto (tgt := 73) hx hb dX10_takeKind_9 (by decide) ?_
    exact wX10_takeKind_73 C hk hf hq H locs ls hw hS hl

theorem kX10_takeKind {l : Launch} {Γ : Gm} {A : Nat → Prop} {G : Gs} {o : Nat} {r : Rec} {v1 : Int32} {fin : Rec × Int32} (hk : kd Γ o = some 10) (hf : fX10_takeKind r v1 = some fin) : Kt l yX10_takeKind cX10_takeKind 3 (some .boolean) 2 44 Γ A (ug G o r) (ug G o fin.1) [.ref (ad Γ o), .int v1] (some (.int fin.2)) :=
  kt_of (by decide) (Nat.le_of_ble_eq_true rfl) (fun p e s m args below meth c C => wX10_takeKind_e C hk hf rfl)
theorem kgX10_takeKind {l : Launch} {Γ : Gm} {A : Nat → Prop} {G : Gs} {o : Nat} {v1 : Int32} {fin : Rec × Int32} (hk : kd Γ o = some 10) (hf : fX10_takeKind (G o) v1 = some fin) : Kt l yX10_takeKind cX10_takeKind 3 (some .boolean) 2 44 Γ A G (ug G o fin.1) [.ref (ad Γ o), .int v1] (some (.int fin.2)) := by
  have h := kX10_takeKind (l := l) (A := A) (G := G) (r := G o) hk hf
  rw [ug_self] at h
  exact h
noncomputable def fX10_full (r : Rec) (v1 : Int32) (v2 : Int32) (v3 : Int32) : Option Rec :=
  gd (inR v1 161) (if (ga r 19 (Int32.toNatClampNeg v1)) = v2 then (fX10_later r 3 v3).bind fun z2 => some (z2) else some (r))
set_option maxRecDepth 100000 in
set_option maxHeartbeats 4000000 in
theorem wX10_full_e {p : Program} {l : Launch} {e : Env} {s : State} {m : MethodId} {args : Array Value} {below : List Frame} {meth : Method} {c : Code} {Γ : Gm} {A : Nat → Prop} {G : Gs} {o : Nat} {r : Rec} {v1 : Int32} {v2 : Int32} {v3 : Int32} {q : Rec} {fin : Rec} (C : Cx p s m args meth c yX10_full cX10_full 4 none Γ A) (hk : kd Γ o = some 10) (hf : fX10_full r v1 v2 v3 = some q) (hq : (fun x => x = fin) q) : Wk p l e { frames := 1, cells := 0, slots := 0, locals := 22 } s m args below meth c Γ A (ug G o fin) none 0 4 [(0, .ref (ad Γ o)), (1, .int v1), (2, .int v2), (3, .int v3)] [] (ug G o r) := by
  intro H locs ls hw hS hl
  unfold fX10_full at hf
  obtain ⟨hx, hb, hml, hr, hown, htw, hlocks, hE⟩ := id C
  have hown : s.vm.findClass RX10 = some m.cls := hown
  refine lv_aload_n hx hb dX10_full_0 rfl (lv_at hl 0 rfl) ?_
  refine va_get (ci := 10) (v := .ref (aa Γ o 19)) (C := RX10) (T := TX10) (N := 49) hx hb htw uwX10 hown hE.1 (wo_me hw hk) 0 rfl rfl 19 (by decide) (htw _ mw1262) (fun _ h9 => h9) rfl dX10_full_1 ?_
  refine lv_iload_n hx hb dX10_full_4 rfl (lv_at hl 1 rfl) ?_
  obtain ⟨g1, hf⟩ := gd_some hf
  refine va_iald hx hb hE.1 (wo_me hw hk) 10 0 rfl rfl (inR_in g1) dX10_full_5 ?_
  refine lv_iload_n hx hb dX10_full_6 rfl (lv_at hl 2 rfl) ?_
  refine lv_icmp_ne (tgt := 16) hx hb dX10_full_7 (by decide) (fun c3 => ?_) (fun c3 => ?_)
  · have hf := ifn c3 hf
    obtain rfl := Option.some.inj hf
    subst hq
    exact rt_v C hw hS dX10_full_16
  · have hf := ifp c3 hf
    refine lv_aload_n hx hb dX10_full_10 rfl (lv_at hl 0 rfl) ?_
    refine lv_iconst (v := 3) hx hb dX10_full_11 (by decide) ?_
    refine lv_iload_n hx hb dX10_full_12 rfl (lv_at hl 3 rfl) ?_
    obtain ⟨z2, hz2, hf⟩ := bd hf
    refine cl_Vv (rest := []) (kX10_later (l := l) (Γ := Γ) (A := A) (G := G) (o := o) hk hz2) ⟨hx, hb, hml, hown, htw⟩ hE hw hS (wo_me hw hk) (q0 := 0) rfl rfl mw1451 mw1453 mw50 mw129 mw1454 pdX10_later ⟨Nat.le_of_ble_eq_true rfl, Nat.le_of_ble_eq_true rfl⟩ rfl rfl hl.1 (Nat.le_of_ble_eq_true rfl) dX10_full_13 (fun H locs hw hS => ?_)
    obtain rfl := Option.some.inj hf
    subst hq
    exact rt_v C hw hS dX10_full_16

theorem kX10_full {l : Launch} {Γ : Gm} {A : Nat → Prop} {G : Gs} {o : Nat} {r : Rec} {v1 : Int32} {v2 : Int32} {v3 : Int32} {fin : Rec} (hk : kd Γ o = some 10) (hf : fX10_full r v1 v2 v3 = some fin) : Kt l yX10_full cX10_full 4 none 1 22 Γ A (ug G o r) (ug G o fin) [.ref (ad Γ o), .int v1, .int v2, .int v3] none :=
  kt_of (by decide) (Nat.le_of_ble_eq_true rfl) (fun p e s m args below meth c C => wX10_full_e C hk hf rfl)
theorem kgX10_full {l : Launch} {Γ : Gm} {A : Nat → Prop} {G : Gs} {o : Nat} {v1 : Int32} {v2 : Int32} {v3 : Int32} {fin : Rec} (hk : kd Γ o = some 10) (hf : fX10_full (G o) v1 v2 v3 = some fin) : Kt l yX10_full cX10_full 4 none 1 22 Γ A G (ug G o fin) [.ref (ad Γ o), .int v1, .int v2, .int v3] none := by
  have h := kX10_full (l := l) (A := A) (G := G) (r := G o) hk hf
  rw [ug_self] at h
  exact h
noncomputable def bX10_keep_53 (r : Rec) (v1 : Int32) : Option Rec :=
  gd (inR v1 161) (gd (inR v1 161) ((some (sa r 19 (upd (ga r 19) (Int32.toNatClampNeg v1) ((ga r 19 (Int32.toNatClampNeg v1)) + 1)))).bind fun r3 => some (r3)))
set_option maxRecDepth 100000 in
set_option maxHeartbeats 4000000 in
theorem wX10_keep_53 {p : Program} {l : Launch} {e : Env} {s : State} {m : MethodId} {args : Array Value} {below : List Frame} {meth : Method} {c : Code} {Γ : Gm} {A : Nat → Prop} {G : Gs} {o : Nat} {r : Rec} {v1 : Int32} {q : Rec} {fin : Rec} (C : Cx p s m args meth c yX10_keep cX10_keep 8 none Γ A) (hk : kd Γ o = some 10) (hf : bX10_keep_53 r v1 = some q) (hq : (fun x => x = fin) q) : Wk p l e { frames := 0, cells := 0, slots := 0, locals := 0 } s m args below meth c Γ A (ug G o fin) none 53 8 [(0, .ref (ad Γ o)), (1, .int v1)] [] (ug G o r) := by
  intro H locs ls hw hS hl
  unfold bX10_keep_53 at hf
  obtain ⟨hx, hb, hml, hr, hown, htw, hlocks, hE⟩ := id C
  have hown : s.vm.findClass RX10 = some m.cls := hown
  refine lv_aload_n hx hb dX10_keep_53 rfl (lv_at hl 0 rfl) ?_
  refine va_get (ci := 10) (v := .ref (aa Γ o 19)) (C := RX10) (T := TX10) (N := 49) hx hb htw uwX10 hown hE.1 (wo_me hw hk) 0 rfl rfl 19 (by decide) (htw _ mw1262) (fun _ h9 => h9) rfl dX10_keep_54 ?_
  refine lv_iload_n hx hb dX10_keep_57 rfl (lv_at hl 1 rfl) ?_
  refine lv_dup2_11 hx hb dX10_keep_58 rfl rfl ?_
  obtain ⟨g1, hf⟩ := gd_some hf
  refine va_iald hx hb hE.1 (wo_me hw hk) 10 0 rfl rfl (inR_in g1) dX10_keep_59 ?_
  refine lv_iconst (v := 1) hx hb dX10_keep_60 (by decide) ?_
  refine lv_iadd hx hb dX10_keep_61 ?_
  obtain ⟨g2, hf⟩ := gd_some hf
  obtain ⟨r3, hr3, hf⟩ := bd hf
  have hr3 := Option.some.inj hr3
  refine wo_iast hx hb hE hw hS hk (q0 := 10) rfl (inR_in g2) (sa10_19 hr3) dX10_keep_62 (fun H locs hw hS => ?_)
  obtain rfl := Option.some.inj hf
  subst hq
  exact rt_v C hw hS dX10_keep_63

noncomputable def bX10_keep_19 (r : Rec) (v1 : Int32) (v2 : Int32) (v3 : Int32) (v4 : Int32) (v6 : Int32) (v7 : Int32) : Option ((Int32 × Rec) ⊕ Rec) :=
  if v4 ≤ v7 then out1 (bX10_keep_53 r v1) else gd (inR v7 4) (gd (inR ((v2 + (v3 * v7)) + v6) 161) ((some (sa r 19 (upd (ga r 19) (Int32.toNatClampNeg ((v2 + (v3 * v7)) + v6)) (ga r 20 (Int32.toNatClampNeg v7))))).bind fun r7 => some (.inl (v7 + 1, r7))))
set_option maxRecDepth 100000 in
set_option maxHeartbeats 4000000 in
theorem wX10_keep_19 {p : Program} {l : Launch} {e : Env} {s : State} {m : MethodId} {args : Array Value} {below : List Frame} {meth : Method} {c : Code} {Γ : Gm} {A : Nat → Prop} {G : Gs} {o : Nat} {r : Rec} {v1 : Int32} {v2 : Int32} {v3 : Int32} {v4 : Int32} {v6 : Int32} {v7 : Int32} {q : ((Int32 × Rec) ⊕ Rec)} {fin : Rec} (C : Cx p s m args meth c yX10_keep cX10_keep 8 none Γ A) (hk : kd Γ o = some 10) (hf : bX10_keep_19 r v1 v2 v3 v4 v6 v7 = some q) (hq : (KC (fun st : Int32 × Rec => Wk p l e { frames := 0, cells := 0, slots := 0, locals := 0 } s m args below meth c Γ A (ug G o fin) none 19 8 [(0, .ref (ad Γ o)), (1, .int v1), (2, .int v2), (3, .int v3), (4, .int v4), (6, .int v6), (7, .int st.1)] [] (ug G o st.2)) (fun x => x = fin)) q) : Wk p l e { frames := 0, cells := 0, slots := 0, locals := 0 } s m args below meth c Γ A (ug G o fin) none 19 8 [(0, .ref (ad Γ o)), (1, .int v1), (2, .int v2), (3, .int v3), (4, .int v4), (6, .int v6), (7, .int v7)] [] (ug G o r) := by
  intro H locs ls hw hS hl
  unfold bX10_keep_19 at hf
  obtain ⟨hx, hb, hml, hr, hown, htw, hlocks, hE⟩ := id C
  have hown : s.vm.findClass RX10 = some m.cls := hown
  refine lv_iload hx hb dX10_keep_19 (lv_at hl 6 rfl) ?_
  refine lv_iload hx hb dX10_keep_21 (lv_at hl 4 rfl) ?_
  refine lv_icmp_ge (tgt := 53) hx hb dX10_keep_23 (by decide) (fun c8 => ?_) (fun c8 => ?_)
  · have hf := ifp c8 hf
    obtain ⟨q4, hfq4, eq4⟩ := out1_some hf
    subst eq4
    have hf := hfq4
    have hq := hq.2 _ rfl
    exact wX10_keep_53 C hk hf hq H locs ls hw hS (lv_sub hl [0, 1] rfl)
  · have hf := ifn c8 hf
    refine lv_aload_n hx hb dX10_keep_26 rfl (lv_at hl 0 rfl) ?_
    refine va_get (ci := 10) (v := .ref (aa Γ o 19)) (C := RX10) (T := TX10) (N := 49) hx hb htw uwX10 hown hE.1 (wo_me hw hk) 0 rfl rfl 19 (by decide) (htw _ mw1262) (fun _ h9 => h9) rfl dX10_keep_27 ?_
    refine lv_iload_n hx hb dX10_keep_30 rfl (lv_at hl 2 rfl) ?_
    refine lv_iload_n hx hb dX10_keep_31 rfl (lv_at hl 3 rfl) ?_
    refine lv_iload hx hb dX10_keep_32 (lv_at hl 6 rfl) ?_
    refine lv_imul hx hb dX10_keep_34 ?_
    refine lv_iadd hx hb dX10_keep_35 ?_
    refine lv_iload hx hb dX10_keep_36 (lv_at hl 5 rfl) ?_
    refine lv_iadd hx hb dX10_keep_38 ?_
    refine lv_aload_n hx hb dX10_keep_39 rfl (lv_at hl 0 rfl) ?_
    refine va_get (ci := 10) (v := .ref (aa Γ o 20)) (C := RX10) (T := TX10) (N := 49) hx hb htw uwX10 hown hE.1 (wo_me hw hk) 0 rfl rfl 20 (by decide) (htw _ mw1263) (fun _ h9 => h9) rfl dX10_keep_40 ?_
    refine lv_iload hx hb dX10_keep_43 (lv_at hl 6 rfl) ?_
    obtain ⟨g5, hf⟩ := gd_some hf
    refine va_iald hx hb hE.1 (wo_me hw hk) 11 0 rfl rfl (inR_in g5) dX10_keep_45 ?_
    obtain ⟨g6, hf⟩ := gd_some hf
    obtain ⟨r7, hr7, hf⟩ := bd hf
    have hr7 := Option.some.inj hr7
    refine wo_iast hx hb hE hw hS hk (q0 := 10) rfl (inR_in g6) (sa10_19 hr7) dX10_keep_46 (fun H locs hw hS => ?_)
    refine lv_iinc (v := v7 + 1) (lv' := [(7, .int (v7 + 1)), (0, .ref (ad Γ o)), (1, .int v1), (2, .int v2), (3, .int v3), (4, .int v4), (6, .int v6)]) hx hb dX10_keep_47 hl (k := 6) rfl (by rfl) (by decide) rfl (fun ls hl => ?_)
    refine lv_goto (tgt := 19) hx hb dX10_keep_50 (by decide) ?_
    obtain rfl := Option.some.inj hf
    exact hq.1 _ rfl H locs ls hw hS (lv_sub hl [1, 2, 3, 4, 5, 6, 0] rfl)

set_option maxRecDepth 100000 in
set_option maxHeartbeats 4000000 in
theorem lwX10_keep_19 {p : Program} {l : Launch} {e : Env} {s : State} {m : MethodId} {args : Array Value} {below : List Frame} {meth : Method} {c : Code} {Γ : Gm} {A : Nat → Prop} {G : Gs} {o : Nat} {r : Rec} {v1 : Int32} {v2 : Int32} {v3 : Int32} {v4 : Int32} {v6 : Int32} {v7 : Int32} {q : Rec} {fin : Rec} (C : Cx p s m args meth c yX10_keep cX10_keep 8 none Γ A) (hk : kd Γ o = some 10) (hf : iter (fun st : Int32 × Rec => bX10_keep_19 st.2 v1 v2 v3 v4 v6 st.1) (v7, r) = some q) (hq : (fun x => x = fin) q) : Wk p l e { frames := 0, cells := 0, slots := 0, locals := 0 } s m args below meth c Γ A (ug G o fin) none 19 8 [(0, .ref (ad Γ o)), (1, .int v1), (2, .int v2), (3, .int v3), (4, .int v4), (6, .int v6), (7, .int v7)] [] (ug G o r) := by
  intro H locs ls hw hS hl
  refine iter_walk (P := (fun st : Int32 × Rec => Wk p l e { frames := 0, cells := 0, slots := 0, locals := 0 } s m args below meth c Γ A (ug G o fin) none 19 8 [(0, .ref (ad Γ o)), (1, .int v1), (2, .int v2), (3, .int v3), (4, .int v4), (6, .int v6), (7, .int st.1)] [] (ug G o st.2))) (K := (fun x => x = fin)) (fun st q hq1 h1 h2 => ?_) hf hq H locs ls hw hS hl
  exact wX10_keep_19 (r := st.2) (v7 := st.1) C hk hq1 ⟨h1, h2⟩

noncomputable def fX10_keep (r : Rec) (v1 : Int32) (v2 : Int32) (v3 : Int32) (v4 : Int32) (v5 : Int32) : Option Rec :=
  gd (inR v1 161) ((some (ga r 19 (Int32.toNatClampNeg v1))).bind fun x10 => if x10 = v5 then some (r) else iter (fun st : Int32 × Rec => bX10_keep_19 st.2 v1 v2 v3 v4 x10 st.1) (0, r))
set_option maxRecDepth 100000 in
set_option maxHeartbeats 4000000 in
theorem wX10_keep_e {p : Program} {l : Launch} {e : Env} {s : State} {m : MethodId} {args : Array Value} {below : List Frame} {meth : Method} {c : Code} {Γ : Gm} {A : Nat → Prop} {G : Gs} {o : Nat} {r : Rec} {v1 : Int32} {v2 : Int32} {v3 : Int32} {v4 : Int32} {v5 : Int32} {q : Rec} {fin : Rec} (C : Cx p s m args meth c yX10_keep cX10_keep 8 none Γ A) (hk : kd Γ o = some 10) (hf : fX10_keep r v1 v2 v3 v4 v5 = some q) (hq : (fun x => x = fin) q) : Wk p l e { frames := 0, cells := 0, slots := 0, locals := 0 } s m args below meth c Γ A (ug G o fin) none 0 8 [(0, .ref (ad Γ o)), (1, .int v1), (2, .int v2), (3, .int v3), (4, .int v4), (5, .int v5)] [] (ug G o r) := by
  intro H locs ls hw hS hl
  unfold fX10_keep at hf
  obtain ⟨hx, hb, hml, hr, hown, htw, hlocks, hE⟩ := id C
  have hown : s.vm.findClass RX10 = some m.cls := hown
  refine lv_aload_n hx hb dX10_keep_0 rfl (lv_at hl 0 rfl) ?_
  refine va_get (ci := 10) (v := .ref (aa Γ o 19)) (C := RX10) (T := TX10) (N := 49) hx hb htw uwX10 hown hE.1 (wo_me hw hk) 0 rfl rfl 19 (by decide) (htw _ mw1262) (fun _ h9 => h9) rfl dX10_keep_1 ?_
  refine lv_iload_n hx hb dX10_keep_4 rfl (lv_at hl 1 rfl) ?_
  obtain ⟨g9, hf⟩ := gd_some hf
  refine va_iald hx hb hE.1 (wo_me hw hk) 10 0 rfl rfl (inR_in g9) dX10_keep_5 ?_
  obtain ⟨x10, hx10, hf⟩ := bd hf
  have hx10 := Option.some.inj hx10
  refine tp1i hx10 ?_
  refine lv_istore (lv' := [(6, .int x10), (0, .ref (ad Γ o)), (1, .int v1), (2, .int v2), (3, .int v3), (4, .int v4), (5, .int v5)]) hx hb dX10_keep_6 hl (by decide) rfl (fun ls hl => ?_)
  refine lv_iload hx hb dX10_keep_8 (lv_at hl 0 rfl) ?_
  refine lv_iload hx hb dX10_keep_10 (lv_at hl 6 rfl) ?_
  refine lv_icmp_ne (tgt := 16) hx hb dX10_keep_12 (by decide) (fun c11 => ?_) (fun c11 => ?_)
  · have hf := ifn c11 hf
    refine lv_iconst (v := 0) hx hb dX10_keep_16 (by decide) ?_
    refine lv_istore (lv' := [(7, .int 0), (6, .int x10), (0, .ref (ad Γ o)), (1, .int v1), (2, .int v2), (3, .int v3), (4, .int v4), (5, .int v5)]) hx hb dX10_keep_17 hl (by decide) rfl (fun ls hl => ?_)
    exact lwX10_keep_19 C hk hf hq H locs ls hw hS (lv_sub hl [2, 3, 4, 5, 6, 1, 0] rfl)
  · have hf := ifp c11 hf
    obtain rfl := Option.some.inj hf
    subst hq
    exact rt_v C hw hS dX10_keep_15

theorem kX10_keep {l : Launch} {Γ : Gm} {A : Nat → Prop} {G : Gs} {o : Nat} {r : Rec} {v1 : Int32} {v2 : Int32} {v3 : Int32} {v4 : Int32} {v5 : Int32} {fin : Rec} (hk : kd Γ o = some 10) (hf : fX10_keep r v1 v2 v3 v4 v5 = some fin) : Kt l yX10_keep cX10_keep 8 none 0 0 Γ A (ug G o r) (ug G o fin) [.ref (ad Γ o), .int v1, .int v2, .int v3, .int v4, .int v5] none :=
  kt_of (by decide) (Nat.le_of_ble_eq_true rfl) (fun p e s m args below meth c C => wX10_keep_e C hk hf rfl)
theorem kgX10_keep {l : Launch} {Γ : Gm} {A : Nat → Prop} {G : Gs} {o : Nat} {v1 : Int32} {v2 : Int32} {v3 : Int32} {v4 : Int32} {v5 : Int32} {fin : Rec} (hk : kd Γ o = some 10) (hf : fX10_keep (G o) v1 v2 v3 v4 v5 = some fin) : Kt l yX10_keep cX10_keep 8 none 0 0 Γ A G (ug G o fin) [.ref (ad Γ o), .int v1, .int v2, .int v3, .int v4, .int v5] none := by
  have h := kX10_keep (l := l) (A := A) (G := G) (r := G o) hk hf
  rw [ug_self] at h
  exact h
noncomputable def bX10_kindLine_81 (r : Rec) (s0 : Int32) (s1 : Int32) (s2 : Int32) (s3 : Int32) (s4 : Int32) : Option (Rec × Int32) :=
  (fX10_keep r s4 s3 s2 s1 s0).bind fun z1 => some ((z1, 1))
set_option maxRecDepth 100000 in
set_option maxHeartbeats 4000000 in
theorem wX10_kindLine_81 {p : Program} {l : Launch} {e : Env} {s : State} {m : MethodId} {args : Array Value} {below : List Frame} {meth : Method} {c : Code} {Γ : Gm} {A : Nat → Prop} {G : Gs} {o : Nat} {r : Rec} {s0 : Int32} {s1 : Int32} {s2 : Int32} {s3 : Int32} {s4 : Int32} {q : (Rec × Int32)} {fin : Rec × Int32} (C : Cx p s m args meth c yX10_kindLine cX10_kindLine 2 (some .boolean) Γ A) (hk : kd Γ o = some 10) (hf : bX10_kindLine_81 r s0 s1 s2 s3 s4 = some q) (hq : (fun x => x = fin) q) : Wk p l e { frames := 4, cells := 0, slots := 0, locals := 92 } s m args below meth c Γ A (ug G o fin.1) (some (.int fin.2)) 81 2 [] [.int s0, .int s1, .int s2, .int s3, .int s4, .ref (ad Γ o)] (ug G o r) := by
  intro H locs ls hw hS hl
  unfold bX10_kindLine_81 at hf
  obtain ⟨hx, hb, hml, hr, hown, htw, hlocks, hE⟩ := id C
  have hown : s.vm.findClass RX10 = some m.cls := hown
  obtain ⟨z1, hz1, hf⟩ := bd hf
  refine cl_Vv (rest := []) (kX10_keep (l := l) (Γ := Γ) (A := A) (G := G) (o := o) hk hz1) ⟨hx, hb, hml, hown, htw⟩ hE hw hS (wo_me hw hk) (q0 := 0) rfl rfl mw1490 mw1492 mw58 mw129 mw1493 pdX10_keep ⟨Nat.le_of_ble_eq_true rfl, Nat.le_of_ble_eq_true rfl⟩ rfl rfl hl.1 (Nat.le_of_ble_eq_true rfl) dX10_kindLine_81 (fun H locs hw hS => ?_)
  refine lv_iconst (v := 1) hx hb dX10_kindLine_84 (by decide) ?_
  obtain rfl := Option.some.inj hf
  subst hq
  exact rt_z C (Or.inr rfl) hw hS dX10_kindLine_85

noncomputable def bX10_kindLine_69 (r : Rec) (v1 : Int32) (s0 : Int32) (s1 : Int32) (s2 : Int32) : Option (Rec × Int32) :=
  if v1 = 0 then bX10_kindLine_81 r 10 2 s0 s1 s2 else bX10_kindLine_81 r 8 2 s0 s1 s2
set_option maxRecDepth 100000 in
set_option maxHeartbeats 4000000 in
theorem wX10_kindLine_69 {p : Program} {l : Launch} {e : Env} {s : State} {m : MethodId} {args : Array Value} {below : List Frame} {meth : Method} {c : Code} {Γ : Gm} {A : Nat → Prop} {G : Gs} {o : Nat} {r : Rec} {v1 : Int32} {s0 : Int32} {s1 : Int32} {s2 : Int32} {q : (Rec × Int32)} {fin : Rec × Int32} (C : Cx p s m args meth c yX10_kindLine cX10_kindLine 2 (some .boolean) Γ A) (hk : kd Γ o = some 10) (hf : bX10_kindLine_69 r v1 s0 s1 s2 = some q) (hq : (fun x => x = fin) q) : Wk p l e { frames := 4, cells := 0, slots := 0, locals := 92 } s m args below meth c Γ A (ug G o fin.1) (some (.int fin.2)) 69 2 [(1, .int v1)] [.int s0, .int s1, .int s2, .ref (ad Γ o)] (ug G o r) := by
  intro H locs ls hw hS hl
  unfold bX10_kindLine_69 at hf
  obtain ⟨hx, hb, hml, hr, hown, htw, hlocks, hE⟩ := id C
  have hown : s.vm.findClass RX10 = some m.cls := hown
  refine lv_iconst (v := 2) hx hb dX10_kindLine_69 (by decide) ?_
  refine lv_iload_n hx hb dX10_kindLine_70 rfl (lv_at hl 0 rfl) ?_
  refine lv_if_eq (tgt := 79) hx hb dX10_kindLine_71 (by decide) (fun c2 => ?_) (fun c2 => ?_)
  · have hf := ifp c2 hf
    refine lv_bipush (v := 10) hx hb dX10_kindLine_79 (by decide) ?_
    exact wX10_kindLine_81 C hk hf hq H locs ls hw hS (lv_sub hl [] rfl)
  · have hf := ifn c2 hf
    refine lv_bipush (v := 8) hx hb dX10_kindLine_74 (by decide) ?_
    refine lv_goto (tgt := 81) hx hb dX10_kindLine_76 (by decide) ?_
    exact wX10_kindLine_81 C hk hf hq H locs ls hw hS (lv_sub hl [] rfl)

noncomputable def bX10_kindLine_58 (r : Rec) (v1 : Int32) (s0 : Int32) (s1 : Int32) : Option (Rec × Int32) :=
  if v1 = 0 then bX10_kindLine_69 r v1 10 s0 s1 else bX10_kindLine_69 r v1 8 s0 s1
set_option maxRecDepth 100000 in
set_option maxHeartbeats 4000000 in
theorem wX10_kindLine_58 {p : Program} {l : Launch} {e : Env} {s : State} {m : MethodId} {args : Array Value} {below : List Frame} {meth : Method} {c : Code} {Γ : Gm} {A : Nat → Prop} {G : Gs} {o : Nat} {r : Rec} {v1 : Int32} {s0 : Int32} {s1 : Int32} {q : (Rec × Int32)} {fin : Rec × Int32} (C : Cx p s m args meth c yX10_kindLine cX10_kindLine 2 (some .boolean) Γ A) (hk : kd Γ o = some 10) (hf : bX10_kindLine_58 r v1 s0 s1 = some q) (hq : (fun x => x = fin) q) : Wk p l e { frames := 4, cells := 0, slots := 0, locals := 92 } s m args below meth c Γ A (ug G o fin.1) (some (.int fin.2)) 58 2 [(1, .int v1)] [.int s0, .int s1, .ref (ad Γ o)] (ug G o r) := by
  intro H locs ls hw hS hl
  unfold bX10_kindLine_58 at hf
  obtain ⟨hx, hb, hml, hr, hown, htw, hlocks, hE⟩ := id C
  have hown : s.vm.findClass RX10 = some m.cls := hown
  refine lv_iload_n hx hb dX10_kindLine_58 rfl (lv_at hl 0 rfl) ?_
  refine lv_if_eq (tgt := 67) hx hb dX10_kindLine_59 (by decide) (fun c3 => ?_) (fun c3 => ?_)
  · have hf := ifp c3 hf
    refine lv_bipush (v := 10) hx hb dX10_kindLine_67 (by decide) ?_
    exact wX10_kindLine_69 C hk hf hq H locs ls hw hS hl
  · have hf := ifn c3 hf
    refine lv_bipush (v := 8) hx hb dX10_kindLine_62 (by decide) ?_
    refine lv_goto (tgt := 69) hx hb dX10_kindLine_64 (by decide) ?_
    exact wX10_kindLine_69 C hk hf hq H locs ls hw hS hl

noncomputable def bX10_kindLine_48 (r : Rec) (v1 : Int32) (s0 : Int32) : Option (Rec × Int32) :=
  if v1 = 0 then bX10_kindLine_58 r v1 27 s0 else bX10_kindLine_58 r v1 3 s0
set_option maxRecDepth 100000 in
set_option maxHeartbeats 4000000 in
theorem wX10_kindLine_48 {p : Program} {l : Launch} {e : Env} {s : State} {m : MethodId} {args : Array Value} {below : List Frame} {meth : Method} {c : Code} {Γ : Gm} {A : Nat → Prop} {G : Gs} {o : Nat} {r : Rec} {v1 : Int32} {s0 : Int32} {q : (Rec × Int32)} {fin : Rec × Int32} (C : Cx p s m args meth c yX10_kindLine cX10_kindLine 2 (some .boolean) Γ A) (hk : kd Γ o = some 10) (hf : bX10_kindLine_48 r v1 s0 = some q) (hq : (fun x => x = fin) q) : Wk p l e { frames := 4, cells := 0, slots := 0, locals := 92 } s m args below meth c Γ A (ug G o fin.1) (some (.int fin.2)) 48 2 [(1, .int v1)] [.int s0, .ref (ad Γ o)] (ug G o r) := by
  intro H locs ls hw hS hl
  unfold bX10_kindLine_48 at hf
  obtain ⟨hx, hb, hml, hr, hown, htw, hlocks, hE⟩ := id C
  have hown : s.vm.findClass RX10 = some m.cls := hown
  refine lv_iload_n hx hb dX10_kindLine_48 rfl (lv_at hl 0 rfl) ?_
  refine lv_if_eq (tgt := 56) hx hb dX10_kindLine_49 (by decide) (fun c4 => ?_) (fun c4 => ?_)
  · have hf := ifp c4 hf
    refine lv_bipush (v := 27) hx hb dX10_kindLine_56 (by decide) ?_
    exact wX10_kindLine_58 C hk hf hq H locs ls hw hS hl
  · have hf := ifn c4 hf
    refine lv_iconst (v := 3) hx hb dX10_kindLine_52 (by decide) ?_
    refine lv_goto (tgt := 58) hx hb dX10_kindLine_53 (by decide) ?_
    exact wX10_kindLine_58 C hk hf hq H locs ls hw hS hl

noncomputable def bX10_kindLine_30 (r : Rec) (v1 : Int32) (s0 : Int32) (s1 : Int32) (s2 : Int32) : Option (Rec × Int32) :=
  (fX10_take r s2 s1 s0).bind fun z5 => if z5.2 = 0 then some ((z5.1, 0)) else if v1 = 0 then bX10_kindLine_48 z5.1 v1 1 else bX10_kindLine_48 z5.1 v1 0
set_option maxRecDepth 100000 in
set_option maxHeartbeats 4000000 in
theorem wX10_kindLine_30 {p : Program} {l : Launch} {e : Env} {s : State} {m : MethodId} {args : Array Value} {below : List Frame} {meth : Method} {c : Code} {Γ : Gm} {A : Nat → Prop} {G : Gs} {o : Nat} {r : Rec} {v1 : Int32} {s0 : Int32} {s1 : Int32} {s2 : Int32} {q : (Rec × Int32)} {fin : Rec × Int32} (C : Cx p s m args meth c yX10_kindLine cX10_kindLine 2 (some .boolean) Γ A) (hk : kd Γ o = some 10) (hf : bX10_kindLine_30 r v1 s0 s1 s2 = some q) (hq : (fun x => x = fin) q) : Wk p l e { frames := 4, cells := 0, slots := 0, locals := 92 } s m args below meth c Γ A (ug G o fin.1) (some (.int fin.2)) 30 2 [(0, .ref (ad Γ o)), (1, .int v1)] [.int s0, .int s1, .int s2, .ref (ad Γ o)] (ug G o r) := by
  intro H locs ls hw hS hl
  unfold bX10_kindLine_30 at hf
  obtain ⟨hx, hb, hml, hr, hown, htw, hlocks, hE⟩ := id C
  have hown : s.vm.findClass RX10 = some m.cls := hown
  obtain ⟨z5, hz5, hf⟩ := bd hf
  refine cl_Vs (rest := []) (kX10_take (l := l) (Γ := Γ) (A := A) (G := G) (o := o) hk hz5) ⟨hx, hb, hml, hown, htw⟩ hE hw hS (wo_me hw hk) (q0 := 0) rfl rfl mw1486 mw1488 mw57 mw129 mw1489 pdX10_take ⟨Nat.le_of_ble_eq_true rfl, Nat.le_of_ble_eq_true rfl⟩ rfl rfl hl.1 (Nat.le_of_ble_eq_true rfl) dX10_kindLine_30 (fun H locs hw hS => ?_)
  refine lv_if_ne (tgt := 38) hx hb dX10_kindLine_33 (by decide) (fun c7 => ?_) (fun c7 => ?_)
  · have hf := ifn c7 hf
    refine lv_aload_n hx hb dX10_kindLine_38 rfl (lv_at hl 0 rfl) ?_
    refine lv_iload_n hx hb dX10_kindLine_39 rfl (lv_at hl 1 rfl) ?_
    refine lv_if_eq (tgt := 47) hx hb dX10_kindLine_40 (by decide) (fun c6 => ?_) (fun c6 => ?_)
    · have hf := ifp c6 hf
      refine lv_iconst (v := 1) hx hb dX10_kindLine_47 (by decide) ?_
      exact wX10_kindLine_48 C hk hf hq H locs ls hw hS (lv_sub hl [1] rfl)
    · have hf := ifn c6 hf
      refine lv_iconst (v := 0) hx hb dX10_kindLine_43 (by decide) ?_
      refine lv_goto (tgt := 48) hx hb dX10_kindLine_44 (by decide) ?_
      exact wX10_kindLine_48 C hk hf hq H locs ls hw hS (lv_sub hl [1] rfl)
  · have hf := ifp c7 hf
    refine lv_iconst (v := 0) hx hb dX10_kindLine_36 (by decide) ?_
    obtain rfl := Option.some.inj hf
    subst hq
    exact rt_z C (Or.inl rfl) hw hS dX10_kindLine_37

noncomputable def bX10_kindLine_19 (r : Rec) (v1 : Int32) (s0 : Int32) (s1 : Int32) : Option (Rec × Int32) :=
  if v1 = 0 then bX10_kindLine_30 r v1 30 s0 s1 else bX10_kindLine_30 r v1 9 s0 s1
set_option maxRecDepth 100000 in
set_option maxHeartbeats 4000000 in
theorem wX10_kindLine_19 {p : Program} {l : Launch} {e : Env} {s : State} {m : MethodId} {args : Array Value} {below : List Frame} {meth : Method} {c : Code} {Γ : Gm} {A : Nat → Prop} {G : Gs} {o : Nat} {r : Rec} {v1 : Int32} {s0 : Int32} {s1 : Int32} {q : (Rec × Int32)} {fin : Rec × Int32} (C : Cx p s m args meth c yX10_kindLine cX10_kindLine 2 (some .boolean) Γ A) (hk : kd Γ o = some 10) (hf : bX10_kindLine_19 r v1 s0 s1 = some q) (hq : (fun x => x = fin) q) : Wk p l e { frames := 4, cells := 0, slots := 0, locals := 92 } s m args below meth c Γ A (ug G o fin.1) (some (.int fin.2)) 19 2 [(0, .ref (ad Γ o)), (1, .int v1)] [.int s0, .int s1, .ref (ad Γ o)] (ug G o r) := by
  intro H locs ls hw hS hl
  unfold bX10_kindLine_19 at hf
  obtain ⟨hx, hb, hml, hr, hown, htw, hlocks, hE⟩ := id C
  have hown : s.vm.findClass RX10 = some m.cls := hown
  refine lv_iload_n hx hb dX10_kindLine_19 rfl (lv_at hl 1 rfl) ?_
  refine lv_if_eq (tgt := 28) hx hb dX10_kindLine_20 (by decide) (fun c8 => ?_) (fun c8 => ?_)
  · have hf := ifp c8 hf
    refine lv_bipush (v := 30) hx hb dX10_kindLine_28 (by decide) ?_
    exact wX10_kindLine_30 C hk hf hq H locs ls hw hS hl
  · have hf := ifn c8 hf
    refine lv_bipush (v := 9) hx hb dX10_kindLine_23 (by decide) ?_
    refine lv_goto (tgt := 30) hx hb dX10_kindLine_25 (by decide) ?_
    exact wX10_kindLine_30 C hk hf hq H locs ls hw hS hl

noncomputable def fX10_kindLine (r : Rec) (v1 : Int32) : Option (Rec × Int32) :=
  (fX10_takeKind r 0).bind fun z9 => if z9.2 = 0 then some ((z9.1, 0)) else if v1 = 0 then bX10_kindLine_19 z9.1 v1 1 1 else bX10_kindLine_19 z9.1 v1 0 1
set_option maxRecDepth 100000 in
set_option maxHeartbeats 4000000 in
theorem wX10_kindLine_e {p : Program} {l : Launch} {e : Env} {s : State} {m : MethodId} {args : Array Value} {below : List Frame} {meth : Method} {c : Code} {Γ : Gm} {A : Nat → Prop} {G : Gs} {o : Nat} {r : Rec} {v1 : Int32} {q : (Rec × Int32)} {fin : Rec × Int32} (C : Cx p s m args meth c yX10_kindLine cX10_kindLine 2 (some .boolean) Γ A) (hk : kd Γ o = some 10) (hf : fX10_kindLine r v1 = some q) (hq : (fun x => x = fin) q) : Wk p l e { frames := 4, cells := 0, slots := 0, locals := 92 } s m args below meth c Γ A (ug G o fin.1) (some (.int fin.2)) 0 2 [(0, .ref (ad Γ o)), (1, .int v1)] [] (ug G o r) := by
  intro H locs ls hw hS hl
  unfold fX10_kindLine at hf
  obtain ⟨hx, hb, hml, hr, hown, htw, hlocks, hE⟩ := id C
  have hown : s.vm.findClass RX10 = some m.cls := hown
  refine lv_aload_n hx hb dX10_kindLine_0 rfl (lv_at hl 0 rfl) ?_
  refine lv_iconst (v := 0) hx hb dX10_kindLine_1 (by decide) ?_
  obtain ⟨z9, hz9, hf⟩ := bd hf
  refine cl_Vs (rest := []) (kX10_takeKind (l := l) (Γ := Γ) (A := A) (G := G) (o := o) hk hz9) ⟨hx, hb, hml, hown, htw⟩ hE hw hS (wo_me hw hk) (q0 := 0) rfl rfl mw1478 mw1480 mw56 mw129 mw1481 pdX10_takeKind ⟨Nat.le_of_ble_eq_true rfl, Nat.le_of_ble_eq_true rfl⟩ rfl rfl hl.1 (Nat.le_of_ble_eq_true rfl) dX10_kindLine_2 (fun H locs hw hS => ?_)
  refine lv_if_eq (tgt := 36) hx hb dX10_kindLine_5 (by decide) (fun c11 => ?_) (fun c11 => ?_)
  · have hf := ifp c11 hf
    refine lv_iconst (v := 0) hx hb dX10_kindLine_36 (by decide) ?_
    obtain rfl := Option.some.inj hf
    subst hq
    exact rt_z C (Or.inl rfl) hw hS dX10_kindLine_37
  · have hf := ifn c11 hf
    refine lv_aload_n hx hb dX10_kindLine_8 rfl (lv_at hl 0 rfl) ?_
    refine lv_iconst (v := 1) hx hb dX10_kindLine_9 (by decide) ?_
    refine lv_iload_n hx hb dX10_kindLine_10 rfl (lv_at hl 1 rfl) ?_
    refine lv_if_eq (tgt := 18) hx hb dX10_kindLine_11 (by decide) (fun c10 => ?_) (fun c10 => ?_)
    · have hf := ifp c10 hf
      refine lv_iconst (v := 1) hx hb dX10_kindLine_18 (by decide) ?_
      exact wX10_kindLine_19 C hk hf hq H locs ls hw hS hl
    · have hf := ifn c10 hf
      refine lv_iconst (v := 0) hx hb dX10_kindLine_14 (by decide) ?_
      refine lv_goto (tgt := 19) hx hb dX10_kindLine_15 (by decide) ?_
      exact wX10_kindLine_19 C hk hf hq H locs ls hw hS hl

theorem kX10_kindLine {l : Launch} {Γ : Gm} {A : Nat → Prop} {G : Gs} {o : Nat} {r : Rec} {v1 : Int32} {fin : Rec × Int32} (hk : kd Γ o = some 10) (hf : fX10_kindLine r v1 = some fin) : Kt l yX10_kindLine cX10_kindLine 2 (some .boolean) 4 92 Γ A (ug G o r) (ug G o fin.1) [.ref (ad Γ o), .int v1] (some (.int fin.2)) :=
  kt_of (by decide) (Nat.le_of_ble_eq_true rfl) (fun p e s m args below meth c C => wX10_kindLine_e C hk hf rfl)
theorem kgX10_kindLine {l : Launch} {Γ : Gm} {A : Nat → Prop} {G : Gs} {o : Nat} {v1 : Int32} {fin : Rec × Int32} (hk : kd Γ o = some 10) (hf : fX10_kindLine (G o) v1 = some fin) : Kt l yX10_kindLine cX10_kindLine 2 (some .boolean) 4 92 Γ A G (ug G o fin.1) [.ref (ad Γ o), .int v1] (some (.int fin.2)) := by
  have h := kX10_kindLine (l := l) (A := A) (G := G) (r := G o) hk hf
  rw [ug_self] at h
  exact h
noncomputable def fX10_knowsLine (r : Rec) : Option (Rec × Int32) :=
  (fX10_takePiece r 0 (-1)).bind fun z1 => if z1.2 = 0 then some ((z1.1, 0)) else (fX10_takeSecret z1.1 1 (-1) (-1)).bind fun z2 => if z2.2 = 0 then some ((z2.1, 0)) else if (gi z2.1 24) = 0 then some ((z2.1, 1)) else (some (19 + (ga z2.1 20 (Int32.toNatClampNeg 0)))).bind fun x3 => gd (inR x3 161) (gd (inR x3 161) ((some (sa z2.1 19 (upd (ga z2.1 19) (Int32.toNatClampNeg x3) ((ga z2.1 19 (Int32.toNatClampNeg x3)) ||| ((1 : Int32) <<< ((ga z2.1 20 (Int32.toNatClampNeg 1)) &&& 31)))))).bind fun r6 => some ((r6, 1))))
set_option maxRecDepth 100000 in
set_option maxHeartbeats 4000000 in
theorem wX10_knowsLine_e {p : Program} {l : Launch} {e : Env} {s : State} {m : MethodId} {args : Array Value} {below : List Frame} {meth : Method} {c : Code} {Γ : Gm} {A : Nat → Prop} {G : Gs} {o : Nat} {r : Rec} {q : (Rec × Int32)} {fin : Rec × Int32} (C : Cx p s m args meth c yX10_knowsLine cX10_knowsLine 1 (some .boolean) Γ A) (hk : kd Γ o = some 10) (hf : fX10_knowsLine r = some q) (hq : (fun x => x = fin) q) : Wk p l e { frames := 4, cells := 0, slots := 0, locals := 92 } s m args below meth c Γ A (ug G o fin.1) (some (.int fin.2)) 0 1 [(0, .ref (ad Γ o))] [] (ug G o r) := by
  intro H locs ls hw hS hl
  unfold fX10_knowsLine at hf
  obtain ⟨hx, hb, hml, hr, hown, htw, hlocks, hE⟩ := id C
  have hown : s.vm.findClass RX10 = some m.cls := hown
  refine lv_aload_n hx hb dX10_knowsLine_0 rfl (lv_at hl 0 rfl) ?_
  refine lv_iconst (v := 0) hx hb dX10_knowsLine_1 (by decide) ?_
  refine lv_iconst (v := (-1)) hx hb dX10_knowsLine_2 (by decide) ?_
  obtain ⟨z1, hz1, hf⟩ := bd hf
  refine cl_Vs (rest := []) (kX10_takePiece (l := l) (Γ := Γ) (A := A) (G := G) (o := o) hk hz1) ⟨hx, hb, hml, hown, htw⟩ hE hw hS (wo_me hw hk) (q0 := 0) rfl rfl mw1459 mw1461 mw52 mw129 mw1462 pdX10_takePiece ⟨Nat.le_of_ble_eq_true rfl, Nat.le_of_ble_eq_true rfl⟩ rfl rfl hl.1 (Nat.le_of_ble_eq_true rfl) dX10_knowsLine_3 (fun H locs hw hS => ?_)
  refine lv_if_eq (tgt := 19) hx hb dX10_knowsLine_6 (by decide) (fun c9 => ?_) (fun c9 => ?_)
  · have hf := ifp c9 hf
    refine lv_iconst (v := 0) hx hb dX10_knowsLine_19 (by decide) ?_
    obtain rfl := Option.some.inj hf
    subst hq
    exact rt_z C (Or.inl rfl) hw hS dX10_knowsLine_20
  · have hf := ifn c9 hf
    refine lv_aload_n hx hb dX10_knowsLine_9 rfl (lv_at hl 0 rfl) ?_
    refine lv_iconst (v := 1) hx hb dX10_knowsLine_10 (by decide) ?_
    refine lv_iconst (v := (-1)) hx hb dX10_knowsLine_11 (by decide) ?_
    refine lv_iconst (v := (-1)) hx hb dX10_knowsLine_12 (by decide) ?_
    obtain ⟨z2, hz2, hf⟩ := bd hf
    refine cl_Vs (rest := []) (kX10_takeSecret (l := l) (Γ := Γ) (A := A) (G := G) (o := o) hk hz2) ⟨hx, hb, hml, hown, htw⟩ hE hw hS (wo_me hw hk) (q0 := 0) rfl rfl mw1470 mw1472 mw54 mw129 mw1473 pdX10_takeSecret ⟨Nat.le_of_ble_eq_true rfl, Nat.le_of_ble_eq_true rfl⟩ rfl rfl hl.1 (Nat.le_of_ble_eq_true rfl) dX10_knowsLine_13 (fun H locs hw hS => ?_)
    refine lv_if_ne (tgt := 21) hx hb dX10_knowsLine_16 (by decide) (fun c8 => ?_) (fun c8 => ?_)
    · have hf := ifn c8 hf
      refine lv_aload_n hx hb dX10_knowsLine_21 rfl (lv_at hl 0 rfl) ?_
      refine va_get (ci := 10) (v := .int (gi z2.1 24)) (C := RX10) (T := TX10) (N := 49) hx hb htw uwX10 hown hE.1 (wo_me hw hk) 0 rfl rfl 24 (by decide) (htw _ mw1267) (fun _ h9 => h9) rfl dX10_knowsLine_22 ?_
      refine lv_if_eq (tgt := 53) hx hb dX10_knowsLine_25 (by decide) (fun c7 => ?_) (fun c7 => ?_)
      · have hf := ifp c7 hf
        refine lv_iconst (v := 1) hx hb dX10_knowsLine_53 (by decide) ?_
        obtain rfl := Option.some.inj hf
        subst hq
        exact rt_z C (Or.inr rfl) hw hS dX10_knowsLine_54
      · have hf := ifn c7 hf
        refine lv_aload_n hx hb dX10_knowsLine_28 rfl (lv_at hl 0 rfl) ?_
        refine va_get (ci := 10) (v := .ref (aa Γ o 19)) (C := RX10) (T := TX10) (N := 49) hx hb htw uwX10 hown hE.1 (wo_me hw hk) 0 rfl rfl 19 (by decide) (htw _ mw1262) (fun _ h9 => h9) rfl dX10_knowsLine_29 ?_
        refine lv_bipush (v := 19) hx hb dX10_knowsLine_32 (by decide) ?_
        refine lv_aload_n hx hb dX10_knowsLine_34 rfl (lv_at hl 0 rfl) ?_
        refine va_get (ci := 10) (v := .ref (aa Γ o 20)) (C := RX10) (T := TX10) (N := 49) hx hb htw uwX10 hown hE.1 (wo_me hw hk) 0 rfl rfl 20 (by decide) (htw _ mw1263) (fun _ h9 => h9) rfl dX10_knowsLine_35 ?_
        refine lv_iconst (v := 0) hx hb dX10_knowsLine_38 (by decide) ?_
        refine va_iald hx hb hE.1 (wo_me hw hk) 11 0 rfl rfl (inR_in (i := 0) (n := 4) (by decide)) dX10_knowsLine_39 ?_
        refine lv_iadd hx hb dX10_knowsLine_40 ?_
        obtain ⟨x3, hx3, hf⟩ := bd hf
        have hx3 := Option.some.inj hx3
        refine tp1i hx3 ?_
        refine lv_dup2_11 hx hb dX10_knowsLine_41 rfl rfl ?_
        obtain ⟨g4, hf⟩ := gd_some hf
        refine va_iald hx hb hE.1 (wo_me hw hk) 10 0 rfl rfl (inR_in g4) dX10_knowsLine_42 ?_
        refine lv_iconst (v := 1) hx hb dX10_knowsLine_43 (by decide) ?_
        refine lv_aload_n hx hb dX10_knowsLine_44 rfl (lv_at hl 0 rfl) ?_
        refine va_get (ci := 10) (v := .ref (aa Γ o 20)) (C := RX10) (T := TX10) (N := 49) hx hb htw uwX10 hown hE.1 (wo_me hw hk) 0 rfl rfl 20 (by decide) (htw _ mw1263) (fun _ h9 => h9) rfl dX10_knowsLine_45 ?_
        refine lv_iconst (v := 1) hx hb dX10_knowsLine_48 (by decide) ?_
        refine va_iald hx hb hE.1 (wo_me hw hk) 11 0 rfl rfl (inR_in (i := 1) (n := 4) (by decide)) dX10_knowsLine_49 ?_
        refine lv_ishl hx hb dX10_knowsLine_50 ?_
        refine lv_ior hx hb dX10_knowsLine_51 ?_
        obtain ⟨g5, hf⟩ := gd_some hf
        obtain ⟨r6, hr6, hf⟩ := bd hf
        have hr6 := Option.some.inj hr6
        refine wo_iast hx hb hE hw hS hk (q0 := 10) rfl (inR_in g5) (sa10_19 hr6) dX10_knowsLine_52 (fun H locs hw hS => ?_)
        refine lv_iconst (v := 1) hx hb dX10_knowsLine_53 (by decide) ?_
        obtain rfl := Option.some.inj hf
        subst hq
        exact rt_z C (Or.inr rfl) hw hS dX10_knowsLine_54
    · have hf := ifp c8 hf
      refine lv_iconst (v := 0) hx hb dX10_knowsLine_19 (by decide) ?_
      obtain rfl := Option.some.inj hf
      subst hq
      exact rt_z C (Or.inl rfl) hw hS dX10_knowsLine_20

theorem kX10_knowsLine {l : Launch} {Γ : Gm} {A : Nat → Prop} {G : Gs} {o : Nat} {r : Rec} {fin : Rec × Int32} (hk : kd Γ o = some 10) (hf : fX10_knowsLine r = some fin) : Kt l yX10_knowsLine cX10_knowsLine 1 (some .boolean) 4 92 Γ A (ug G o r) (ug G o fin.1) [.ref (ad Γ o)] (some (.int fin.2)) :=
  kt_of (by decide) (Nat.le_of_ble_eq_true rfl) (fun p e s m args below meth c C => wX10_knowsLine_e C hk hf rfl)
theorem kgX10_knowsLine {l : Launch} {Γ : Gm} {A : Nat → Prop} {G : Gs} {o : Nat} {fin : Rec × Int32} (hk : kd Γ o = some 10) (hf : fX10_knowsLine (G o) = some fin) : Kt l yX10_knowsLine cX10_knowsLine 1 (some .boolean) 4 92 Γ A G (ug G o fin.1) [.ref (ad Γ o)] (some (.int fin.2)) := by
  have h := kX10_knowsLine (l := l) (A := A) (G := G) (r := G o) hk hf
  rw [ug_self] at h
  exact h
noncomputable def bX10_houseLine_129 (r : Rec) (s0 : Int32) : Option (Rec × Int32) :=
  (fX10_kindLine r s0).bind fun z1 => gd (isB z1.2) (some ((z1.1, z1.2)))
set_option maxRecDepth 100000 in
set_option maxHeartbeats 4000000 in
theorem wX10_houseLine_129 {p : Program} {l : Launch} {e : Env} {s : State} {m : MethodId} {args : Array Value} {below : List Frame} {meth : Method} {c : Code} {Γ : Gm} {A : Nat → Prop} {G : Gs} {o : Nat} {r : Rec} {s0 : Int32} {q : (Rec × Int32)} {fin : Rec × Int32} (C : Cx p s m args meth c yX10_houseLine cX10_houseLine 4 (some .boolean) Γ A) (hk : kd Γ o = some 10) (hf : bX10_houseLine_129 r s0 = some q) (hq : (fun x => x = fin) q) : Wk p l e { frames := 5, cells := 0, slots := 0, locals := 113 } s m args below meth c Γ A (ug G o fin.1) (some (.int fin.2)) 129 4 [] [.int s0, .ref (ad Γ o)] (ug G o r) := by
  intro H locs ls hw hS hl
  unfold bX10_houseLine_129 at hf
  obtain ⟨hx, hb, hml, hr, hown, htw, hlocks, hE⟩ := id C
  have hown : s.vm.findClass RX10 = some m.cls := hown
  obtain ⟨z1, hz1, hf⟩ := bd hf
  refine cl_Vs (rest := []) (kX10_kindLine (l := l) (Γ := Γ) (A := A) (G := G) (o := o) hk hz1) ⟨hx, hb, hml, hown, htw⟩ hE hw hS (wo_me hw hk) (q0 := 0) rfl rfl mw1474 mw1476 mw55 mw129 mw1477 pdX10_kindLine ⟨Nat.le_of_ble_eq_true rfl, Nat.le_of_ble_eq_true rfl⟩ rfl rfl hl.1 (Nat.le_of_ble_eq_true rfl) dX10_houseLine_129 (fun H locs hw hS => ?_)
  obtain ⟨g2, hf⟩ := gd_some hf
  obtain rfl := Option.some.inj hf
  subst hq
  exact rt_z C (isB_or g2) hw hS dX10_houseLine_132

noncomputable def bX10_houseLine_90 (r : Rec) (v1 : Int64) : Option (Rec × Int32) :=
  (fX10_token r).bind fun z3 => if (lg_cmp v1 461414299507) = 0 then (fX10_knowsLine z3).bind fun z13 => gd (isB z13.2) (some ((z13.1, z13.2))) else if (lg_cmp v1 1818848875) = 0 then (fX10_takeSecret z3 0 (-1) (-1)).bind fun z4 => if z4.2 = 0 then some ((z4.1, 0)) else (fX10_takeSecret z4.1 1 (ga z4.1 20 (Int32.toNatClampNeg 0)) (-1)).bind fun z5 => if z5.2 = 0 then some ((z5.1, 0)) else (fX10_takeSecret z5.1 2 (ga z5.1 20 (Int32.toNatClampNeg 0)) (ga z5.1 20 (Int32.toNatClampNeg 1))).bind fun z6 => if z6.2 = 0 then some ((z6.1, 0)) else (fX10_keep z6.1 2 47 8 3 8).bind fun z7 => some ((z7, 1)) else if (lg_cmp v1 482804589413) = 0 then bX10_houseLine_129 z3 1 else bX10_houseLine_129 z3 0
set_option maxRecDepth 100000 in
set_option maxHeartbeats 4000000 in
theorem wX10_houseLine_90 {p : Program} {l : Launch} {e : Env} {s : State} {m : MethodId} {args : Array Value} {below : List Frame} {meth : Method} {c : Code} {Γ : Gm} {A : Nat → Prop} {G : Gs} {o : Nat} {r : Rec} {v1 : Int64} {q : (Rec × Int32)} {fin : Rec × Int32} (C : Cx p s m args meth c yX10_houseLine cX10_houseLine 4 (some .boolean) Γ A) (hk : kd Γ o = some 10) (hf : bX10_houseLine_90 r v1 = some q) (hq : (fun x => x = fin) q) : Wk p l e { frames := 5, cells := 0, slots := 0, locals := 113 } s m args below meth c Γ A (ug G o fin.1) (some (.int fin.2)) 90 4 [(0, .ref (ad Γ o)), (1, .long v1)] [] (ug G o r) := by
  intro H locs ls hw hS hl
  unfold bX10_houseLine_90 at hf
  obtain ⟨hx, hb, hml, hr, hown, htw, hlocks, hE⟩ := id C
  have hown : s.vm.findClass RX10 = some m.cls := hown
  refine lv_aload_n hx hb dX10_houseLine_90 rfl (lv_at hl 0 rfl) ?_
  obtain ⟨z3, hz3, hf⟩ := bd hf
  refine cl_Vv (rest := []) (kX10_token (l := l) (Γ := Γ) (A := A) (G := G) (o := o) hk hz3) ⟨hx, hb, hml, hown, htw⟩ hE hw hS (wo_me hw hk) (q0 := 0) rfl rfl mw1419 mw1421 mw43 mw129 mw1422 pdX10_token ⟨Nat.le_of_ble_eq_true rfl, Nat.le_of_ble_eq_true rfl⟩ rfl rfl hl.1 (Nat.le_of_ble_eq_true rfl) dX10_houseLine_91 (fun H locs hw hS => ?_)
  refine lv_lload_n hx hb dX10_houseLine_94 rfl (lv_at hl 1 rfl) ?_
  refine lv_ldc2 hx hb hown (htw _ mw1441) dX10_houseLine_95 ?_
  refine W.lcmp hx hb dX10_houseLine_98 ?_
  refine lv_if_ne (tgt := 107) hx hb dX10_houseLine_99 (by decide) (fun c15 => ?_) (fun c15 => ?_)
  · have hf := ifn c15 hf
    refine lv_lload_n hx hb dX10_houseLine_107 rfl (lv_at hl 1 rfl) ?_
    refine lv_ldc2 hx hb hown (htw _ mw1442) dX10_houseLine_108 ?_
    refine W.lcmp hx hb dX10_houseLine_111 ?_
    refine lv_if_eq (tgt := 133) hx hb dX10_houseLine_112 (by decide) (fun c12 => ?_) (fun c12 => ?_)
    · have hf := ifp c12 hf
      refine lv_aload_n hx hb dX10_houseLine_133 rfl (lv_at hl 0 rfl) ?_
      refine lv_iconst (v := 0) hx hb dX10_houseLine_134 (by decide) ?_
      refine lv_iconst (v := (-1)) hx hb dX10_houseLine_135 (by decide) ?_
      refine lv_iconst (v := (-1)) hx hb dX10_houseLine_136 (by decide) ?_
      obtain ⟨z4, hz4, hf⟩ := bd hf
      refine cl_Vs (rest := []) (kX10_takeSecret (l := l) (Γ := Γ) (A := A) (G := G) (o := o) hk hz4) ⟨hx, hb, hml, hown, htw⟩ hE hw hS (wo_me hw hk) (q0 := 0) rfl rfl mw1470 mw1472 mw54 mw129 mw1473 pdX10_takeSecret ⟨Nat.le_of_ble_eq_true rfl, Nat.le_of_ble_eq_true rfl⟩ rfl rfl hl.1 (Nat.le_of_ble_eq_true rfl) dX10_houseLine_137 (fun H locs hw hS => ?_)
      refine lv_if_eq (tgt := 178) hx hb dX10_houseLine_140 (by decide) (fun c10 => ?_) (fun c10 => ?_)
      · have hf := ifp c10 hf
        refine lv_iconst (v := 0) hx hb dX10_houseLine_178 (by decide) ?_
        obtain rfl := Option.some.inj hf
        subst hq
        exact rt_z C (Or.inl rfl) hw hS dX10_houseLine_179
      · have hf := ifn c10 hf
        refine lv_aload_n hx hb dX10_houseLine_143 rfl (lv_at hl 0 rfl) ?_
        refine lv_iconst (v := 1) hx hb dX10_houseLine_144 (by decide) ?_
        refine lv_aload_n hx hb dX10_houseLine_145 rfl (lv_at hl 0 rfl) ?_
        refine va_get (ci := 10) (v := .ref (aa Γ o 20)) (C := RX10) (T := TX10) (N := 49) hx hb htw uwX10 hown hE.1 (wo_me hw hk) 0 rfl rfl 20 (by decide) (htw _ mw1263) (fun _ h9 => h9) rfl dX10_houseLine_146 ?_
        refine lv_iconst (v := 0) hx hb dX10_houseLine_149 (by decide) ?_
        refine va_iald hx hb hE.1 (wo_me hw hk) 11 0 rfl rfl (inR_in (i := 0) (n := 4) (by decide)) dX10_houseLine_150 ?_
        refine lv_iconst (v := (-1)) hx hb dX10_houseLine_151 (by decide) ?_
        obtain ⟨z5, hz5, hf⟩ := bd hf
        refine cl_Vs (rest := []) (kX10_takeSecret (l := l) (Γ := Γ) (A := A) (G := G) (o := o) hk hz5) ⟨hx, hb, hml, hown, htw⟩ hE hw hS (wo_me hw hk) (q0 := 0) rfl rfl mw1470 mw1472 mw54 mw129 mw1473 pdX10_takeSecret ⟨Nat.le_of_ble_eq_true rfl, Nat.le_of_ble_eq_true rfl⟩ rfl rfl hl.1 (Nat.le_of_ble_eq_true rfl) dX10_houseLine_152 (fun H locs hw hS => ?_)
        refine lv_if_eq (tgt := 178) hx hb dX10_houseLine_155 (by decide) (fun c9 => ?_) (fun c9 => ?_)
        · have hf := ifp c9 hf
          refine lv_iconst (v := 0) hx hb dX10_houseLine_178 (by decide) ?_
          obtain rfl := Option.some.inj hf
          subst hq
          exact rt_z C (Or.inl rfl) hw hS dX10_houseLine_179
        · have hf := ifn c9 hf
          refine lv_aload_n hx hb dX10_houseLine_158 rfl (lv_at hl 0 rfl) ?_
          refine lv_iconst (v := 2) hx hb dX10_houseLine_159 (by decide) ?_
          refine lv_aload_n hx hb dX10_houseLine_160 rfl (lv_at hl 0 rfl) ?_
          refine va_get (ci := 10) (v := .ref (aa Γ o 20)) (C := RX10) (T := TX10) (N := 49) hx hb htw uwX10 hown hE.1 (wo_me hw hk) 0 rfl rfl 20 (by decide) (htw _ mw1263) (fun _ h9 => h9) rfl dX10_houseLine_161 ?_
          refine lv_iconst (v := 0) hx hb dX10_houseLine_164 (by decide) ?_
          refine va_iald hx hb hE.1 (wo_me hw hk) 11 0 rfl rfl (inR_in (i := 0) (n := 4) (by decide)) dX10_houseLine_165 ?_
          refine lv_aload_n hx hb dX10_houseLine_166 rfl (lv_at hl 0 rfl) ?_
          refine va_get (ci := 10) (v := .ref (aa Γ o 20)) (C := RX10) (T := TX10) (N := 49) hx hb htw uwX10 hown hE.1 (wo_me hw hk) 0 rfl rfl 20 (by decide) (htw _ mw1263) (fun _ h9 => h9) rfl dX10_houseLine_167 ?_
          refine lv_iconst (v := 1) hx hb dX10_houseLine_170 (by decide) ?_
          refine va_iald hx hb hE.1 (wo_me hw hk) 11 0 rfl rfl (inR_in (i := 1) (n := 4) (by decide)) dX10_houseLine_171 ?_
          obtain ⟨z6, hz6, hf⟩ := bd hf
          refine cl_Vs (rest := []) (kX10_takeSecret (l := l) (Γ := Γ) (A := A) (G := G) (o := o) hk hz6) ⟨hx, hb, hml, hown, htw⟩ hE hw hS (wo_me hw hk) (q0 := 0) rfl rfl mw1470 mw1472 mw54 mw129 mw1473 pdX10_takeSecret ⟨Nat.le_of_ble_eq_true rfl, Nat.le_of_ble_eq_true rfl⟩ rfl rfl hl.1 (Nat.le_of_ble_eq_true rfl) dX10_houseLine_172 (fun H locs hw hS => ?_)
          refine lv_if_ne (tgt := 180) hx hb dX10_houseLine_175 (by decide) (fun c8 => ?_) (fun c8 => ?_)
          · have hf := ifn c8 hf
            refine lv_aload_n hx hb dX10_houseLine_180 rfl (lv_at hl 0 rfl) ?_
            refine lv_iconst (v := 2) hx hb dX10_houseLine_181 (by decide) ?_
            refine lv_bipush (v := 47) hx hb dX10_houseLine_182 (by decide) ?_
            refine lv_bipush (v := 8) hx hb dX10_houseLine_184 (by decide) ?_
            refine lv_iconst (v := 3) hx hb dX10_houseLine_186 (by decide) ?_
            refine lv_bipush (v := 8) hx hb dX10_houseLine_187 (by decide) ?_
            obtain ⟨z7, hz7, hf⟩ := bd hf
            refine cl_Vv (rest := []) (kX10_keep (l := l) (Γ := Γ) (A := A) (G := G) (o := o) hk hz7) ⟨hx, hb, hml, hown, htw⟩ hE hw hS (wo_me hw hk) (q0 := 0) rfl rfl mw1490 mw1492 mw58 mw129 mw1493 pdX10_keep ⟨Nat.le_of_ble_eq_true rfl, Nat.le_of_ble_eq_true rfl⟩ rfl rfl hl.1 (Nat.le_of_ble_eq_true rfl) dX10_houseLine_189 (fun H locs hw hS => ?_)
            refine lv_iconst (v := 1) hx hb dX10_houseLine_192 (by decide) ?_
            obtain rfl := Option.some.inj hf
            subst hq
            exact rt_z C (Or.inr rfl) hw hS dX10_houseLine_193
          · have hf := ifp c8 hf
            refine lv_iconst (v := 0) hx hb dX10_houseLine_178 (by decide) ?_
            obtain rfl := Option.some.inj hf
            subst hq
            exact rt_z C (Or.inl rfl) hw hS dX10_houseLine_179
    · have hf := ifn c12 hf
      refine lv_aload_n hx hb dX10_houseLine_115 rfl (lv_at hl 0 rfl) ?_
      refine lv_lload_n hx hb dX10_houseLine_116 rfl (lv_at hl 1 rfl) ?_
      refine lv_ldc2 hx hb hown (htw _ mw1439) dX10_houseLine_117 ?_
      refine W.lcmp hx hb dX10_houseLine_120 ?_
      refine lv_if_ne (tgt := 128) hx hb dX10_houseLine_121 (by decide) (fun c11 => ?_) (fun c11 => ?_)
      · have hf := ifn c11 hf
        refine lv_iconst (v := 0) hx hb dX10_houseLine_128 (by decide) ?_
        exact wX10_houseLine_129 C hk hf hq H locs ls hw hS (lv_sub hl [] rfl)
      · have hf := ifp c11 hf
        refine lv_iconst (v := 1) hx hb dX10_houseLine_124 (by decide) ?_
        refine lv_goto (tgt := 129) hx hb dX10_houseLine_125 (by decide) ?_
        exact wX10_houseLine_129 C hk hf hq H locs ls hw hS (lv_sub hl [] rfl)
  · have hf := ifp c15 hf
    refine lv_aload_n hx hb dX10_houseLine_102 rfl (lv_at hl 0 rfl) ?_
    obtain ⟨z13, hz13, hf⟩ := bd hf
    refine cl_Vs (rest := []) (kX10_knowsLine (l := l) (Γ := Γ) (A := A) (G := G) (o := o) hk hz13) ⟨hx, hb, hml, hown, htw⟩ hE hw hS (wo_me hw hk) (q0 := 0) rfl rfl mw1455 mw1457 mw51 mw129 mw1458 pdX10_knowsLine ⟨Nat.le_of_ble_eq_true rfl, Nat.le_of_ble_eq_true rfl⟩ rfl rfl hl.1 (Nat.le_of_ble_eq_true rfl) dX10_houseLine_103 (fun H locs hw hS => ?_)
    obtain ⟨g14, hf⟩ := gd_some hf
    obtain rfl := Option.some.inj hf
    subst hq
    exact rt_z C (isB_or g14) hw hS dX10_houseLine_106

noncomputable def bX10_houseLine_86 (r : Rec) (v1 : Int64) (v3 : Int32) (s0 : Int32) (s1 : Int32) : Option (Rec × Int32) :=
  (fX10_full r s1 s0 v3).bind fun z16 => bX10_houseLine_90 z16 v1
set_option maxRecDepth 100000 in
set_option maxHeartbeats 4000000 in
theorem wX10_houseLine_86 {p : Program} {l : Launch} {e : Env} {s : State} {m : MethodId} {args : Array Value} {below : List Frame} {meth : Method} {c : Code} {Γ : Gm} {A : Nat → Prop} {G : Gs} {o : Nat} {r : Rec} {v1 : Int64} {v3 : Int32} {s0 : Int32} {s1 : Int32} {q : (Rec × Int32)} {fin : Rec × Int32} (C : Cx p s m args meth c yX10_houseLine cX10_houseLine 4 (some .boolean) Γ A) (hk : kd Γ o = some 10) (hf : bX10_houseLine_86 r v1 v3 s0 s1 = some q) (hq : (fun x => x = fin) q) : Wk p l e { frames := 5, cells := 0, slots := 0, locals := 113 } s m args below meth c Γ A (ug G o fin.1) (some (.int fin.2)) 86 4 [(0, .ref (ad Γ o)), (1, .long v1), (3, .int v3)] [.int s0, .int s1, .ref (ad Γ o)] (ug G o r) := by
  intro H locs ls hw hS hl
  unfold bX10_houseLine_86 at hf
  obtain ⟨hx, hb, hml, hr, hown, htw, hlocks, hE⟩ := id C
  have hown : s.vm.findClass RX10 = some m.cls := hown
  refine lv_iload_n hx hb dX10_houseLine_86 rfl (lv_at hl 2 rfl) ?_
  obtain ⟨z16, hz16, hf⟩ := bd hf
  refine cl_Vv (rest := []) (kX10_full (l := l) (Γ := Γ) (A := A) (G := G) (o := o) hk hz16) ⟨hx, hb, hml, hown, htw⟩ hE hw hS (wo_me hw hk) (q0 := 0) rfl rfl mw1447 mw1449 mw49 mw129 mw1450 pdX10_full ⟨Nat.le_of_ble_eq_true rfl, Nat.le_of_ble_eq_true rfl⟩ rfl rfl hl.1 (Nat.le_of_ble_eq_true rfl) dX10_houseLine_87 (fun H locs hw hS => ?_)
  exact wX10_houseLine_90 C hk hf hq H locs ls hw hS (lv_sub hl [0, 1] rfl)

noncomputable def bX10_houseLine_71 (r : Rec) (v1 : Int64) (v3 : Int32) (s0 : Int32) : Option (Rec × Int32) :=
  if (lg_cmp v1 126879297332596) = 0 then bX10_houseLine_86 r v1 v3 10 s0 else bX10_houseLine_86 r v1 v3 8 s0
set_option maxRecDepth 100000 in
set_option maxHeartbeats 4000000 in
theorem wX10_houseLine_71 {p : Program} {l : Launch} {e : Env} {s : State} {m : MethodId} {args : Array Value} {below : List Frame} {meth : Method} {c : Code} {Γ : Gm} {A : Nat → Prop} {G : Gs} {o : Nat} {r : Rec} {v1 : Int64} {v3 : Int32} {s0 : Int32} {q : (Rec × Int32)} {fin : Rec × Int32} (C : Cx p s m args meth c yX10_houseLine cX10_houseLine 4 (some .boolean) Γ A) (hk : kd Γ o = some 10) (hf : bX10_houseLine_71 r v1 v3 s0 = some q) (hq : (fun x => x = fin) q) : Wk p l e { frames := 5, cells := 0, slots := 0, locals := 113 } s m args below meth c Γ A (ug G o fin.1) (some (.int fin.2)) 71 4 [(0, .ref (ad Γ o)), (1, .long v1), (3, .int v3)] [.int s0, .ref (ad Γ o)] (ug G o r) := by
  intro H locs ls hw hS hl
  unfold bX10_houseLine_71 at hf
  obtain ⟨hx, hb, hml, hr, hown, htw, hlocks, hE⟩ := id C
  have hown : s.vm.findClass RX10 = some m.cls := hown
  refine lv_lload_n hx hb dX10_houseLine_71 rfl (lv_at hl 1 rfl) ?_
  refine lv_ldc2 hx hb hown (htw _ mw1440) dX10_houseLine_72 ?_
  refine W.lcmp hx hb dX10_houseLine_75 ?_
  refine lv_if_ne (tgt := 84) hx hb dX10_houseLine_76 (by decide) (fun c17 => ?_) (fun c17 => ?_)
  · have hf := ifn c17 hf
    refine lv_bipush (v := 8) hx hb dX10_houseLine_84 (by decide) ?_
    exact wX10_houseLine_86 C hk hf hq H locs ls hw hS hl
  · have hf := ifp c17 hf
    refine lv_bipush (v := 10) hx hb dX10_houseLine_79 (by decide) ?_
    refine lv_goto (tgt := 86) hx hb dX10_houseLine_81 (by decide) ?_
    exact wX10_houseLine_86 C hk hf hq H locs ls hw hS hl

noncomputable def bX10_houseLine_37 (r : Rec) (v1 : Int64) (v3 : Int32) : Option (Rec × Int32) :=
  if (lg_cmp v1 461414299507) = 0 then bX10_houseLine_90 r v1 else if (lg_cmp v1 482804589413) = 0 then bX10_houseLine_71 r v1 v3 0 else if (lg_cmp v1 126879297332596) = 0 then bX10_houseLine_71 r v1 v3 1 else bX10_houseLine_71 r v1 v3 2
set_option maxRecDepth 100000 in
set_option maxHeartbeats 4000000 in
theorem wX10_houseLine_37 {p : Program} {l : Launch} {e : Env} {s : State} {m : MethodId} {args : Array Value} {below : List Frame} {meth : Method} {c : Code} {Γ : Gm} {A : Nat → Prop} {G : Gs} {o : Nat} {r : Rec} {v1 : Int64} {v3 : Int32} {q : (Rec × Int32)} {fin : Rec × Int32} (C : Cx p s m args meth c yX10_houseLine cX10_houseLine 4 (some .boolean) Γ A) (hk : kd Γ o = some 10) (hf : bX10_houseLine_37 r v1 v3 = some q) (hq : (fun x => x = fin) q) : Wk p l e { frames := 5, cells := 0, slots := 0, locals := 113 } s m args below meth c Γ A (ug G o fin.1) (some (.int fin.2)) 37 4 [(0, .ref (ad Γ o)), (1, .long v1), (3, .int v3)] [] (ug G o r) := by
  intro H locs ls hw hS hl
  unfold bX10_houseLine_37 at hf
  obtain ⟨hx, hb, hml, hr, hown, htw, hlocks, hE⟩ := id C
  have hown : s.vm.findClass RX10 = some m.cls := hown
  refine lv_lload_n hx hb dX10_houseLine_37 rfl (lv_at hl 1 rfl) ?_
  refine lv_ldc2 hx hb hown (htw _ mw1441) dX10_houseLine_38 ?_
  refine W.lcmp hx hb dX10_houseLine_41 ?_
  refine lv_if_eq (tgt := 90) hx hb dX10_houseLine_42 (by decide) (fun c20 => ?_) (fun c20 => ?_)
  · have hf := ifp c20 hf
    exact wX10_houseLine_90 C hk hf hq H locs ls hw hS (lv_sub hl [0, 1] rfl)
  · have hf := ifn c20 hf
    refine lv_aload_n hx hb dX10_houseLine_45 rfl (lv_at hl 0 rfl) ?_
    refine lv_lload_n hx hb dX10_houseLine_46 rfl (lv_at hl 1 rfl) ?_
    refine lv_ldc2 hx hb hown (htw _ mw1439) dX10_houseLine_47 ?_
    refine W.lcmp hx hb dX10_houseLine_50 ?_
    refine lv_if_ne (tgt := 58) hx hb dX10_houseLine_51 (by decide) (fun c19 => ?_) (fun c19 => ?_)
    · have hf := ifn c19 hf
      refine lv_lload_n hx hb dX10_houseLine_58 rfl (lv_at hl 1 rfl) ?_
      refine lv_ldc2 hx hb hown (htw _ mw1440) dX10_houseLine_59 ?_
      refine W.lcmp hx hb dX10_houseLine_62 ?_
      refine lv_if_ne (tgt := 70) hx hb dX10_houseLine_63 (by decide) (fun c18 => ?_) (fun c18 => ?_)
      · have hf := ifn c18 hf
        refine lv_iconst (v := 2) hx hb dX10_houseLine_70 (by decide) ?_
        exact wX10_houseLine_71 C hk hf hq H locs ls hw hS hl
      · have hf := ifp c18 hf
        refine lv_iconst (v := 1) hx hb dX10_houseLine_66 (by decide) ?_
        refine lv_goto (tgt := 71) hx hb dX10_houseLine_67 (by decide) ?_
        exact wX10_houseLine_71 C hk hf hq H locs ls hw hS hl
    · have hf := ifp c19 hf
      refine lv_iconst (v := 0) hx hb dX10_houseLine_54 (by decide) ?_
      refine lv_goto (tgt := 71) hx hb dX10_houseLine_55 (by decide) ?_
      exact wX10_houseLine_71 C hk hf hq H locs ls hw hS hl

noncomputable def fX10_houseLine (r : Rec) (v1 : Int64) (v3 : Int32) : Option (Rec × Int32) :=
  if (lg_cmp v1 482804589413) = 0 then bX10_houseLine_37 r v1 v3 else if (lg_cmp v1 126879297332596) = 0 then bX10_houseLine_37 r v1 v3 else if (lg_cmp v1 461414299507) = 0 then bX10_houseLine_37 r v1 v3 else if (lg_cmp v1 1818848875) = 0 then bX10_houseLine_37 r v1 v3 else (fX10_fails r).bind fun z21 => gd (isB z21.2) (some ((z21.1, z21.2)))
set_option maxRecDepth 100000 in
set_option maxHeartbeats 4000000 in
theorem wX10_houseLine_e {p : Program} {l : Launch} {e : Env} {s : State} {m : MethodId} {args : Array Value} {below : List Frame} {meth : Method} {c : Code} {Γ : Gm} {A : Nat → Prop} {G : Gs} {o : Nat} {r : Rec} {v1 : Int64} {v3 : Int32} {q : (Rec × Int32)} {fin : Rec × Int32} (C : Cx p s m args meth c yX10_houseLine cX10_houseLine 4 (some .boolean) Γ A) (hk : kd Γ o = some 10) (hf : fX10_houseLine r v1 v3 = some q) (hq : (fun x => x = fin) q) : Wk p l e { frames := 5, cells := 0, slots := 0, locals := 113 } s m args below meth c Γ A (ug G o fin.1) (some (.int fin.2)) 0 4 [(0, .ref (ad Γ o)), (1, .long v1), (3, .int v3)] [] (ug G o r) := by
  intro H locs ls hw hS hl
  unfold fX10_houseLine at hf
  obtain ⟨hx, hb, hml, hr, hown, htw, hlocks, hE⟩ := id C
  have hown : s.vm.findClass RX10 = some m.cls := hown
  refine lv_lload_n hx hb dX10_houseLine_0 rfl (lv_at hl 1 rfl) ?_
  refine lv_ldc2 hx hb hown (htw _ mw1439) dX10_houseLine_1 ?_
  refine W.lcmp hx hb dX10_houseLine_4 ?_
  refine lv_if_eq (tgt := 37) hx hb dX10_houseLine_5 (by decide) (fun c26 => ?_) (fun c26 => ?_)
  · have hf := ifp c26 hf
    exact wX10_houseLine_37 C hk hf hq H locs ls hw hS hl
  · have hf := ifn c26 hf
    refine lv_lload_n hx hb dX10_houseLine_8 rfl (lv_at hl 1 rfl) ?_
    refine lv_ldc2 hx hb hown (htw _ mw1440) dX10_houseLine_9 ?_
    refine W.lcmp hx hb dX10_houseLine_12 ?_
    refine lv_if_eq (tgt := 37) hx hb dX10_houseLine_13 (by decide) (fun c25 => ?_) (fun c25 => ?_)
    · have hf := ifp c25 hf
      exact wX10_houseLine_37 C hk hf hq H locs ls hw hS hl
    · have hf := ifn c25 hf
      refine lv_lload_n hx hb dX10_houseLine_16 rfl (lv_at hl 1 rfl) ?_
      refine lv_ldc2 hx hb hown (htw _ mw1441) dX10_houseLine_17 ?_
      refine W.lcmp hx hb dX10_houseLine_20 ?_
      refine lv_if_eq (tgt := 37) hx hb dX10_houseLine_21 (by decide) (fun c24 => ?_) (fun c24 => ?_)
      · have hf := ifp c24 hf
        exact wX10_houseLine_37 C hk hf hq H locs ls hw hS hl
      · have hf := ifn c24 hf
        refine lv_lload_n hx hb dX10_houseLine_24 rfl (lv_at hl 1 rfl) ?_
        refine lv_ldc2 hx hb hown (htw _ mw1442) dX10_houseLine_25 ?_
        refine W.lcmp hx hb dX10_houseLine_28 ?_
        refine lv_if_eq (tgt := 37) hx hb dX10_houseLine_29 (by decide) (fun c23 => ?_) (fun c23 => ?_)
        · have hf := ifp c23 hf
          exact wX10_houseLine_37 C hk hf hq H locs ls hw hS hl
        · have hf := ifn c23 hf
          refine lv_aload_n hx hb dX10_houseLine_32 rfl (lv_at hl 0 rfl) ?_
          obtain ⟨z21, hz21, hf⟩ := bd hf
          refine cl_Vs (rest := []) (kX10_fails (l := l) (Γ := Γ) (A := A) (G := G) (o := o) hk hz21) ⟨hx, hb, hml, hown, htw⟩ hE hw hS (wo_me hw hk) (q0 := 0) rfl rfl mw1443 mw1445 mw48 mw129 mw1446 pdX10_fails ⟨Nat.le_of_ble_eq_true rfl, Nat.le_of_ble_eq_true rfl⟩ rfl rfl hl.1 (Nat.le_of_ble_eq_true rfl) dX10_houseLine_33 (fun H locs hw hS => ?_)
          obtain ⟨g22, hf⟩ := gd_some hf
          obtain rfl := Option.some.inj hf
          subst hq
          exact rt_z C (isB_or g22) hw hS dX10_houseLine_36

theorem kX10_houseLine {l : Launch} {Γ : Gm} {A : Nat → Prop} {G : Gs} {o : Nat} {r : Rec} {v1 : Int64} {v3 : Int32} {fin : Rec × Int32} (hk : kd Γ o = some 10) (hf : fX10_houseLine r v1 v3 = some fin) : Kt l yX10_houseLine cX10_houseLine 4 (some .boolean) 5 113 Γ A (ug G o r) (ug G o fin.1) [.ref (ad Γ o), .long v1, .int v3] (some (.int fin.2)) :=
  kt_of (by decide) (Nat.le_of_ble_eq_true rfl) (fun p e s m args below meth c C => wX10_houseLine_e C hk hf rfl)
theorem kgX10_houseLine {l : Launch} {Γ : Gm} {A : Nat → Prop} {G : Gs} {o : Nat} {v1 : Int64} {v3 : Int32} {fin : Rec × Int32} (hk : kd Γ o = some 10) (hf : fX10_houseLine (G o) v1 v3 = some fin) : Kt l yX10_houseLine cX10_houseLine 4 (some .boolean) 5 113 Γ A G (ug G o fin.1) [.ref (ad Γ o), .long v1, .int v3] (some (.int fin.2)) := by
  have h := kX10_houseLine (l := l) (A := A) (G := G) (r := G o) hk hf
  rw [ug_self] at h
  exact h
noncomputable def fX10_deedBy (v0 : Int64) : Option Int32 :=
  if (lg_cmp v0 1952803948) = 0 then some (0) else if (lg_cmp v0 1651471464) = 0 then some (1) else if (lg_cmp v0 123623862530920) = 0 then some (2) else if (lg_cmp v0 495874040172) = 0 then some (3) else if (lg_cmp v0 1650549611) = 0 then some (4) else if (lg_cmp v0 1752135026) = 0 then some (5) else some ((-1))
set_option maxRecDepth 100000 in
set_option maxHeartbeats 4000000 in
theorem wX10_deedBy_e {p : Program} {l : Launch} {e : Env} {s : State} {m : MethodId} {args : Array Value} {below : List Frame} {meth : Method} {c : Code} {Γ : Gm} {A : Nat → Prop} {G : Gs} {v0 : Int64} {q : Int32} {fin : Int32} (C : Cx p s m args meth c yX10_deedBy cX10_deedBy 2 (some .int) Γ A) (hf : fX10_deedBy v0 = some q) (hq : (fun x => x = fin) q) : Wk p l e { frames := 0, cells := 0, slots := 0, locals := 0 } s m args below meth c Γ A G (some (.int fin)) 0 2 [(0, .long v0)] [] G := by
  intro H locs ls hw hS hl
  unfold fX10_deedBy at hf
  obtain ⟨hx, hb, hml, hr, hown, htw, hlocks, hE⟩ := id C
  have hown : s.vm.findClass RX10 = some m.cls := hown
  refine lv_lload_n hx hb dX10_deedBy_0 rfl (lv_at hl 0 rfl) ?_
  refine lv_ldc2 hx hb hown (htw _ mw1501) dX10_deedBy_1 ?_
  refine W.lcmp hx hb dX10_deedBy_4 ?_
  refine lv_if_ne (tgt := 12) hx hb dX10_deedBy_5 (by decide) (fun c6 => ?_) (fun c6 => ?_)
  · have hf := ifn c6 hf
    refine lv_lload_n hx hb dX10_deedBy_12 rfl (lv_at hl 0 rfl) ?_
    refine lv_ldc2 hx hb hown (htw _ mw1502) dX10_deedBy_13 ?_
    refine W.lcmp hx hb dX10_deedBy_16 ?_
    refine lv_if_ne (tgt := 24) hx hb dX10_deedBy_17 (by decide) (fun c5 => ?_) (fun c5 => ?_)
    · have hf := ifn c5 hf
      refine lv_lload_n hx hb dX10_deedBy_24 rfl (lv_at hl 0 rfl) ?_
      refine lv_ldc2 hx hb hown (htw _ mw1503) dX10_deedBy_25 ?_
      refine W.lcmp hx hb dX10_deedBy_28 ?_
      refine lv_if_ne (tgt := 36) hx hb dX10_deedBy_29 (by decide) (fun c4 => ?_) (fun c4 => ?_)
      · have hf := ifn c4 hf
        refine lv_lload_n hx hb dX10_deedBy_36 rfl (lv_at hl 0 rfl) ?_
        refine lv_ldc2 hx hb hown (htw _ mw1504) dX10_deedBy_37 ?_
        refine W.lcmp hx hb dX10_deedBy_40 ?_
        refine lv_if_ne (tgt := 48) hx hb dX10_deedBy_41 (by decide) (fun c3 => ?_) (fun c3 => ?_)
        · have hf := ifn c3 hf
          refine lv_lload_n hx hb dX10_deedBy_48 rfl (lv_at hl 0 rfl) ?_
          refine lv_ldc2 hx hb hown (htw _ mw1505) dX10_deedBy_49 ?_
          refine W.lcmp hx hb dX10_deedBy_52 ?_
          refine lv_if_ne (tgt := 60) hx hb dX10_deedBy_53 (by decide) (fun c2 => ?_) (fun c2 => ?_)
          · have hf := ifn c2 hf
            refine lv_lload_n hx hb dX10_deedBy_60 rfl (lv_at hl 0 rfl) ?_
            refine lv_ldc2 hx hb hown (htw _ mw1506) dX10_deedBy_61 ?_
            refine W.lcmp hx hb dX10_deedBy_64 ?_
            refine lv_if_ne (tgt := 72) hx hb dX10_deedBy_65 (by decide) (fun c1 => ?_) (fun c1 => ?_)
            · have hf := ifn c1 hf
              refine lv_iconst (v := (-1)) hx hb dX10_deedBy_72 (by decide) ?_
              obtain rfl := Option.some.inj hf
              subst hq
              exact rt_i C hw hS dX10_deedBy_73
            · have hf := ifp c1 hf
              refine lv_iconst (v := 5) hx hb dX10_deedBy_68 (by decide) ?_
              refine lv_goto (tgt := 73) hx hb dX10_deedBy_69 (by decide) ?_
              obtain rfl := Option.some.inj hf
              subst hq
              exact rt_i C hw hS dX10_deedBy_73
          · have hf := ifp c2 hf
            refine lv_iconst (v := 4) hx hb dX10_deedBy_56 (by decide) ?_
            refine lv_goto (tgt := 73) hx hb dX10_deedBy_57 (by decide) ?_
            obtain rfl := Option.some.inj hf
            subst hq
            exact rt_i C hw hS dX10_deedBy_73
        · have hf := ifp c3 hf
          refine lv_iconst (v := 3) hx hb dX10_deedBy_44 (by decide) ?_
          refine lv_goto (tgt := 73) hx hb dX10_deedBy_45 (by decide) ?_
          obtain rfl := Option.some.inj hf
          subst hq
          exact rt_i C hw hS dX10_deedBy_73
      · have hf := ifp c4 hf
        refine lv_iconst (v := 2) hx hb dX10_deedBy_32 (by decide) ?_
        refine lv_goto (tgt := 73) hx hb dX10_deedBy_33 (by decide) ?_
        obtain rfl := Option.some.inj hf
        subst hq
        exact rt_i C hw hS dX10_deedBy_73
    · have hf := ifp c5 hf
      refine lv_iconst (v := 1) hx hb dX10_deedBy_20 (by decide) ?_
      refine lv_goto (tgt := 73) hx hb dX10_deedBy_21 (by decide) ?_
      obtain rfl := Option.some.inj hf
      subst hq
      exact rt_i C hw hS dX10_deedBy_73
  · have hf := ifp c6 hf
    refine lv_iconst (v := 0) hx hb dX10_deedBy_8 (by decide) ?_
    refine lv_goto (tgt := 73) hx hb dX10_deedBy_9 (by decide) ?_
    obtain rfl := Option.some.inj hf
    subst hq
    exact rt_i C hw hS dX10_deedBy_73

theorem kX10_deedBy {l : Launch} {Γ : Gm} {A : Nat → Prop} {G : Gs} {v0 : Int64} {fin : Int32} (hf : fX10_deedBy v0 = some fin) : Kt l yX10_deedBy cX10_deedBy 2 (some .int) 0 0 Γ A G G [.long v0] (some (.int fin)) :=
  kt_of (by decide) (Nat.le_of_ble_eq_true rfl) (fun p e s m args below meth c C => wX10_deedBy_e C hf rfl)
noncomputable def bX10_keepRow_48 (r : Rec) : Option Rec :=
  (some (sa r 19 (upd (ga r 19) (Int32.toNatClampNeg 0) ((ga r 19 (Int32.toNatClampNeg 0)) + 1)))).bind fun r1 => some (r1)
set_option maxRecDepth 100000 in
set_option maxHeartbeats 4000000 in
theorem wX10_keepRow_48 {p : Program} {l : Launch} {e : Env} {s : State} {m : MethodId} {args : Array Value} {below : List Frame} {meth : Method} {c : Code} {Γ : Gm} {A : Nat → Prop} {G : Gs} {o : Nat} {r : Rec} {q : Rec} {fin : Rec} (C : Cx p s m args meth c yX10_keepRow cX10_keepRow 5 none Γ A) (hk : kd Γ o = some 10) (hf : bX10_keepRow_48 r = some q) (hq : (fun x => x = fin) q) : Wk p l e { frames := 0, cells := 0, slots := 0, locals := 0 } s m args below meth c Γ A (ug G o fin) none 48 5 [(0, .ref (ad Γ o))] [] (ug G o r) := by
  intro H locs ls hw hS hl
  unfold bX10_keepRow_48 at hf
  obtain ⟨hx, hb, hml, hr, hown, htw, hlocks, hE⟩ := id C
  have hown : s.vm.findClass RX10 = some m.cls := hown
  refine lv_aload_n hx hb dX10_keepRow_48 rfl (lv_at hl 0 rfl) ?_
  refine va_get (ci := 10) (v := .ref (aa Γ o 19)) (C := RX10) (T := TX10) (N := 49) hx hb htw uwX10 hown hE.1 (wo_me hw hk) 0 rfl rfl 19 (by decide) (htw _ mw1262) (fun _ h9 => h9) rfl dX10_keepRow_49 ?_
  refine lv_iconst (v := 0) hx hb dX10_keepRow_52 (by decide) ?_
  refine lv_dup2_11 hx hb dX10_keepRow_53 rfl rfl ?_
  refine va_iald hx hb hE.1 (wo_me hw hk) 10 0 rfl rfl (inR_in (i := 0) (n := 161) (by decide)) dX10_keepRow_54 ?_
  refine lv_iconst (v := 1) hx hb dX10_keepRow_55 (by decide) ?_
  refine lv_iadd hx hb dX10_keepRow_56 ?_
  obtain ⟨r1, hr1, hf⟩ := bd hf
  have hr1 := Option.some.inj hr1
  refine wo_iast hx hb hE hw hS hk (q0 := 10) rfl (inR_in (i := 0) (n := 161) (by decide)) (sa10_19 hr1) dX10_keepRow_57 (fun H locs hw hS => ?_)
  obtain rfl := Option.some.inj hf
  subst hq
  exact rt_v C hw hS dX10_keepRow_58

noncomputable def bX10_keepRow_16 (r : Rec) (v1 : Int32) (v3 : Int32) (v4 : Int32) : Option ((Int32 × Rec) ⊕ Rec) :=
  if v1 ≤ v4 then out1 (bX10_keepRow_48 r) else gd (inR v4 4) (gd (inR ((1 + (v1 * v3)) + v4) 161) ((some (sa r 19 (upd (ga r 19) (Int32.toNatClampNeg ((1 + (v1 * v3)) + v4)) (ga r 20 (Int32.toNatClampNeg v4))))).bind fun r5 => some (.inl (v4 + 1, r5))))
set_option maxRecDepth 100000 in
set_option maxHeartbeats 4000000 in
theorem wX10_keepRow_16 {p : Program} {l : Launch} {e : Env} {s : State} {m : MethodId} {args : Array Value} {below : List Frame} {meth : Method} {c : Code} {Γ : Gm} {A : Nat → Prop} {G : Gs} {o : Nat} {r : Rec} {v1 : Int32} {v3 : Int32} {v4 : Int32} {q : ((Int32 × Rec) ⊕ Rec)} {fin : Rec} (C : Cx p s m args meth c yX10_keepRow cX10_keepRow 5 none Γ A) (hk : kd Γ o = some 10) (hf : bX10_keepRow_16 r v1 v3 v4 = some q) (hq : (KC (fun st : Int32 × Rec => Wk p l e { frames := 0, cells := 0, slots := 0, locals := 0 } s m args below meth c Γ A (ug G o fin) none 16 5 [(0, .ref (ad Γ o)), (1, .int v1), (3, .int v3), (4, .int st.1)] [] (ug G o st.2)) (fun x => x = fin)) q) : Wk p l e { frames := 0, cells := 0, slots := 0, locals := 0 } s m args below meth c Γ A (ug G o fin) none 16 5 [(0, .ref (ad Γ o)), (1, .int v1), (3, .int v3), (4, .int v4)] [] (ug G o r) := by
  intro H locs ls hw hS hl
  unfold bX10_keepRow_16 at hf
  obtain ⟨hx, hb, hml, hr, hown, htw, hlocks, hE⟩ := id C
  have hown : s.vm.findClass RX10 = some m.cls := hown
  refine lv_iload hx hb dX10_keepRow_16 (lv_at hl 3 rfl) ?_
  refine lv_iload_n hx hb dX10_keepRow_18 rfl (lv_at hl 1 rfl) ?_
  refine lv_icmp_ge (tgt := 48) hx hb dX10_keepRow_19 (by decide) (fun c6 => ?_) (fun c6 => ?_)
  · have hf := ifp c6 hf
    obtain ⟨q2, hfq2, eq2⟩ := out1_some hf
    subst eq2
    have hf := hfq2
    have hq := hq.2 _ rfl
    exact wX10_keepRow_48 C hk hf hq H locs ls hw hS (lv_sub hl [0] rfl)
  · have hf := ifn c6 hf
    refine lv_aload_n hx hb dX10_keepRow_22 rfl (lv_at hl 0 rfl) ?_
    refine va_get (ci := 10) (v := .ref (aa Γ o 19)) (C := RX10) (T := TX10) (N := 49) hx hb htw uwX10 hown hE.1 (wo_me hw hk) 0 rfl rfl 19 (by decide) (htw _ mw1262) (fun _ h9 => h9) rfl dX10_keepRow_23 ?_
    refine lv_iconst (v := 1) hx hb dX10_keepRow_26 (by decide) ?_
    refine lv_iload_n hx hb dX10_keepRow_27 rfl (lv_at hl 1 rfl) ?_
    refine lv_iload_n hx hb dX10_keepRow_28 rfl (lv_at hl 2 rfl) ?_
    refine lv_imul hx hb dX10_keepRow_29 ?_
    refine lv_iadd hx hb dX10_keepRow_30 ?_
    refine lv_iload hx hb dX10_keepRow_31 (lv_at hl 3 rfl) ?_
    refine lv_iadd hx hb dX10_keepRow_33 ?_
    refine lv_aload_n hx hb dX10_keepRow_34 rfl (lv_at hl 0 rfl) ?_
    refine va_get (ci := 10) (v := .ref (aa Γ o 20)) (C := RX10) (T := TX10) (N := 49) hx hb htw uwX10 hown hE.1 (wo_me hw hk) 0 rfl rfl 20 (by decide) (htw _ mw1263) (fun _ h9 => h9) rfl dX10_keepRow_35 ?_
    refine lv_iload hx hb dX10_keepRow_38 (lv_at hl 3 rfl) ?_
    obtain ⟨g3, hf⟩ := gd_some hf
    refine va_iald hx hb hE.1 (wo_me hw hk) 11 0 rfl rfl (inR_in g3) dX10_keepRow_40 ?_
    obtain ⟨g4, hf⟩ := gd_some hf
    obtain ⟨r5, hr5, hf⟩ := bd hf
    have hr5 := Option.some.inj hr5
    refine wo_iast hx hb hE hw hS hk (q0 := 10) rfl (inR_in g4) (sa10_19 hr5) dX10_keepRow_41 (fun H locs hw hS => ?_)
    refine lv_iinc (v := v4 + 1) (lv' := [(4, .int (v4 + 1)), (0, .ref (ad Γ o)), (1, .int v1), (3, .int v3)]) hx hb dX10_keepRow_42 hl (k := 3) rfl (by rfl) (by decide) rfl (fun ls hl => ?_)
    refine lv_goto (tgt := 16) hx hb dX10_keepRow_45 (by decide) ?_
    obtain rfl := Option.some.inj hf
    exact hq.1 _ rfl H locs ls hw hS (lv_sub hl [1, 2, 3, 0] rfl)

set_option maxRecDepth 100000 in
set_option maxHeartbeats 4000000 in
theorem lwX10_keepRow_16 {p : Program} {l : Launch} {e : Env} {s : State} {m : MethodId} {args : Array Value} {below : List Frame} {meth : Method} {c : Code} {Γ : Gm} {A : Nat → Prop} {G : Gs} {o : Nat} {r : Rec} {v1 : Int32} {v3 : Int32} {v4 : Int32} {q : Rec} {fin : Rec} (C : Cx p s m args meth c yX10_keepRow cX10_keepRow 5 none Γ A) (hk : kd Γ o = some 10) (hf : iter (fun st : Int32 × Rec => bX10_keepRow_16 st.2 v1 v3 st.1) (v4, r) = some q) (hq : (fun x => x = fin) q) : Wk p l e { frames := 0, cells := 0, slots := 0, locals := 0 } s m args below meth c Γ A (ug G o fin) none 16 5 [(0, .ref (ad Γ o)), (1, .int v1), (3, .int v3), (4, .int v4)] [] (ug G o r) := by
  intro H locs ls hw hS hl
  refine iter_walk (P := (fun st : Int32 × Rec => Wk p l e { frames := 0, cells := 0, slots := 0, locals := 0 } s m args below meth c Γ A (ug G o fin) none 16 5 [(0, .ref (ad Γ o)), (1, .int v1), (3, .int v3), (4, .int st.1)] [] (ug G o st.2))) (K := (fun x => x = fin)) (fun st q hq1 h1 h2 => ?_) hf hq H locs ls hw hS hl
  exact wX10_keepRow_16 (r := st.2) (v4 := st.1) C hk hq1 ⟨h1, h2⟩

noncomputable def fX10_keepRow (r : Rec) (v1 : Int32) (v2 : Int32) : Option Rec :=
  (some (ga r 19 (Int32.toNatClampNeg 0))).bind fun x7 => if x7 = v2 then some (r) else iter (fun st : Int32 × Rec => bX10_keepRow_16 st.2 v1 x7 st.1) (0, r)
set_option maxRecDepth 100000 in
set_option maxHeartbeats 4000000 in
theorem wX10_keepRow_e {p : Program} {l : Launch} {e : Env} {s : State} {m : MethodId} {args : Array Value} {below : List Frame} {meth : Method} {c : Code} {Γ : Gm} {A : Nat → Prop} {G : Gs} {o : Nat} {r : Rec} {v1 : Int32} {v2 : Int32} {q : Rec} {fin : Rec} (C : Cx p s m args meth c yX10_keepRow cX10_keepRow 5 none Γ A) (hk : kd Γ o = some 10) (hf : fX10_keepRow r v1 v2 = some q) (hq : (fun x => x = fin) q) : Wk p l e { frames := 0, cells := 0, slots := 0, locals := 0 } s m args below meth c Γ A (ug G o fin) none 0 5 [(0, .ref (ad Γ o)), (1, .int v1), (2, .int v2)] [] (ug G o r) := by
  intro H locs ls hw hS hl
  unfold fX10_keepRow at hf
  obtain ⟨hx, hb, hml, hr, hown, htw, hlocks, hE⟩ := id C
  have hown : s.vm.findClass RX10 = some m.cls := hown
  refine lv_aload_n hx hb dX10_keepRow_0 rfl (lv_at hl 0 rfl) ?_
  refine va_get (ci := 10) (v := .ref (aa Γ o 19)) (C := RX10) (T := TX10) (N := 49) hx hb htw uwX10 hown hE.1 (wo_me hw hk) 0 rfl rfl 19 (by decide) (htw _ mw1262) (fun _ h9 => h9) rfl dX10_keepRow_1 ?_
  refine lv_iconst (v := 0) hx hb dX10_keepRow_4 (by decide) ?_
  refine va_iald hx hb hE.1 (wo_me hw hk) 10 0 rfl rfl (inR_in (i := 0) (n := 161) (by decide)) dX10_keepRow_5 ?_
  obtain ⟨x7, hx7, hf⟩ := bd hf
  have hx7 := Option.some.inj hx7
  refine tp1i hx7 ?_
  refine lv_istore_n (lv' := [(3, .int x7), (0, .ref (ad Γ o)), (1, .int v1), (2, .int v2)]) hx hb dX10_keepRow_6 rfl hl (by decide) rfl (fun ls hl => ?_)
  refine lv_iload_n hx hb dX10_keepRow_7 rfl (lv_at hl 0 rfl) ?_
  refine lv_iload_n hx hb dX10_keepRow_8 rfl (lv_at hl 3 rfl) ?_
  refine lv_icmp_ne (tgt := 13) hx hb dX10_keepRow_9 (by decide) (fun c8 => ?_) (fun c8 => ?_)
  · have hf := ifn c8 hf
    refine lv_iconst (v := 0) hx hb dX10_keepRow_13 (by decide) ?_
    refine lv_istore (lv' := [(4, .int 0), (3, .int x7), (0, .ref (ad Γ o)), (1, .int v1), (2, .int v2)]) hx hb dX10_keepRow_14 hl (by decide) rfl (fun ls hl => ?_)
    exact lwX10_keepRow_16 C hk hf hq H locs ls hw hS (lv_sub hl [2, 3, 1, 0] rfl)
  · have hf := ifp c8 hf
    obtain rfl := Option.some.inj hf
    subst hq
    exact rt_v C hw hS dX10_keepRow_12

theorem kX10_keepRow {l : Launch} {Γ : Gm} {A : Nat → Prop} {G : Gs} {o : Nat} {r : Rec} {v1 : Int32} {v2 : Int32} {fin : Rec} (hk : kd Γ o = some 10) (hf : fX10_keepRow r v1 v2 = some fin) : Kt l yX10_keepRow cX10_keepRow 5 none 0 0 Γ A (ug G o r) (ug G o fin) [.ref (ad Γ o), .int v1, .int v2] none :=
  kt_of (by decide) (Nat.le_of_ble_eq_true rfl) (fun p e s m args below meth c C => wX10_keepRow_e C hk hf rfl)
theorem kgX10_keepRow {l : Launch} {Γ : Gm} {A : Nat → Prop} {G : Gs} {o : Nat} {v1 : Int32} {v2 : Int32} {fin : Rec} (hk : kd Γ o = some 10) (hf : fX10_keepRow (G o) v1 v2 = some fin) : Kt l yX10_keepRow cX10_keepRow 5 none 0 0 Γ A G (ug G o fin) [.ref (ad Γ o), .int v1, .int v2] none := by
  have h := kX10_keepRow (l := l) (A := A) (G := G) (r := G o) hk hf
  rw [ug_self] at h
  exact h
noncomputable def bX10_monthLine_123 (r : Rec) (v4 : Int32) (v5 : Int32) : Option (Rec × Int32) :=
  if v5 = 0 then some ((r, 0)) else (some (sa r 20 (upd (ga r 20) (Int32.toNatClampNeg 0) v4))).bind fun r1 => (fX10_keepRow r1 4 40).bind fun z2 => some ((z2, 1))
set_option maxRecDepth 100000 in
set_option maxHeartbeats 4000000 in
theorem wX10_monthLine_123 {p : Program} {l : Launch} {e : Env} {s : State} {m : MethodId} {args : Array Value} {below : List Frame} {meth : Method} {c : Code} {Γ : Gm} {A : Nat → Prop} {G : Gs} {o : Nat} {r : Rec} {v4 : Int32} {v5 : Int32} {q : (Rec × Int32)} {fin : Rec × Int32} (C : Cx p s m args meth c yX10_monthLine cX10_monthLine 6 (some .boolean) Γ A) (hk : kd Γ o = some 10) (hf : bX10_monthLine_123 r v4 v5 = some q) (hq : (fun x => x = fin) q) : Wk p l e { frames := 4, cells := 0, slots := 0, locals := 92 } s m args below meth c Γ A (ug G o fin.1) (some (.int fin.2)) 123 6 [(0, .ref (ad Γ o)), (4, .int v4), (5, .int v5)] [] (ug G o r) := by
  intro H locs ls hw hS hl
  unfold bX10_monthLine_123 at hf
  obtain ⟨hx, hb, hml, hr, hown, htw, hlocks, hE⟩ := id C
  have hown : s.vm.findClass RX10 = some m.cls := hown
  refine lv_iload hx hb dX10_monthLine_123 (lv_at hl 2 rfl) ?_
  refine lv_if_ne (tgt := 130) hx hb dX10_monthLine_125 (by decide) (fun c3 => ?_) (fun c3 => ?_)
  · have hf := ifn c3 hf
    refine lv_aload_n hx hb dX10_monthLine_130 rfl (lv_at hl 0 rfl) ?_
    refine va_get (ci := 10) (v := .ref (aa Γ o 20)) (C := RX10) (T := TX10) (N := 49) hx hb htw uwX10 hown hE.1 (wo_me hw hk) 0 rfl rfl 20 (by decide) (htw _ mw1263) (fun _ h9 => h9) rfl dX10_monthLine_131 ?_
    refine lv_iconst (v := 0) hx hb dX10_monthLine_134 (by decide) ?_
    refine lv_iload hx hb dX10_monthLine_135 (lv_at hl 1 rfl) ?_
    obtain ⟨r1, hr1, hf⟩ := bd hf
    have hr1 := Option.some.inj hr1
    refine wo_iast hx hb hE hw hS hk (q0 := 11) rfl (inR_in (i := 0) (n := 4) (by decide)) (sa10_20 hr1) dX10_monthLine_137 (fun H locs hw hS => ?_)
    refine lv_aload_n hx hb dX10_monthLine_138 rfl (lv_at hl 0 rfl) ?_
    refine lv_iconst (v := 4) hx hb dX10_monthLine_139 (by decide) ?_
    refine lv_bipush (v := 40) hx hb dX10_monthLine_140 (by decide) ?_
    obtain ⟨z2, hz2, hf⟩ := bd hf
    refine cl_Vv (rest := []) (kX10_keepRow (l := l) (Γ := Γ) (A := A) (G := G) (o := o) hk hz2) ⟨hx, hb, hml, hown, htw⟩ hE hw hS (wo_me hw hk) (q0 := 0) rfl rfl mw1507 mw1509 mw60 mw129 mw1510 pdX10_keepRow ⟨Nat.le_of_ble_eq_true rfl, Nat.le_of_ble_eq_true rfl⟩ rfl rfl hl.1 (Nat.le_of_ble_eq_true rfl) dX10_monthLine_142 (fun H locs hw hS => ?_)
    refine lv_iconst (v := 1) hx hb dX10_monthLine_145 (by decide) ?_
    obtain rfl := Option.some.inj hf
    subst hq
    exact rt_z C (Or.inr rfl) hw hS dX10_monthLine_146
  · have hf := ifp c3 hf
    refine lv_iconst (v := 0) hx hb dX10_monthLine_128 (by decide) ?_
    obtain rfl := Option.some.inj hf
    subst hq
    exact rt_z C (Or.inl rfl) hw hS dX10_monthLine_129

noncomputable def bX10_monthLine_104 (r : Rec) (v4 : Int32) (s0 : Int32) : Option (Rec × Int32) :=
  bX10_monthLine_123 r v4 s0
set_option maxRecDepth 100000 in
set_option maxHeartbeats 4000000 in
theorem wX10_monthLine_104 {p : Program} {l : Launch} {e : Env} {s : State} {m : MethodId} {args : Array Value} {below : List Frame} {meth : Method} {c : Code} {Γ : Gm} {A : Nat → Prop} {G : Gs} {o : Nat} {r : Rec} {v4 : Int32} {s0 : Int32} {q : (Rec × Int32)} {fin : Rec × Int32} (C : Cx p s m args meth c yX10_monthLine cX10_monthLine 6 (some .boolean) Γ A) (hk : kd Γ o = some 10) (hf : bX10_monthLine_104 r v4 s0 = some q) (hq : (fun x => x = fin) q) : Wk p l e { frames := 4, cells := 0, slots := 0, locals := 92 } s m args below meth c Γ A (ug G o fin.1) (some (.int fin.2)) 104 6 [(0, .ref (ad Γ o)), (4, .int v4)] [.int s0] (ug G o r) := by
  intro H locs ls hw hS hl
  unfold bX10_monthLine_104 at hf
  obtain ⟨hx, hb, hml, hr, hown, htw, hlocks, hE⟩ := id C
  have hown : s.vm.findClass RX10 = some m.cls := hown
  refine lv_istore (lv' := [(5, .int s0), (0, .ref (ad Γ o)), (4, .int v4)]) hx hb dX10_monthLine_104 hl (by decide) rfl (fun ls hl => ?_)
  refine lv_goto (tgt := 123) hx hb dX10_monthLine_106 (by decide) ?_
  exact wX10_monthLine_123 C hk hf hq H locs ls hw hS (lv_sub hl [1, 2, 0] rfl)

noncomputable def bX10_monthLine_103 (r : Rec) (v4 : Int32) : Option (Rec × Int32) :=
  bX10_monthLine_104 r v4 0
set_option maxRecDepth 100000 in
set_option maxHeartbeats 4000000 in
theorem wX10_monthLine_103 {p : Program} {l : Launch} {e : Env} {s : State} {m : MethodId} {args : Array Value} {below : List Frame} {meth : Method} {c : Code} {Γ : Gm} {A : Nat → Prop} {G : Gs} {o : Nat} {r : Rec} {v4 : Int32} {q : (Rec × Int32)} {fin : Rec × Int32} (C : Cx p s m args meth c yX10_monthLine cX10_monthLine 6 (some .boolean) Γ A) (hk : kd Γ o = some 10) (hf : bX10_monthLine_103 r v4 = some q) (hq : (fun x => x = fin) q) : Wk p l e { frames := 4, cells := 0, slots := 0, locals := 92 } s m args below meth c Γ A (ug G o fin.1) (some (.int fin.2)) 103 6 [(0, .ref (ad Γ o)), (4, .int v4)] [] (ug G o r) := by
  intro H locs ls hw hS hl
  unfold bX10_monthLine_103 at hf
  obtain ⟨hx, hb, hml, hr, hown, htw, hlocks, hE⟩ := id C
  have hown : s.vm.findClass RX10 = some m.cls := hown
  refine lv_iconst (v := 0) hx hb dX10_monthLine_103 (by decide) ?_
  exact wX10_monthLine_104 C hk hf hq H locs ls hw hS hl

noncomputable def bX10_monthLine_99 (r : Rec) (v4 : Int32) : Option (Rec × Int32) :=
  bX10_monthLine_104 r v4 1
set_option maxRecDepth 100000 in
set_option maxHeartbeats 4000000 in
theorem wX10_monthLine_99 {p : Program} {l : Launch} {e : Env} {s : State} {m : MethodId} {args : Array Value} {below : List Frame} {meth : Method} {c : Code} {Γ : Gm} {A : Nat → Prop} {G : Gs} {o : Nat} {r : Rec} {v4 : Int32} {q : (Rec × Int32)} {fin : Rec × Int32} (C : Cx p s m args meth c yX10_monthLine cX10_monthLine 6 (some .boolean) Γ A) (hk : kd Γ o = some 10) (hf : bX10_monthLine_99 r v4 = some q) (hq : (fun x => x = fin) q) : Wk p l e { frames := 4, cells := 0, slots := 0, locals := 92 } s m args below meth c Γ A (ug G o fin.1) (some (.int fin.2)) 99 6 [(0, .ref (ad Γ o)), (4, .int v4)] [] (ug G o r) := by
  intro H locs ls hw hS hl
  unfold bX10_monthLine_99 at hf
  obtain ⟨hx, hb, hml, hr, hown, htw, hlocks, hE⟩ := id C
  have hown : s.vm.findClass RX10 = some m.cls := hown
  refine lv_iconst (v := 1) hx hb dX10_monthLine_99 (by decide) ?_
  refine lv_goto (tgt := 104) hx hb dX10_monthLine_100 (by decide) ?_
  exact wX10_monthLine_104 C hk hf hq H locs ls hw hS hl

noncomputable def bX10_monthLine_52 (r : Rec) (v4 : Int32) : Option (Rec × Int32) :=
  if 2 ≤ v4 then if 5 ≤ v4 then bX10_monthLine_123 r v4 1 else (fX10_takePiece r 1 (-1)).bind fun z4 => bX10_monthLine_123 z4.1 v4 z4.2 else (fX10_takeSecret r 1 (-1) (-1)).bind fun z6 => if z6.2 = 0 then bX10_monthLine_103 z6.1 v4 else (fX10_takePiece z6.1 2 (-1)).bind fun z7 => if z7.2 = 0 then bX10_monthLine_103 z7.1 v4 else if v4 = 0 then bX10_monthLine_99 z7.1 v4 else (fX10_takePiece z7.1 3 (ga z7.1 20 (Int32.toNatClampNeg 2))).bind fun z8 => if z8.2 = 0 then bX10_monthLine_103 z8.1 v4 else bX10_monthLine_99 z8.1 v4
set_option maxRecDepth 100000 in
set_option maxHeartbeats 4000000 in
theorem wX10_monthLine_52 {p : Program} {l : Launch} {e : Env} {s : State} {m : MethodId} {args : Array Value} {below : List Frame} {meth : Method} {c : Code} {Γ : Gm} {A : Nat → Prop} {G : Gs} {o : Nat} {r : Rec} {v4 : Int32} {q : (Rec × Int32)} {fin : Rec × Int32} (C : Cx p s m args meth c yX10_monthLine cX10_monthLine 6 (some .boolean) Γ A) (hk : kd Γ o = some 10) (hf : bX10_monthLine_52 r v4 = some q) (hq : (fun x => x = fin) q) : Wk p l e { frames := 4, cells := 0, slots := 0, locals := 92 } s m args below meth c Γ A (ug G o fin.1) (some (.int fin.2)) 52 6 [(0, .ref (ad Γ o)), (4, .int v4)] [] (ug G o r) := by
  intro H locs ls hw hS hl
  unfold bX10_monthLine_52 at hf
  obtain ⟨hx, hb, hml, hr, hown, htw, hlocks, hE⟩ := id C
  have hown : s.vm.findClass RX10 = some m.cls := hown
  refine lv_iconst (v := 1) hx hb dX10_monthLine_52 (by decide) ?_
  refine lv_istore (lv' := [(5, .int 1), (0, .ref (ad Γ o)), (4, .int v4)]) hx hb dX10_monthLine_53 hl (by decide) rfl (fun ls hl => ?_)
  refine lv_iload hx hb dX10_monthLine_55 (lv_at hl 2 rfl) ?_
  refine lv_iconst (v := 2) hx hb dX10_monthLine_57 (by decide) ?_
  refine lv_icmp_ge (tgt := 109) hx hb dX10_monthLine_58 (by decide) (fun c13 => ?_) (fun c13 => ?_)
  · have hf := ifp c13 hf
    refine lv_iload hx hb dX10_monthLine_109 (lv_at hl 2 rfl) ?_
    refine lv_iconst (v := 5) hx hb dX10_monthLine_111 (by decide) ?_
    refine lv_icmp_ge (tgt := 123) hx hb dX10_monthLine_112 (by decide) (fun c5 => ?_) (fun c5 => ?_)
    · have hf := ifp c5 hf
      exact wX10_monthLine_123 C hk hf hq H locs ls hw hS (lv_sub hl [1, 2, 0] rfl)
    · have hf := ifn c5 hf
      refine lv_aload_n hx hb dX10_monthLine_115 rfl (lv_at hl 1 rfl) ?_
      refine lv_iconst (v := 1) hx hb dX10_monthLine_116 (by decide) ?_
      refine lv_iconst (v := (-1)) hx hb dX10_monthLine_117 (by decide) ?_
      obtain ⟨z4, hz4, hf⟩ := bd hf
      refine cl_Vs (rest := []) (kX10_takePiece (l := l) (Γ := Γ) (A := A) (G := G) (o := o) hk hz4) ⟨hx, hb, hml, hown, htw⟩ hE hw hS (wo_me hw hk) (q0 := 0) rfl rfl mw1459 mw1461 mw52 mw129 mw1462 pdX10_takePiece ⟨Nat.le_of_ble_eq_true rfl, Nat.le_of_ble_eq_true rfl⟩ rfl rfl hl.1 (Nat.le_of_ble_eq_true rfl) dX10_monthLine_118 (fun H locs hw hS => ?_)
      refine lv_istore (lv' := [(5, .int z4.2), (0, .ref (ad Γ o)), (4, .int v4)]) hx hb dX10_monthLine_121 hl (by decide) rfl (fun ls hl => ?_)
      exact wX10_monthLine_123 C hk hf hq H locs ls hw hS (lv_sub hl [1, 2, 0] rfl)
  · have hf := ifn c13 hf
    refine lv_aload_n hx hb dX10_monthLine_61 rfl (lv_at hl 1 rfl) ?_
    refine lv_iconst (v := 1) hx hb dX10_monthLine_62 (by decide) ?_
    refine lv_iconst (v := (-1)) hx hb dX10_monthLine_63 (by decide) ?_
    refine lv_iconst (v := (-1)) hx hb dX10_monthLine_64 (by decide) ?_
    obtain ⟨z6, hz6, hf⟩ := bd hf
    refine cl_Vs (rest := []) (kX10_takeSecret (l := l) (Γ := Γ) (A := A) (G := G) (o := o) hk hz6) ⟨hx, hb, hml, hown, htw⟩ hE hw hS (wo_me hw hk) (q0 := 0) rfl rfl mw1470 mw1472 mw54 mw129 mw1473 pdX10_takeSecret ⟨Nat.le_of_ble_eq_true rfl, Nat.le_of_ble_eq_true rfl⟩ rfl rfl hl.1 (Nat.le_of_ble_eq_true rfl) dX10_monthLine_65 (fun H locs hw hS => ?_)
    refine lv_if_eq (tgt := 103) hx hb dX10_monthLine_68 (by decide) (fun c12 => ?_) (fun c12 => ?_)
    · have hf := ifp c12 hf
      exact wX10_monthLine_103 C hk hf hq H locs ls hw hS (lv_sub hl [1, 2] rfl)
    · have hf := ifn c12 hf
      refine lv_aload_n hx hb dX10_monthLine_71 rfl (lv_at hl 1 rfl) ?_
      refine lv_iconst (v := 2) hx hb dX10_monthLine_72 (by decide) ?_
      refine lv_iconst (v := (-1)) hx hb dX10_monthLine_73 (by decide) ?_
      obtain ⟨z7, hz7, hf⟩ := bd hf
      refine cl_Vs (rest := []) (kX10_takePiece (l := l) (Γ := Γ) (A := A) (G := G) (o := o) hk hz7) ⟨hx, hb, hml, hown, htw⟩ hE hw hS (wo_me hw hk) (q0 := 0) rfl rfl mw1459 mw1461 mw52 mw129 mw1462 pdX10_takePiece ⟨Nat.le_of_ble_eq_true rfl, Nat.le_of_ble_eq_true rfl⟩ rfl rfl hl.1 (Nat.le_of_ble_eq_true rfl) dX10_monthLine_74 (fun H locs hw hS => ?_)
      refine lv_if_eq (tgt := 103) hx hb dX10_monthLine_77 (by decide) (fun c11 => ?_) (fun c11 => ?_)
      · have hf := ifp c11 hf
        exact wX10_monthLine_103 C hk hf hq H locs ls hw hS (lv_sub hl [1, 2] rfl)
      · have hf := ifn c11 hf
        refine lv_iload hx hb dX10_monthLine_80 (lv_at hl 2 rfl) ?_
        refine lv_if_eq (tgt := 99) hx hb dX10_monthLine_82 (by decide) (fun c10 => ?_) (fun c10 => ?_)
        · have hf := ifp c10 hf
          exact wX10_monthLine_99 C hk hf hq H locs ls hw hS (lv_sub hl [1, 2] rfl)
        · have hf := ifn c10 hf
          refine lv_aload_n hx hb dX10_monthLine_85 rfl (lv_at hl 1 rfl) ?_
          refine lv_iconst (v := 3) hx hb dX10_monthLine_86 (by decide) ?_
          refine lv_aload_n hx hb dX10_monthLine_87 rfl (lv_at hl 1 rfl) ?_
          refine va_get (ci := 10) (v := .ref (aa Γ o 20)) (C := RX10) (T := TX10) (N := 49) hx hb htw uwX10 hown hE.1 (wo_me hw hk) 0 rfl rfl 20 (by decide) (htw _ mw1263) (fun _ h9 => h9) rfl dX10_monthLine_88 ?_
          refine lv_iconst (v := 2) hx hb dX10_monthLine_91 (by decide) ?_
          refine va_iald hx hb hE.1 (wo_me hw hk) 11 0 rfl rfl (inR_in (i := 2) (n := 4) (by decide)) dX10_monthLine_92 ?_
          obtain ⟨z8, hz8, hf⟩ := bd hf
          refine cl_Vs (rest := []) (kX10_takePiece (l := l) (Γ := Γ) (A := A) (G := G) (o := o) hk hz8) ⟨hx, hb, hml, hown, htw⟩ hE hw hS (wo_me hw hk) (q0 := 0) rfl rfl mw1459 mw1461 mw52 mw129 mw1462 pdX10_takePiece ⟨Nat.le_of_ble_eq_true rfl, Nat.le_of_ble_eq_true rfl⟩ rfl rfl hl.1 (Nat.le_of_ble_eq_true rfl) dX10_monthLine_93 (fun H locs hw hS => ?_)
          refine lv_if_eq (tgt := 103) hx hb dX10_monthLine_96 (by decide) (fun c9 => ?_) (fun c9 => ?_)
          · have hf := ifp c9 hf
            exact wX10_monthLine_103 C hk hf hq H locs ls hw hS (lv_sub hl [1, 2] rfl)
          · have hf := ifn c9 hf
            exact wX10_monthLine_99 C hk hf hq H locs ls hw hS (lv_sub hl [1, 2] rfl)

noncomputable def bX10_monthLine_32 (r : Rec) (v4 : Int32) (v5 : Int32) : Option ((Int32 × Rec) ⊕ (Rec × Int32)) :=
  if 4 ≤ v5 then out1 (bX10_monthLine_52 r v4) else gd (inR v5 4) ((some (sa r 20 (upd (ga r 20) (Int32.toNatClampNeg v5) (-1)))).bind fun r16 => some (.inl (v5 + 1, r16)))
set_option maxRecDepth 100000 in
set_option maxHeartbeats 4000000 in
theorem wX10_monthLine_32 {p : Program} {l : Launch} {e : Env} {s : State} {m : MethodId} {args : Array Value} {below : List Frame} {meth : Method} {c : Code} {Γ : Gm} {A : Nat → Prop} {G : Gs} {o : Nat} {r : Rec} {v4 : Int32} {v5 : Int32} {q : ((Int32 × Rec) ⊕ (Rec × Int32))} {fin : Rec × Int32} (C : Cx p s m args meth c yX10_monthLine cX10_monthLine 6 (some .boolean) Γ A) (hk : kd Γ o = some 10) (hf : bX10_monthLine_32 r v4 v5 = some q) (hq : (KC (fun st : Int32 × Rec => Wk p l e { frames := 4, cells := 0, slots := 0, locals := 92 } s m args below meth c Γ A (ug G o fin.1) (some (.int fin.2)) 32 6 [(0, .ref (ad Γ o)), (4, .int v4), (5, .int st.1)] [] (ug G o st.2)) (fun x => x = fin)) q) : Wk p l e { frames := 4, cells := 0, slots := 0, locals := 92 } s m args below meth c Γ A (ug G o fin.1) (some (.int fin.2)) 32 6 [(0, .ref (ad Γ o)), (4, .int v4), (5, .int v5)] [] (ug G o r) := by
  intro H locs ls hw hS hl
  unfold bX10_monthLine_32 at hf
  obtain ⟨hx, hb, hml, hr, hown, htw, hlocks, hE⟩ := id C
  have hown : s.vm.findClass RX10 = some m.cls := hown
  refine lv_iload hx hb dX10_monthLine_32 (lv_at hl 2 rfl) ?_
  refine lv_iconst (v := 4) hx hb dX10_monthLine_34 (by decide) ?_
  refine lv_icmp_ge (tgt := 52) hx hb dX10_monthLine_35 (by decide) (fun c17 => ?_) (fun c17 => ?_)
  · have hf := ifp c17 hf
    obtain ⟨q14, hfq14, eq14⟩ := out1_some hf
    subst eq14
    have hf := hfq14
    have hq := hq.2 _ rfl
    exact wX10_monthLine_52 C hk hf hq H locs ls hw hS (lv_sub hl [0, 1] rfl)
  · have hf := ifn c17 hf
    refine lv_aload_n hx hb dX10_monthLine_38 rfl (lv_at hl 0 rfl) ?_
    refine va_get (ci := 10) (v := .ref (aa Γ o 20)) (C := RX10) (T := TX10) (N := 49) hx hb htw uwX10 hown hE.1 (wo_me hw hk) 0 rfl rfl 20 (by decide) (htw _ mw1263) (fun _ h9 => h9) rfl dX10_monthLine_39 ?_
    refine lv_iload hx hb dX10_monthLine_42 (lv_at hl 2 rfl) ?_
    refine lv_iconst (v := (-1)) hx hb dX10_monthLine_44 (by decide) ?_
    obtain ⟨g15, hf⟩ := gd_some hf
    obtain ⟨r16, hr16, hf⟩ := bd hf
    have hr16 := Option.some.inj hr16
    refine wo_iast hx hb hE hw hS hk (q0 := 11) rfl (inR_in g15) (sa10_20 hr16) dX10_monthLine_45 (fun H locs hw hS => ?_)
    refine lv_iinc (v := v5 + 1) (lv' := [(5, .int (v5 + 1)), (0, .ref (ad Γ o)), (4, .int v4)]) hx hb dX10_monthLine_46 hl (k := 2) rfl (by rfl) (by decide) rfl (fun ls hl => ?_)
    refine lv_goto (tgt := 32) hx hb dX10_monthLine_49 (by decide) ?_
    obtain rfl := Option.some.inj hf
    exact hq.1 _ rfl H locs ls hw hS (lv_sub hl [1, 2, 0] rfl)

set_option maxRecDepth 100000 in
set_option maxHeartbeats 4000000 in
theorem lwX10_monthLine_32 {p : Program} {l : Launch} {e : Env} {s : State} {m : MethodId} {args : Array Value} {below : List Frame} {meth : Method} {c : Code} {Γ : Gm} {A : Nat → Prop} {G : Gs} {o : Nat} {r : Rec} {v4 : Int32} {v5 : Int32} {q : (Rec × Int32)} {fin : Rec × Int32} (C : Cx p s m args meth c yX10_monthLine cX10_monthLine 6 (some .boolean) Γ A) (hk : kd Γ o = some 10) (hf : iter (fun st : Int32 × Rec => bX10_monthLine_32 st.2 v4 st.1) (v5, r) = some q) (hq : (fun x => x = fin) q) : Wk p l e { frames := 4, cells := 0, slots := 0, locals := 92 } s m args below meth c Γ A (ug G o fin.1) (some (.int fin.2)) 32 6 [(0, .ref (ad Γ o)), (4, .int v4), (5, .int v5)] [] (ug G o r) := by
  intro H locs ls hw hS hl
  refine iter_walk (P := (fun st : Int32 × Rec => Wk p l e { frames := 4, cells := 0, slots := 0, locals := 92 } s m args below meth c Γ A (ug G o fin.1) (some (.int fin.2)) 32 6 [(0, .ref (ad Γ o)), (4, .int v4), (5, .int st.1)] [] (ug G o st.2))) (K := (fun x => x = fin)) (fun st q hq1 h1 h2 => ?_) hf hq H locs ls hw hS hl
  exact wX10_monthLine_32 (r := st.2) (v5 := st.1) C hk hq1 ⟨h1, h2⟩

noncomputable def fX10_monthLine (r : Rec) (v1 : Int64) (v3 : Int32) : Option (Rec × Int32) :=
  (fX10_deedBy v1).bind fun z18 => if z18 = (-1) then (fX10_fails r).bind fun z21 => gd (isB z21.2) (some ((z21.1, z21.2))) else (fX10_full r 0 40 v3).bind fun z19 => (fX10_token z19).bind fun z20 => iter (fun st : Int32 × Rec => bX10_monthLine_32 st.2 z18 st.1) (1, z20)
set_option maxRecDepth 100000 in
set_option maxHeartbeats 4000000 in
theorem wX10_monthLine_e {p : Program} {l : Launch} {e : Env} {s : State} {m : MethodId} {args : Array Value} {below : List Frame} {meth : Method} {c : Code} {Γ : Gm} {A : Nat → Prop} {G : Gs} {o : Nat} {r : Rec} {v1 : Int64} {v3 : Int32} {q : (Rec × Int32)} {fin : Rec × Int32} (C : Cx p s m args meth c yX10_monthLine cX10_monthLine 6 (some .boolean) Γ A) (hk : kd Γ o = some 10) (hf : fX10_monthLine r v1 v3 = some q) (hq : (fun x => x = fin) q) : Wk p l e { frames := 4, cells := 0, slots := 0, locals := 92 } s m args below meth c Γ A (ug G o fin.1) (some (.int fin.2)) 0 6 [(0, .ref (ad Γ o)), (1, .long v1), (3, .int v3)] [] (ug G o r) := by
  intro H locs ls hw hS hl
  unfold fX10_monthLine at hf
  obtain ⟨hx, hb, hml, hr, hown, htw, hlocks, hE⟩ := id C
  have hown : s.vm.findClass RX10 = some m.cls := hown
  refine lv_lload_n hx hb dX10_monthLine_0 rfl (lv_at hl 1 rfl) ?_
  obtain ⟨z18, hz18, hf⟩ := bd hf
  refine cl_Ss (rest := []) (kX10_deedBy (l := l) (Γ := Γ) (A := A) (G := (ug G o r)) hz18) ⟨hx, hb, hml, hown, htw⟩ hE hw hS mw1498 mw1499 mw129 mw1500 pdX10_deedBy ⟨Nat.le_of_ble_eq_true rfl, Nat.le_of_ble_eq_true rfl⟩ rfl rfl hl.1 (Nat.le_of_ble_eq_true rfl) dX10_monthLine_1 (fun H locs hw hS => ?_)
  refine lv_istore (lv' := [(4, .int z18), (0, .ref (ad Γ o)), (1, .long v1), (3, .int v3)]) hx hb dX10_monthLine_4 hl (by decide) rfl (fun ls hl => ?_)
  refine lv_iload hx hb dX10_monthLine_6 (lv_at hl 0 rfl) ?_
  refine lv_iconst (v := (-1)) hx hb dX10_monthLine_8 (by decide) ?_
  refine lv_icmp_ne (tgt := 17) hx hb dX10_monthLine_9 (by decide) (fun c23 => ?_) (fun c23 => ?_)
  · have hf := ifn c23 hf
    refine lv_aload_n hx hb dX10_monthLine_17 rfl (lv_at hl 1 rfl) ?_
    refine lv_iconst (v := 0) hx hb dX10_monthLine_18 (by decide) ?_
    refine lv_bipush (v := 40) hx hb dX10_monthLine_19 (by decide) ?_
    refine lv_iload_n hx hb dX10_monthLine_21 rfl (lv_at hl 3 rfl) ?_
    obtain ⟨z19, hz19, hf⟩ := bd hf
    refine cl_Vv (rest := []) (kX10_full (l := l) (Γ := Γ) (A := A) (G := G) (o := o) hk hz19) ⟨hx, hb, hml, hown, htw⟩ hE hw hS (wo_me hw hk) (q0 := 0) rfl rfl mw1447 mw1449 mw49 mw129 mw1450 pdX10_full ⟨Nat.le_of_ble_eq_true rfl, Nat.le_of_ble_eq_true rfl⟩ rfl rfl hl.1 (Nat.le_of_ble_eq_true rfl) dX10_monthLine_22 (fun H locs hw hS => ?_)
    refine lv_aload_n hx hb dX10_monthLine_25 rfl (lv_at hl 1 rfl) ?_
    obtain ⟨z20, hz20, hf⟩ := bd hf
    refine cl_Vv (rest := []) (kX10_token (l := l) (Γ := Γ) (A := A) (G := G) (o := o) hk hz20) ⟨hx, hb, hml, hown, htw⟩ hE hw hS (wo_me hw hk) (q0 := 0) rfl rfl mw1419 mw1421 mw43 mw129 mw1422 pdX10_token ⟨Nat.le_of_ble_eq_true rfl, Nat.le_of_ble_eq_true rfl⟩ rfl rfl hl.1 (Nat.le_of_ble_eq_true rfl) dX10_monthLine_26 (fun H locs hw hS => ?_)
    refine lv_iconst (v := 1) hx hb dX10_monthLine_29 (by decide) ?_
    refine lv_istore (lv' := [(5, .int 1), (4, .int z18), (0, .ref (ad Γ o)), (1, .long v1), (3, .int v3)]) hx hb dX10_monthLine_30 hl (by decide) rfl (fun ls hl => ?_)
    exact lwX10_monthLine_32 C hk hf hq H locs ls hw hS (lv_sub hl [2, 1, 0] rfl)
  · have hf := ifp c23 hf
    refine lv_aload_n hx hb dX10_monthLine_12 rfl (lv_at hl 1 rfl) ?_
    obtain ⟨z21, hz21, hf⟩ := bd hf
    refine cl_Vs (rest := []) (kX10_fails (l := l) (Γ := Γ) (A := A) (G := G) (o := o) hk hz21) ⟨hx, hb, hml, hown, htw⟩ hE hw hS (wo_me hw hk) (q0 := 0) rfl rfl mw1443 mw1445 mw48 mw129 mw1446 pdX10_fails ⟨Nat.le_of_ble_eq_true rfl, Nat.le_of_ble_eq_true rfl⟩ rfl rfl hl.1 (Nat.le_of_ble_eq_true rfl) dX10_monthLine_13 (fun H locs hw hS => ?_)
    obtain ⟨g22, hf⟩ := gd_some hf
    obtain rfl := Option.some.inj hf
    subst hq
    exact rt_z C (isB_or g22) hw hS dX10_monthLine_16

theorem kX10_monthLine {l : Launch} {Γ : Gm} {A : Nat → Prop} {G : Gs} {o : Nat} {r : Rec} {v1 : Int64} {v3 : Int32} {fin : Rec × Int32} (hk : kd Γ o = some 10) (hf : fX10_monthLine r v1 v3 = some fin) : Kt l yX10_monthLine cX10_monthLine 6 (some .boolean) 4 92 Γ A (ug G o r) (ug G o fin.1) [.ref (ad Γ o), .long v1, .int v3] (some (.int fin.2)) :=
  kt_of (by decide) (Nat.le_of_ble_eq_true rfl) (fun p e s m args below meth c C => wX10_monthLine_e C hk hf rfl)
theorem kgX10_monthLine {l : Launch} {Γ : Gm} {A : Nat → Prop} {G : Gs} {o : Nat} {v1 : Int64} {v3 : Int32} {fin : Rec × Int32} (hk : kd Γ o = some 10) (hf : fX10_monthLine (G o) v1 v3 = some fin) : Kt l yX10_monthLine cX10_monthLine 6 (some .boolean) 4 92 Γ A G (ug G o fin.1) [.ref (ad Γ o), .long v1, .int v3] (some (.int fin.2)) := by
  have h := kX10_monthLine (l := l) (A := A) (G := G) (r := G o) hk hf
  rw [ug_self] at h
  exact h
noncomputable def fX10_dinnerLine (r : Rec) (v1 : Int64) (v3 : Int32) : Option (Rec × Int32) :=
  if (lg_cmp v1 110403987072370) = 0 then (fX10_full r 0 8 v3).bind fun z1 => (fX10_token z1).bind fun z2 => (fX10_take z2 0 (gi z2 23) 60).bind fun z3 => if z3.2 = 0 then some ((z3.1, 0)) else (fX10_takePiece z3.1 1 (-1)).bind fun z4 => if z4.2 = 0 then some ((z4.1, 0)) else (fX10_take z4.1 2 1 60).bind fun z5 => if z5.2 = 0 then some ((z5.1, 0)) else (some (si z5.1 23 (ga z5.1 20 (Int32.toNatClampNeg 0)))).bind fun r6 => (fX10_keepRow r6 3 8).bind fun z7 => some ((z7, 1)) else (fX10_fails r).bind fun z11 => gd (isB z11.2) (some ((z11.1, z11.2)))
set_option maxRecDepth 100000 in
set_option maxHeartbeats 4000000 in
theorem wX10_dinnerLine_e {p : Program} {l : Launch} {e : Env} {s : State} {m : MethodId} {args : Array Value} {below : List Frame} {meth : Method} {c : Code} {Γ : Gm} {A : Nat → Prop} {G : Gs} {o : Nat} {r : Rec} {v1 : Int64} {v3 : Int32} {q : (Rec × Int32)} {fin : Rec × Int32} (C : Cx p s m args meth c yX10_dinnerLine cX10_dinnerLine 4 (some .boolean) Γ A) (hk : kd Γ o = some 10) (hf : fX10_dinnerLine r v1 v3 = some q) (hq : (fun x => x = fin) q) : Wk p l e { frames := 4, cells := 0, slots := 0, locals := 92 } s m args below meth c Γ A (ug G o fin.1) (some (.int fin.2)) 0 4 [(0, .ref (ad Γ o)), (1, .long v1), (3, .int v3)] [] (ug G o r) := by
  intro H locs ls hw hS hl
  unfold fX10_dinnerLine at hf
  obtain ⟨hx, hb, hml, hr, hown, htw, hlocks, hE⟩ := id C
  have hown : s.vm.findClass RX10 = some m.cls := hown
  refine lv_lload_n hx hb dX10_dinnerLine_0 rfl (lv_at hl 1 rfl) ?_
  refine lv_ldc2 hx hb hown (htw _ mw1515) dX10_dinnerLine_1 ?_
  refine W.lcmp hx hb dX10_dinnerLine_4 ?_
  refine lv_if_eq (tgt := 13) hx hb dX10_dinnerLine_5 (by decide) (fun c13 => ?_) (fun c13 => ?_)
  · have hf := ifp c13 hf
    refine lv_aload_n hx hb dX10_dinnerLine_13 rfl (lv_at hl 0 rfl) ?_
    refine lv_iconst (v := 0) hx hb dX10_dinnerLine_14 (by decide) ?_
    refine lv_bipush (v := 8) hx hb dX10_dinnerLine_15 (by decide) ?_
    refine lv_iload_n hx hb dX10_dinnerLine_17 rfl (lv_at hl 2 rfl) ?_
    obtain ⟨z1, hz1, hf⟩ := bd hf
    refine cl_Vv (rest := []) (kX10_full (l := l) (Γ := Γ) (A := A) (G := G) (o := o) hk hz1) ⟨hx, hb, hml, hown, htw⟩ hE hw hS (wo_me hw hk) (q0 := 0) rfl rfl mw1447 mw1449 mw49 mw129 mw1450 pdX10_full ⟨Nat.le_of_ble_eq_true rfl, Nat.le_of_ble_eq_true rfl⟩ rfl rfl hl.1 (Nat.le_of_ble_eq_true rfl) dX10_dinnerLine_18 (fun H locs hw hS => ?_)
    refine lv_aload_n hx hb dX10_dinnerLine_21 rfl (lv_at hl 0 rfl) ?_
    obtain ⟨z2, hz2, hf⟩ := bd hf
    refine cl_Vv (rest := []) (kX10_token (l := l) (Γ := Γ) (A := A) (G := G) (o := o) hk hz2) ⟨hx, hb, hml, hown, htw⟩ hE hw hS (wo_me hw hk) (q0 := 0) rfl rfl mw1419 mw1421 mw43 mw129 mw1422 pdX10_token ⟨Nat.le_of_ble_eq_true rfl, Nat.le_of_ble_eq_true rfl⟩ rfl rfl hl.1 (Nat.le_of_ble_eq_true rfl) dX10_dinnerLine_22 (fun H locs hw hS => ?_)
    refine lv_aload_n hx hb dX10_dinnerLine_25 rfl (lv_at hl 0 rfl) ?_
    refine lv_iconst (v := 0) hx hb dX10_dinnerLine_26 (by decide) ?_
    refine lv_aload_n hx hb dX10_dinnerLine_27 rfl (lv_at hl 0 rfl) ?_
    refine va_get (ci := 10) (v := .int (gi z2 23)) (C := RX10) (T := TX10) (N := 49) hx hb htw uwX10 hown hE.1 (wo_me hw hk) 0 rfl rfl 23 (by decide) (htw _ mw1266) (fun _ h9 => h9) rfl dX10_dinnerLine_28 ?_
    refine lv_bipush (v := 60) hx hb dX10_dinnerLine_31 (by decide) ?_
    obtain ⟨z3, hz3, hf⟩ := bd hf
    refine cl_Vs (rest := []) (kX10_take (l := l) (Γ := Γ) (A := A) (G := G) (o := o) hk hz3) ⟨hx, hb, hml, hown, htw⟩ hE hw hS (wo_me hw hk) (q0 := 0) rfl rfl mw1486 mw1488 mw57 mw129 mw1489 pdX10_take ⟨Nat.le_of_ble_eq_true rfl, Nat.le_of_ble_eq_true rfl⟩ rfl rfl hl.1 (Nat.le_of_ble_eq_true rfl) dX10_dinnerLine_33 (fun H locs hw hS => ?_)
    refine lv_if_eq (tgt := 59) hx hb dX10_dinnerLine_36 (by decide) (fun c10 => ?_) (fun c10 => ?_)
    · have hf := ifp c10 hf
      refine lv_iconst (v := 0) hx hb dX10_dinnerLine_59 (by decide) ?_
      obtain rfl := Option.some.inj hf
      subst hq
      exact rt_z C (Or.inl rfl) hw hS dX10_dinnerLine_60
    · have hf := ifn c10 hf
      refine lv_aload_n hx hb dX10_dinnerLine_39 rfl (lv_at hl 0 rfl) ?_
      refine lv_iconst (v := 1) hx hb dX10_dinnerLine_40 (by decide) ?_
      refine lv_iconst (v := (-1)) hx hb dX10_dinnerLine_41 (by decide) ?_
      obtain ⟨z4, hz4, hf⟩ := bd hf
      refine cl_Vs (rest := []) (kX10_takePiece (l := l) (Γ := Γ) (A := A) (G := G) (o := o) hk hz4) ⟨hx, hb, hml, hown, htw⟩ hE hw hS (wo_me hw hk) (q0 := 0) rfl rfl mw1459 mw1461 mw52 mw129 mw1462 pdX10_takePiece ⟨Nat.le_of_ble_eq_true rfl, Nat.le_of_ble_eq_true rfl⟩ rfl rfl hl.1 (Nat.le_of_ble_eq_true rfl) dX10_dinnerLine_42 (fun H locs hw hS => ?_)
      refine lv_if_eq (tgt := 59) hx hb dX10_dinnerLine_45 (by decide) (fun c9 => ?_) (fun c9 => ?_)
      · have hf := ifp c9 hf
        refine lv_iconst (v := 0) hx hb dX10_dinnerLine_59 (by decide) ?_
        obtain rfl := Option.some.inj hf
        subst hq
        exact rt_z C (Or.inl rfl) hw hS dX10_dinnerLine_60
      · have hf := ifn c9 hf
        refine lv_aload_n hx hb dX10_dinnerLine_48 rfl (lv_at hl 0 rfl) ?_
        refine lv_iconst (v := 2) hx hb dX10_dinnerLine_49 (by decide) ?_
        refine lv_iconst (v := 1) hx hb dX10_dinnerLine_50 (by decide) ?_
        refine lv_bipush (v := 60) hx hb dX10_dinnerLine_51 (by decide) ?_
        obtain ⟨z5, hz5, hf⟩ := bd hf
        refine cl_Vs (rest := []) (kX10_take (l := l) (Γ := Γ) (A := A) (G := G) (o := o) hk hz5) ⟨hx, hb, hml, hown, htw⟩ hE hw hS (wo_me hw hk) (q0 := 0) rfl rfl mw1486 mw1488 mw57 mw129 mw1489 pdX10_take ⟨Nat.le_of_ble_eq_true rfl, Nat.le_of_ble_eq_true rfl⟩ rfl rfl hl.1 (Nat.le_of_ble_eq_true rfl) dX10_dinnerLine_53 (fun H locs hw hS => ?_)
        refine lv_if_ne (tgt := 61) hx hb dX10_dinnerLine_56 (by decide) (fun c8 => ?_) (fun c8 => ?_)
        · have hf := ifn c8 hf
          refine lv_aload_n hx hb dX10_dinnerLine_61 rfl (lv_at hl 0 rfl) ?_
          refine lv_aload_n hx hb dX10_dinnerLine_62 rfl (lv_at hl 0 rfl) ?_
          refine va_get (ci := 10) (v := .ref (aa Γ o 20)) (C := RX10) (T := TX10) (N := 49) hx hb htw uwX10 hown hE.1 (wo_me hw hk) 0 rfl rfl 20 (by decide) (htw _ mw1263) (fun _ h9 => h9) rfl dX10_dinnerLine_63 ?_
          refine lv_iconst (v := 0) hx hb dX10_dinnerLine_66 (by decide) ?_
          refine va_iald hx hb hE.1 (wo_me hw hk) 11 0 rfl rfl (inR_in (i := 0) (n := 4) (by decide)) dX10_dinnerLine_67 ?_
          obtain ⟨r6, hr6, hf⟩ := bd hf
          have hr6 := Option.some.inj hr6
          refine wo_put (C := RX10) (T := TX10) (N := 49) (v := .int (ga z5.1 20 (Int32.toNatClampNeg 0))) (ty := .int) hx hb htw uwX10 tyX10 tyX10_ok nmX10 hown hE hw hS hk rfl rfl 23 (by decide) (htw _ mw1266) (fun _ h9 => h9) rfl (tyX10_ok 23 (by decide)) rfl rfl (Nat.le_of_ble_eq_true rfl) (st10_23 hr6) dX10_dinnerLine_68 (fun H locs hw hS => ?_)
          refine lv_aload_n hx hb dX10_dinnerLine_71 rfl (lv_at hl 0 rfl) ?_
          refine lv_iconst (v := 3) hx hb dX10_dinnerLine_72 (by decide) ?_
          refine lv_bipush (v := 8) hx hb dX10_dinnerLine_73 (by decide) ?_
          obtain ⟨z7, hz7, hf⟩ := bd hf
          refine cl_Vv (rest := []) (kX10_keepRow (l := l) (Γ := Γ) (A := A) (G := G) (o := o) hk hz7) ⟨hx, hb, hml, hown, htw⟩ hE hw hS (wo_me hw hk) (q0 := 0) rfl rfl mw1507 mw1509 mw60 mw129 mw1510 pdX10_keepRow ⟨Nat.le_of_ble_eq_true rfl, Nat.le_of_ble_eq_true rfl⟩ rfl rfl hl.1 (Nat.le_of_ble_eq_true rfl) dX10_dinnerLine_75 (fun H locs hw hS => ?_)
          refine lv_iconst (v := 1) hx hb dX10_dinnerLine_78 (by decide) ?_
          obtain rfl := Option.some.inj hf
          subst hq
          exact rt_z C (Or.inr rfl) hw hS dX10_dinnerLine_79
        · have hf := ifp c8 hf
          refine lv_iconst (v := 0) hx hb dX10_dinnerLine_59 (by decide) ?_
          obtain rfl := Option.some.inj hf
          subst hq
          exact rt_z C (Or.inl rfl) hw hS dX10_dinnerLine_60
  · have hf := ifn c13 hf
    refine lv_aload_n hx hb dX10_dinnerLine_8 rfl (lv_at hl 0 rfl) ?_
    obtain ⟨z11, hz11, hf⟩ := bd hf
    refine cl_Vs (rest := []) (kX10_fails (l := l) (Γ := Γ) (A := A) (G := G) (o := o) hk hz11) ⟨hx, hb, hml, hown, htw⟩ hE hw hS (wo_me hw hk) (q0 := 0) rfl rfl mw1443 mw1445 mw48 mw129 mw1446 pdX10_fails ⟨Nat.le_of_ble_eq_true rfl, Nat.le_of_ble_eq_true rfl⟩ rfl rfl hl.1 (Nat.le_of_ble_eq_true rfl) dX10_dinnerLine_9 (fun H locs hw hS => ?_)
    obtain ⟨g12, hf⟩ := gd_some hf
    obtain rfl := Option.some.inj hf
    subst hq
    exact rt_z C (isB_or g12) hw hS dX10_dinnerLine_12

theorem kX10_dinnerLine {l : Launch} {Γ : Gm} {A : Nat → Prop} {G : Gs} {o : Nat} {r : Rec} {v1 : Int64} {v3 : Int32} {fin : Rec × Int32} (hk : kd Γ o = some 10) (hf : fX10_dinnerLine r v1 v3 = some fin) : Kt l yX10_dinnerLine cX10_dinnerLine 4 (some .boolean) 4 92 Γ A (ug G o r) (ug G o fin.1) [.ref (ad Γ o), .long v1, .int v3] (some (.int fin.2)) :=
  kt_of (by decide) (Nat.le_of_ble_eq_true rfl) (fun p e s m args below meth c C => wX10_dinnerLine_e C hk hf rfl)
theorem kgX10_dinnerLine {l : Launch} {Γ : Gm} {A : Nat → Prop} {G : Gs} {o : Nat} {v1 : Int64} {v3 : Int32} {fin : Rec × Int32} (hk : kd Γ o = some 10) (hf : fX10_dinnerLine (G o) v1 v3 = some fin) : Kt l yX10_dinnerLine cX10_dinnerLine 4 (some .boolean) 4 92 Γ A G (ug G o fin.1) [.ref (ad Γ o), .long v1, .int v3] (some (.int fin.2)) := by
  have h := kX10_dinnerLine (l := l) (A := A) (G := G) (r := G o) hk hf
  rw [ug_self] at h
  exact h
noncomputable def fX10_logLine (r : Rec) (v1 : Int64) (v3 : Int32) : Option (Rec × Int32) :=
  if (lg_cmp v1 495673372261) = 0 then (fX10_full r 0 8 v3).bind fun z1 => (fX10_token z1).bind fun z2 => (fX10_takePiece z2 0 (-1)).bind fun z3 => if z3.2 = 0 then some ((z3.1, 0)) else (fX10_take z3.1 1 0 60).bind fun z4 => if z4.2 = 0 then some ((z4.1, 0)) else (fX10_keepRow z4.1 2 8).bind fun z5 => some ((z5, 1)) else (fX10_fails r).bind fun z8 => gd (isB z8.2) (some ((z8.1, z8.2)))
set_option maxRecDepth 100000 in
set_option maxHeartbeats 4000000 in
theorem wX10_logLine_e {p : Program} {l : Launch} {e : Env} {s : State} {m : MethodId} {args : Array Value} {below : List Frame} {meth : Method} {c : Code} {Γ : Gm} {A : Nat → Prop} {G : Gs} {o : Nat} {r : Rec} {v1 : Int64} {v3 : Int32} {q : (Rec × Int32)} {fin : Rec × Int32} (C : Cx p s m args meth c yX10_logLine cX10_logLine 4 (some .boolean) Γ A) (hk : kd Γ o = some 10) (hf : fX10_logLine r v1 v3 = some q) (hq : (fun x => x = fin) q) : Wk p l e { frames := 4, cells := 0, slots := 0, locals := 92 } s m args below meth c Γ A (ug G o fin.1) (some (.int fin.2)) 0 4 [(0, .ref (ad Γ o)), (1, .long v1), (3, .int v3)] [] (ug G o r) := by
  intro H locs ls hw hS hl
  unfold fX10_logLine at hf
  obtain ⟨hx, hb, hml, hr, hown, htw, hlocks, hE⟩ := id C
  have hown : s.vm.findClass RX10 = some m.cls := hown
  refine lv_lload_n hx hb dX10_logLine_0 rfl (lv_at hl 1 rfl) ?_
  refine lv_ldc2 hx hb hown (htw _ mw1520) dX10_logLine_1 ?_
  refine W.lcmp hx hb dX10_logLine_4 ?_
  refine lv_if_eq (tgt := 13) hx hb dX10_logLine_5 (by decide) (fun c10 => ?_) (fun c10 => ?_)
  · have hf := ifp c10 hf
    refine lv_aload_n hx hb dX10_logLine_13 rfl (lv_at hl 0 rfl) ?_
    refine lv_iconst (v := 0) hx hb dX10_logLine_14 (by decide) ?_
    refine lv_bipush (v := 8) hx hb dX10_logLine_15 (by decide) ?_
    refine lv_iload_n hx hb dX10_logLine_17 rfl (lv_at hl 2 rfl) ?_
    obtain ⟨z1, hz1, hf⟩ := bd hf
    refine cl_Vv (rest := []) (kX10_full (l := l) (Γ := Γ) (A := A) (G := G) (o := o) hk hz1) ⟨hx, hb, hml, hown, htw⟩ hE hw hS (wo_me hw hk) (q0 := 0) rfl rfl mw1447 mw1449 mw49 mw129 mw1450 pdX10_full ⟨Nat.le_of_ble_eq_true rfl, Nat.le_of_ble_eq_true rfl⟩ rfl rfl hl.1 (Nat.le_of_ble_eq_true rfl) dX10_logLine_18 (fun H locs hw hS => ?_)
    refine lv_aload_n hx hb dX10_logLine_21 rfl (lv_at hl 0 rfl) ?_
    obtain ⟨z2, hz2, hf⟩ := bd hf
    refine cl_Vv (rest := []) (kX10_token (l := l) (Γ := Γ) (A := A) (G := G) (o := o) hk hz2) ⟨hx, hb, hml, hown, htw⟩ hE hw hS (wo_me hw hk) (q0 := 0) rfl rfl mw1419 mw1421 mw43 mw129 mw1422 pdX10_token ⟨Nat.le_of_ble_eq_true rfl, Nat.le_of_ble_eq_true rfl⟩ rfl rfl hl.1 (Nat.le_of_ble_eq_true rfl) dX10_logLine_22 (fun H locs hw hS => ?_)
    refine lv_aload_n hx hb dX10_logLine_25 rfl (lv_at hl 0 rfl) ?_
    refine lv_iconst (v := 0) hx hb dX10_logLine_26 (by decide) ?_
    refine lv_iconst (v := (-1)) hx hb dX10_logLine_27 (by decide) ?_
    obtain ⟨z3, hz3, hf⟩ := bd hf
    refine cl_Vs (rest := []) (kX10_takePiece (l := l) (Γ := Γ) (A := A) (G := G) (o := o) hk hz3) ⟨hx, hb, hml, hown, htw⟩ hE hw hS (wo_me hw hk) (q0 := 0) rfl rfl mw1459 mw1461 mw52 mw129 mw1462 pdX10_takePiece ⟨Nat.le_of_ble_eq_true rfl, Nat.le_of_ble_eq_true rfl⟩ rfl rfl hl.1 (Nat.le_of_ble_eq_true rfl) dX10_logLine_28 (fun H locs hw hS => ?_)
    refine lv_if_eq (tgt := 45) hx hb dX10_logLine_31 (by decide) (fun c7 => ?_) (fun c7 => ?_)
    · have hf := ifp c7 hf
      refine lv_iconst (v := 0) hx hb dX10_logLine_45 (by decide) ?_
      obtain rfl := Option.some.inj hf
      subst hq
      exact rt_z C (Or.inl rfl) hw hS dX10_logLine_46
    · have hf := ifn c7 hf
      refine lv_aload_n hx hb dX10_logLine_34 rfl (lv_at hl 0 rfl) ?_
      refine lv_iconst (v := 1) hx hb dX10_logLine_35 (by decide) ?_
      refine lv_iconst (v := 0) hx hb dX10_logLine_36 (by decide) ?_
      refine lv_bipush (v := 60) hx hb dX10_logLine_37 (by decide) ?_
      obtain ⟨z4, hz4, hf⟩ := bd hf
      refine cl_Vs (rest := []) (kX10_take (l := l) (Γ := Γ) (A := A) (G := G) (o := o) hk hz4) ⟨hx, hb, hml, hown, htw⟩ hE hw hS (wo_me hw hk) (q0 := 0) rfl rfl mw1486 mw1488 mw57 mw129 mw1489 pdX10_take ⟨Nat.le_of_ble_eq_true rfl, Nat.le_of_ble_eq_true rfl⟩ rfl rfl hl.1 (Nat.le_of_ble_eq_true rfl) dX10_logLine_39 (fun H locs hw hS => ?_)
      refine lv_if_ne (tgt := 47) hx hb dX10_logLine_42 (by decide) (fun c6 => ?_) (fun c6 => ?_)
      · have hf := ifn c6 hf
        refine lv_aload_n hx hb dX10_logLine_47 rfl (lv_at hl 0 rfl) ?_
        refine lv_iconst (v := 2) hx hb dX10_logLine_48 (by decide) ?_
        refine lv_bipush (v := 8) hx hb dX10_logLine_49 (by decide) ?_
        obtain ⟨z5, hz5, hf⟩ := bd hf
        refine cl_Vv (rest := []) (kX10_keepRow (l := l) (Γ := Γ) (A := A) (G := G) (o := o) hk hz5) ⟨hx, hb, hml, hown, htw⟩ hE hw hS (wo_me hw hk) (q0 := 0) rfl rfl mw1507 mw1509 mw60 mw129 mw1510 pdX10_keepRow ⟨Nat.le_of_ble_eq_true rfl, Nat.le_of_ble_eq_true rfl⟩ rfl rfl hl.1 (Nat.le_of_ble_eq_true rfl) dX10_logLine_51 (fun H locs hw hS => ?_)
        refine lv_iconst (v := 1) hx hb dX10_logLine_54 (by decide) ?_
        obtain rfl := Option.some.inj hf
        subst hq
        exact rt_z C (Or.inr rfl) hw hS dX10_logLine_55
      · have hf := ifp c6 hf
        refine lv_iconst (v := 0) hx hb dX10_logLine_45 (by decide) ?_
        obtain rfl := Option.some.inj hf
        subst hq
        exact rt_z C (Or.inl rfl) hw hS dX10_logLine_46
  · have hf := ifn c10 hf
    refine lv_aload_n hx hb dX10_logLine_8 rfl (lv_at hl 0 rfl) ?_
    obtain ⟨z8, hz8, hf⟩ := bd hf
    refine cl_Vs (rest := []) (kX10_fails (l := l) (Γ := Γ) (A := A) (G := G) (o := o) hk hz8) ⟨hx, hb, hml, hown, htw⟩ hE hw hS (wo_me hw hk) (q0 := 0) rfl rfl mw1443 mw1445 mw48 mw129 mw1446 pdX10_fails ⟨Nat.le_of_ble_eq_true rfl, Nat.le_of_ble_eq_true rfl⟩ rfl rfl hl.1 (Nat.le_of_ble_eq_true rfl) dX10_logLine_9 (fun H locs hw hS => ?_)
    obtain ⟨g9, hf⟩ := gd_some hf
    obtain rfl := Option.some.inj hf
    subst hq
    exact rt_z C (isB_or g9) hw hS dX10_logLine_12

theorem kX10_logLine {l : Launch} {Γ : Gm} {A : Nat → Prop} {G : Gs} {o : Nat} {r : Rec} {v1 : Int64} {v3 : Int32} {fin : Rec × Int32} (hk : kd Γ o = some 10) (hf : fX10_logLine r v1 v3 = some fin) : Kt l yX10_logLine cX10_logLine 4 (some .boolean) 4 92 Γ A (ug G o r) (ug G o fin.1) [.ref (ad Γ o), .long v1, .int v3] (some (.int fin.2)) :=
  kt_of (by decide) (Nat.le_of_ble_eq_true rfl) (fun p e s m args below meth c C => wX10_logLine_e C hk hf rfl)
theorem kgX10_logLine {l : Launch} {Γ : Gm} {A : Nat → Prop} {G : Gs} {o : Nat} {v1 : Int64} {v3 : Int32} {fin : Rec × Int32} (hk : kd Γ o = some 10) (hf : fX10_logLine (G o) v1 v3 = some fin) : Kt l yX10_logLine cX10_logLine 4 (some .boolean) 4 92 Γ A G (ug G o fin.1) [.ref (ad Γ o), .long v1, .int v3] (some (.int fin.2)) := by
  have h := kX10_logLine (l := l) (A := A) (G := G) (r := G o) hk hf
  rw [ug_self] at h
  exact h
