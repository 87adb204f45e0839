noncomputable def fX10_lineOf (r : Rec) (v1 : Int32) (v2 : Int64) (v4 : Int32) : Option (Rec × Int32) :=
  if v1 = 0 then (fX10_houseLine r v2 v4).bind fun z3 => gd (isB z3.2) (some ((z3.1, z3.2))) else if v1 = 1 then (fX10_monthLine r v2 v4).bind fun z5 => gd (isB z5.2) (some ((z5.1, z5.2))) else if v1 = 2 then (fX10_dinnerLine r v2 v4).bind fun z7 => gd (isB z7.2) (some ((z7.1, z7.2))) else (fX10_logLine r v2 v4).bind fun z1 => gd (isB z1.2) (some ((z1.1, z1.2)))
set_option maxRecDepth 100000 in
set_option maxHeartbeats 4000000 in
theorem wX10_lineOf_e {p : Program} {l : Launch} {e : Env} {s : State} {m : MethodId} {args : Array Value} {below : List Frame} {meth : Method} {c : Code} {Γ : Gm} {A : Nat → Prop} {G : Gs} {o : Nat} {r : Rec} {v1 : Int32} {v2 : Int64} {v4 : Int32} {q : (Rec × Int32)} {fin : Rec × Int32} (C : Cx p s m args meth c yX10_lineOf cX10_lineOf 5 (some .boolean) Γ A) (hk : kd Γ o = some 10) (hf : fX10_lineOf r v1 v2 v4 = some q) (hq : (fun x => x = fin) q) : Wk p l e { frames := 6, cells := 0, slots := 0, locals := 136 } s m args below meth c Γ A (ug G o fin.1) (some (.int fin.2)) 0 5 [(0, .ref (ad Γ o)), (1, .int v1), (2, .long v2), (4, .int v4)] [] (ug G o r) := by
  intro H locs ls hw hS hl
  unfold fX10_lineOf at hf
  obtain ⟨hx, hb, hml, hr, hown, htw, hlocks, hE⟩ := id C
  have hown : s.vm.findClass RX10 = some m.cls := hown
  refine lv_iload_n hx hb dX10_lineOf_0 rfl (lv_at hl 1 rfl) ?_
  by_cases c9 : v1 = 0
  · have hf := ifp c9 hf
    rw [c9]
    refine lv_tableIn (off := 27) (tgt := 28) hx hb dX10_lineOf_1 (by decide) (by decide) (by rfl) (by decide) ?_
    refine lv_aload_n hx hb dX10_lineOf_28 rfl (lv_at hl 0 rfl) ?_
    refine lv_lload_n hx hb dX10_lineOf_29 rfl (lv_at hl 2 rfl) ?_
    refine lv_iload hx hb dX10_lineOf_30 (lv_at hl 3 rfl) ?_
    obtain ⟨z3, hz3, hf⟩ := bd hf
    refine cl_Vs (rest := []) (kX10_houseLine (l := l) (Γ := Γ) (A := A) (G := G) (o := o) hk hz3) ⟨hx, hb, hml, hown, htw⟩ hE hw hS (wo_me hw hk) (q0 := 0) rfl rfl mw1435 mw1437 mw47 mw129 mw1438 pdX10_houseLine ⟨Nat.le_of_ble_eq_true rfl, Nat.le_of_ble_eq_true rfl⟩ rfl rfl hl.1 (Nat.le_of_ble_eq_true rfl) dX10_lineOf_32 (fun H locs hw hS => ?_)
    obtain ⟨g4, hf⟩ := gd_some hf
    obtain rfl := Option.some.inj hf
    subst hq
    exact rt_z C (isB_or g4) hw hS dX10_lineOf_35
  have hf := ifn c9 hf
  by_cases c10 : v1 = 1
  · have hf := ifp c10 hf
    rw [c10]
    refine lv_tableIn (off := 35) (tgt := 36) hx hb dX10_lineOf_1 (by decide) (by decide) (by rfl) (by decide) ?_
    refine lv_aload_n hx hb dX10_lineOf_36 rfl (lv_at hl 0 rfl) ?_
    refine lv_lload_n hx hb dX10_lineOf_37 rfl (lv_at hl 2 rfl) ?_
    refine lv_iload hx hb dX10_lineOf_38 (lv_at hl 3 rfl) ?_
    obtain ⟨z5, hz5, hf⟩ := bd hf
    refine cl_Vs (rest := []) (kX10_monthLine (l := l) (Γ := Γ) (A := A) (G := G) (o := o) hk hz5) ⟨hx, hb, hml, hown, htw⟩ hE hw hS (wo_me hw hk) (q0 := 0) rfl rfl mw1494 mw1496 mw59 mw129 mw1497 pdX10_monthLine ⟨Nat.le_of_ble_eq_true rfl, Nat.le_of_ble_eq_true rfl⟩ rfl rfl hl.1 (Nat.le_of_ble_eq_true rfl) dX10_lineOf_40 (fun H locs hw hS => ?_)
    obtain ⟨g6, hf⟩ := gd_some hf
    obtain rfl := Option.some.inj hf
    subst hq
    exact rt_z C (isB_or g6) hw hS dX10_lineOf_43
  have hf := ifn c10 hf
  by_cases c11 : v1 = 2
  · have hf := ifp c11 hf
    rw [c11]
    refine lv_tableIn (off := 43) (tgt := 44) hx hb dX10_lineOf_1 (by decide) (by decide) (by rfl) (by decide) ?_
    refine lv_aload_n hx hb dX10_lineOf_44 rfl (lv_at hl 0 rfl) ?_
    refine lv_lload_n hx hb dX10_lineOf_45 rfl (lv_at hl 2 rfl) ?_
    refine lv_iload hx hb dX10_lineOf_46 (lv_at hl 3 rfl) ?_
    obtain ⟨z7, hz7, hf⟩ := bd hf
    refine cl_Vs (rest := []) (kX10_dinnerLine (l := l) (Γ := Γ) (A := A) (G := G) (o := o) hk hz7) ⟨hx, hb, hml, hown, htw⟩ hE hw hS (wo_me hw hk) (q0 := 0) rfl rfl mw1511 mw1513 mw61 mw129 mw1514 pdX10_dinnerLine ⟨Nat.le_of_ble_eq_true rfl, Nat.le_of_ble_eq_true rfl⟩ rfl rfl hl.1 (Nat.le_of_ble_eq_true rfl) dX10_lineOf_48 (fun H locs hw hS => ?_)
    obtain ⟨g8, hf⟩ := gd_some hf
    obtain rfl := Option.some.inj hf
    subst hq
    exact rt_z C (isB_or g8) hw hS dX10_lineOf_51
  have hf := ifn c11 hf
  refine lv_tableOut (tgt := 52) hx hb dX10_lineOf_1 (by have := And.intro (ts_ne (k := 0) (by decide) c9) (And.intro (ts_ne (k := 1) (by decide) c10) (And.intro (ts_ne (k := 2) (by decide) c11) (True.intro))); omega) (by decide) ?_
  refine lv_aload_n hx hb dX10_lineOf_52 rfl (lv_at hl 0 rfl) ?_
  refine lv_lload_n hx hb dX10_lineOf_53 rfl (lv_at hl 2 rfl) ?_
  refine lv_iload hx hb dX10_lineOf_54 (lv_at hl 3 rfl) ?_
  obtain ⟨z1, hz1, hf⟩ := bd hf
  refine cl_Vs (rest := []) (kX10_logLine (l := l) (Γ := Γ) (A := A) (G := G) (o := o) hk hz1) ⟨hx, hb, hml, hown, htw⟩ hE hw hS (wo_me hw hk) (q0 := 0) rfl rfl mw1516 mw1518 mw62 mw129 mw1519 pdX10_logLine ⟨Nat.le_of_ble_eq_true rfl, Nat.le_of_ble_eq_true rfl⟩ rfl rfl hl.1 (Nat.le_of_ble_eq_true rfl) dX10_lineOf_56 (fun H locs hw hS => ?_)
  obtain ⟨g2, hf⟩ := gd_some hf
  obtain rfl := Option.some.inj hf
  subst hq
  exact rt_z C (isB_or g2) hw hS dX10_lineOf_59

theorem kX10_lineOf {l : Launch} {Γ : Gm} {A : Nat → Prop} {G : Gs} {o : Nat} {r : Rec} {v1 : Int32} {v2 : Int64} {v4 : Int32} {fin : Rec × Int32} (hk : kd Γ o = some 10) (hf : fX10_lineOf r v1 v2 v4 = some fin) : Kt l yX10_lineOf cX10_lineOf 5 (some .boolean) 6 136 Γ A (ug G o r) (ug G o fin.1) [.ref (ad Γ o), .int v1, .long v2, .int v4] (some (.int fin.2)) :=
  kt_of (by decide) (Nat.le_of_ble_eq_true rfl) (fun p e s m args below meth c C => wX10_lineOf_e C hk hf rfl)
theorem kgX10_lineOf {l : Launch} {Γ : Gm} {A : Nat → Prop} {G : Gs} {o : Nat} {v1 : Int32} {v2 : Int64} {v4 : Int32} {fin : Rec × Int32} (hk : kd Γ o = some 10) (hf : fX10_lineOf (G o) v1 v2 v4 = some fin) : Kt l yX10_lineOf cX10_lineOf 5 (some .boolean) 6 136 Γ A G (ug G o fin.1) [.ref (ad Γ o), .int v1, .long v2, .int v4] (some (.int fin.2)) := by
  have h := kX10_lineOf (l := l) (A := A) (G := G) (r := G o) hk hf
  rw [ug_self] at h
  exact h
noncomputable def bX10_lines_71 (r : Rec) (v1 : Int32) (v2 : Int32) : Option ((Int32 × Rec) ⊕ (Rec × Int32)) :=
  some (.inl (v2, r))
set_option maxRecDepth 100000 in
set_option maxHeartbeats 4000000 in
theorem wX10_lines_71 {p : Program} {l : Launch} {e : Env} {s : State} {m : MethodId} {args : Array Value} {below : List Frame} {meth : Method} {c : Code} {Γ : Gm} {A : Nat → Prop} {G : Gs} {o : Nat} {r : Rec} {v1 : Int32} {v2 : Int32} {q : ((Int32 × Rec) ⊕ (Rec × Int32))} {fin : Rec × Int32} (C : Cx p s m args meth c yX10_lines cX10_lines 4 (some .boolean) Γ A) (hk : kd Γ o = some 10) (hf : bX10_lines_71 r v1 v2 = some q) (hq : (KC (fun st : Int32 × Rec => Wk p l e { frames := 7, cells := 0, slots := 0, locals := 160 } s m args below meth c Γ A (ug G o fin.1) (some (.int fin.2)) 2 4 [(0, .ref (ad Γ o)), (1, .int v1), (2, .int st.1)] [] (ug G o st.2)) (fun x => x = fin)) q) : Wk p l e { frames := 7, cells := 0, slots := 0, locals := 160 } s m args below meth c Γ A (ug G o fin.1) (some (.int fin.2)) 71 4 [(0, .ref (ad Γ o)), (1, .int v1), (2, .int v2)] [] (ug G o r) := by
  intro H locs ls hw hS hl
  unfold bX10_lines_71 at hf
  obtain ⟨hx, hb, hml, hr, hown, htw, hlocks, hE⟩ := id C
  have hown : s.vm.findClass RX10 = some m.cls := hown
  refine lv_goto (tgt := 2) hx hb dX10_lines_71 (by decide) ?_
  obtain rfl := Option.some.inj hf
  exact hq.1 _ rfl H locs ls hw hS hl

noncomputable def bX10_lines_63 (r : Rec) (v1 : Int32) (v2 : Int32) : Option ((Int32 × Rec) ⊕ (Rec × Int32)) :=
  if v2 = 0 then bX10_lines_71 r v1 v2 else (fX10_token r).bind fun z1 => bX10_lines_71 z1 v1 v2
set_option maxRecDepth 100000 in
set_option maxHeartbeats 4000000 in
theorem wX10_lines_63 {p : Program} {l : Launch} {e : Env} {s : State} {m : MethodId} {args : Array Value} {below : List Frame} {meth : Method} {c : Code} {Γ : Gm} {A : Nat → Prop} {G : Gs} {o : Nat} {r : Rec} {v1 : Int32} {v2 : Int32} {q : ((Int32 × Rec) ⊕ (Rec × Int32))} {fin : Rec × Int32} (C : Cx p s m args meth c yX10_lines cX10_lines 4 (some .boolean) Γ A) (hk : kd Γ o = some 10) (hf : bX10_lines_63 r v1 v2 = some q) (hq : (KC (fun st : Int32 × Rec => Wk p l e { frames := 7, cells := 0, slots := 0, locals := 160 } s m args below meth c Γ A (ug G o fin.1) (some (.int fin.2)) 2 4 [(0, .ref (ad Γ o)), (1, .int v1), (2, .int st.1)] [] (ug G o st.2)) (fun x => x = fin)) q) : Wk p l e { frames := 7, cells := 0, slots := 0, locals := 160 } s m args below meth c Γ A (ug G o fin.1) (some (.int fin.2)) 63 4 [(0, .ref (ad Γ o)), (1, .int v1), (2, .int v2)] [] (ug G o r) := by
  intro H locs ls hw hS hl
  unfold bX10_lines_63 at hf
  obtain ⟨hx, hb, hml, hr, hown, htw, hlocks, hE⟩ := id C
  have hown : s.vm.findClass RX10 = some m.cls := hown
  refine lv_iload_n hx hb dX10_lines_63 rfl (lv_at hl 2 rfl) ?_
  refine lv_if_eq (tgt := 71) hx hb dX10_lines_64 (by decide) (fun c2 => ?_) (fun c2 => ?_)
  · have hf := ifp c2 hf
    exact wX10_lines_71 C hk hf hq H locs ls hw hS hl
  · have hf := ifn c2 hf
    refine lv_aload_n hx hb dX10_lines_67 rfl (lv_at hl 0 rfl) ?_
    obtain ⟨z1, hz1, hf⟩ := bd hf
    refine cl_Vv (rest := []) (kX10_token (l := l) (Γ := Γ) (A := A) (G := G) (o := o) hk hz1) ⟨hx, hb, hml, hown, htw⟩ hE hw hS (wo_me hw hk) (q0 := 0) rfl rfl mw1419 mw1421 mw43 mw129 mw1422 pdX10_token ⟨Nat.le_of_ble_eq_true rfl, Nat.le_of_ble_eq_true rfl⟩ rfl rfl hl.1 (Nat.le_of_ble_eq_true rfl) dX10_lines_68 (fun H locs hw hS => ?_)
    exact wX10_lines_71 C hk hf hq H locs ls hw hS hl

noncomputable def bX10_lines_41 (r : Rec) (v1 : Int32) (v3 : Int32) (s0 : Int64) (s1 : Int32) : Option ((Int32 × Rec) ⊕ (Rec × Int32)) :=
  (fX10_lineOf r s1 s0 v3).bind fun z3 => if z3.2 = 0 then bX10_lines_63 z3.1 v1 z3.2 else if (gi z3.1 13) = 4 then bX10_lines_63 z3.1 v1 z3.2 else (fX10_fails z3.1).bind fun z4 => bX10_lines_63 z4.1 v1 z4.2
set_option maxRecDepth 100000 in
set_option maxHeartbeats 4000000 in
theorem wX10_lines_41 {p : Program} {l : Launch} {e : Env} {s : State} {m : MethodId} {args : Array Value} {below : List Frame} {meth : Method} {c : Code} {Γ : Gm} {A : Nat → Prop} {G : Gs} {o : Nat} {r : Rec} {v1 : Int32} {v3 : Int32} {s0 : Int64} {s1 : Int32} {q : ((Int32 × Rec) ⊕ (Rec × Int32))} {fin : Rec × Int32} (C : Cx p s m args meth c yX10_lines cX10_lines 4 (some .boolean) Γ A) (hk : kd Γ o = some 10) (hf : bX10_lines_41 r v1 v3 s0 s1 = some q) (hq : (KC (fun st : Int32 × Rec => Wk p l e { frames := 7, cells := 0, slots := 0, locals := 160 } s m args below meth c Γ A (ug G o fin.1) (some (.int fin.2)) 2 4 [(0, .ref (ad Γ o)), (1, .int v1), (2, .int st.1)] [] (ug G o st.2)) (fun x => x = fin)) q) : Wk p l e { frames := 7, cells := 0, slots := 0, locals := 160 } s m args below meth c Γ A (ug G o fin.1) (some (.int fin.2)) 41 4 [(0, .ref (ad Γ o)), (1, .int v1), (3, .int v3)] [.long s0, .int s1, .ref (ad Γ o)] (ug G o r) := by
  intro H locs ls hw hS hl
  unfold bX10_lines_41 at hf
  obtain ⟨hx, hb, hml, hr, hown, htw, hlocks, hE⟩ := id C
  have hown : s.vm.findClass RX10 = some m.cls := hown
  refine lv_iload_n hx hb dX10_lines_41 rfl (lv_at hl 2 rfl) ?_
  obtain ⟨z3, hz3, hf⟩ := bd hf
  refine cl_Vs (rest := []) (kX10_lineOf (l := l) (Γ := Γ) (A := A) (G := G) (o := o) hk hz3) ⟨hx, hb, hml, hown, htw⟩ hE hw hS (wo_me hw hk) (q0 := 0) rfl rfl mw1431 mw1433 mw46 mw129 mw1434 pdX10_lineOf ⟨Nat.le_of_ble_eq_true rfl, Nat.le_of_ble_eq_true rfl⟩ rfl rfl hl.1 (Nat.le_of_ble_eq_true rfl) dX10_lines_42 (fun H locs hw hS => ?_)
  refine lv_istore_n (lv' := [(2, .int z3.2), (0, .ref (ad Γ o)), (1, .int v1), (3, .int v3)]) hx hb dX10_lines_45 rfl hl (by decide) rfl (fun ls hl => ?_)
  refine lv_iload_n hx hb dX10_lines_46 rfl (lv_at hl 0 rfl) ?_
  refine lv_if_eq (tgt := 63) hx hb dX10_lines_47 (by decide) (fun c6 => ?_) (fun c6 => ?_)
  · have hf := ifp c6 hf
    exact wX10_lines_63 C hk hf hq H locs ls hw hS (lv_sub hl [1, 2, 0] rfl)
  · have hf := ifn c6 hf
    refine lv_aload_n hx hb dX10_lines_50 rfl (lv_at hl 1 rfl) ?_
    refine va_get (ci := 10) (v := .int (gi z3.1 13)) (C := RX10) (T := TX10) (N := 49) hx hb htw uwX10 hown hE.1 (wo_me hw hk) 0 rfl rfl 13 (by decide) (htw _ mw1256) (fun _ h9 => h9) rfl dX10_lines_51 ?_
    refine lv_iconst (v := 4) hx hb dX10_lines_54 (by decide) ?_
    refine lv_icmp_eq (tgt := 63) hx hb dX10_lines_55 (by decide) (fun c5 => ?_) (fun c5 => ?_)
    · have hf := ifp c5 hf
      exact wX10_lines_63 C hk hf hq H locs ls hw hS (lv_sub hl [1, 2, 0] rfl)
    · have hf := ifn c5 hf
      refine lv_aload_n hx hb dX10_lines_58 rfl (lv_at hl 1 rfl) ?_
      obtain ⟨z4, hz4, hf⟩ := bd hf
      refine cl_Vs (rest := []) (kX10_fails (l := l) (Γ := Γ) (A := A) (G := G) (o := o) hk hz4) ⟨hx, hb, hml, hown, htw⟩ hE hw hS (wo_me hw hk) (q0 := 0) rfl rfl mw1443 mw1445 mw48 mw129 mw1446 pdX10_fails ⟨Nat.le_of_ble_eq_true rfl, Nat.le_of_ble_eq_true rfl⟩ rfl rfl hl.1 (Nat.le_of_ble_eq_true rfl) dX10_lines_59 (fun H locs hw hS => ?_)
      refine lv_istore_n (lv' := [(2, .int z4.2), (0, .ref (ad Γ o)), (1, .int v1), (3, .int v3)]) hx hb dX10_lines_62 rfl hl (by decide) rfl (fun ls hl => ?_)
      exact wX10_lines_63 C hk hf hq H locs ls hw hS (lv_sub hl [1, 2, 0] rfl)

noncomputable def bX10_lines_2 (r : Rec) (v1 : Int32) (v2 : Int32) : Option ((Int32 × Rec) ⊕ (Rec × Int32)) :=
  if v2 = 0 then gd (isB v2) (some (.inr ((r, v2)))) else if (gi r 13) = 0 then gd (isB v2) (some (.inr ((r, v2)))) else (some (si r 24 1)).bind fun r9 => if (gi r9 13) = 2 then bX10_lines_41 r9 v1 (gi r 12) (gl r9 15) v1 else bX10_lines_41 r9 v1 (gi r 12) 0 v1
set_option maxRecDepth 100000 in
set_option maxHeartbeats 4000000 in
theorem wX10_lines_2 {p : Program} {l : Launch} {e : Env} {s : State} {m : MethodId} {args : Array Value} {below : List Frame} {meth : Method} {c : Code} {Γ : Gm} {A : Nat → Prop} {G : Gs} {o : Nat} {r : Rec} {v1 : Int32} {v2 : Int32} {q : ((Int32 × Rec) ⊕ (Rec × Int32))} {fin : Rec × Int32} (C : Cx p s m args meth c yX10_lines cX10_lines 4 (some .boolean) Γ A) (hk : kd Γ o = some 10) (hf : bX10_lines_2 r v1 v2 = some q) (hq : (KC (fun st : Int32 × Rec => Wk p l e { frames := 7, cells := 0, slots := 0, locals := 160 } s m args below meth c Γ A (ug G o fin.1) (some (.int fin.2)) 2 4 [(0, .ref (ad Γ o)), (1, .int v1), (2, .int st.1)] [] (ug G o st.2)) (fun x => x = fin)) q) : Wk p l e { frames := 7, cells := 0, slots := 0, locals := 160 } s m args below meth c Γ A (ug G o fin.1) (some (.int fin.2)) 2 4 [(0, .ref (ad Γ o)), (1, .int v1), (2, .int v2)] [] (ug G o r) := by
  intro H locs ls hw hS hl
  unfold bX10_lines_2 at hf
  obtain ⟨hx, hb, hml, hr, hown, htw, hlocks, hE⟩ := id C
  have hown : s.vm.findClass RX10 = some m.cls := hown
  refine lv_iload_n hx hb dX10_lines_2 rfl (lv_at hl 2 rfl) ?_
  refine lv_if_eq (tgt := 74) hx hb dX10_lines_3 (by decide) (fun c12 => ?_) (fun c12 => ?_)
  · have hf := ifp c12 hf
    refine lv_iload_n hx hb dX10_lines_74 rfl (lv_at hl 2 rfl) ?_
    obtain ⟨g7, hf⟩ := gd_some hf
    obtain rfl := Option.some.inj hf
    have hq := hq.2 _ rfl
    subst hq
    exact rt_z C (isB_or g7) hw hS dX10_lines_75
  · have hf := ifn c12 hf
    refine lv_aload_n hx hb dX10_lines_6 rfl (lv_at hl 0 rfl) ?_
    refine va_get (ci := 10) (v := .int (gi r 13)) (C := RX10) (T := TX10) (N := 49) hx hb htw uwX10 hown hE.1 (wo_me hw hk) 0 rfl rfl 13 (by decide) (htw _ mw1256) (fun _ h9 => h9) rfl dX10_lines_7 ?_
    refine lv_if_eq (tgt := 74) hx hb dX10_lines_10 (by decide) (fun c11 => ?_) (fun c11 => ?_)
    · have hf := ifp c11 hf
      refine lv_iload_n hx hb dX10_lines_74 rfl (lv_at hl 2 rfl) ?_
      obtain ⟨g8, hf⟩ := gd_some hf
      obtain rfl := Option.some.inj hf
      have hq := hq.2 _ rfl
      subst hq
      exact rt_z C (isB_or g8) hw hS dX10_lines_75
    · have hf := ifn c11 hf
      refine lv_aload_n hx hb dX10_lines_13 rfl (lv_at hl 0 rfl) ?_
      refine va_get (ci := 10) (v := .int (gi r 12)) (C := RX10) (T := TX10) (N := 49) hx hb htw uwX10 hown hE.1 (wo_me hw hk) 0 rfl rfl 12 (by decide) (htw _ mw1255) (fun _ h9 => h9) rfl dX10_lines_14 ?_
      refine lv_istore_n (lv' := [(3, .int (gi r 12)), (0, .ref (ad Γ o)), (1, .int v1), (2, .int v2)]) hx hb dX10_lines_17 rfl hl (by decide) rfl (fun ls hl => ?_)
      refine lv_aload_n hx hb dX10_lines_18 rfl (lv_at hl 1 rfl) ?_
      refine lv_iconst (v := 1) hx hb dX10_lines_19 (by decide) ?_
      obtain ⟨r9, hr9, hf⟩ := bd hf
      have hr9 := Option.some.inj hr9
      refine wo_put (C := RX10) (T := TX10) (N := 49) (v := .int 1) (ty := .boolean) hx hb htw uwX10 tyX10 tyX10_ok nmX10 hown hE hw hS hk rfl rfl 24 (by decide) (htw _ mw1267) (fun _ h9 => h9) rfl (tyX10_ok 24 (by decide)) (by decide +kernel) (by decide +kernel) (Nat.le_of_ble_eq_true rfl) (st10_24 hr9) dX10_lines_20 (fun H locs hw hS => ?_)
      refine lv_aload_n hx hb dX10_lines_23 rfl (lv_at hl 1 rfl) ?_
      refine lv_iload_n hx hb dX10_lines_24 rfl (lv_at hl 2 rfl) ?_
      refine lv_aload_n hx hb dX10_lines_25 rfl (lv_at hl 1 rfl) ?_
      refine va_get (ci := 10) (v := .int (gi r9 13)) (C := RX10) (T := TX10) (N := 49) hx hb htw uwX10 hown hE.1 (wo_me hw hk) 0 rfl rfl 13 (by decide) (htw _ mw1256) (fun _ h9 => h9) rfl dX10_lines_26 ?_
      refine lv_iconst (v := 2) hx hb dX10_lines_29 (by decide) ?_
      refine lv_icmp_ne (tgt := 40) hx hb dX10_lines_30 (by decide) (fun c10 => ?_) (fun c10 => ?_)
      · have hf := ifn c10 hf
        refine lv_lconst (v := 0) hx hb dX10_lines_40 (by decide) ?_
        exact wX10_lines_41 C hk hf hq H locs ls hw hS (lv_sub hl [1, 2, 0] rfl)
      · have hf := ifp c10 hf
        refine lv_aload_n hx hb dX10_lines_33 rfl (lv_at hl 1 rfl) ?_
        refine va_get (ci := 10) (v := .long (gl r9 15)) (C := RX10) (T := TX10) (N := 49) hx hb htw uwX10 hown hE.1 (wo_me hw hk) 0 rfl rfl 15 (by decide) (htw _ mw1258) (fun _ h9 => h9) rfl dX10_lines_34 ?_
        refine lv_goto (tgt := 41) hx hb dX10_lines_37 (by decide) ?_
        exact wX10_lines_41 C hk hf hq H locs ls hw hS (lv_sub hl [1, 2, 0] rfl)

set_option maxRecDepth 100000 in
set_option maxHeartbeats 4000000 in
theorem lwX10_lines_2 {p : Program} {l : Launch} {e : Env} {s : State} {m : MethodId} {args : Array Value} {below : List Frame} {meth : Method} {c : Code} {Γ : Gm} {A : Nat → Prop} {G : Gs} {o : Nat} {r : Rec} {v1 : Int32} {v2 : Int32} {q : (Rec × Int32)} {fin : Rec × Int32} (C : Cx p s m args meth c yX10_lines cX10_lines 4 (some .boolean) Γ A) (hk : kd Γ o = some 10) (hf : iter (fun st : Int32 × Rec => bX10_lines_2 st.2 v1 st.1) (v2, r) = some q) (hq : (fun x => x = fin) q) : Wk p l e { frames := 7, cells := 0, slots := 0, locals := 160 } s m args below meth c Γ A (ug G o fin.1) (some (.int fin.2)) 2 4 [(0, .ref (ad Γ o)), (1, .int v1), (2, .int v2)] [] (ug G o r) := by
  intro H locs ls hw hS hl
  refine iter_walk (P := (fun st : Int32 × Rec => Wk p l e { frames := 7, cells := 0, slots := 0, locals := 160 } s m args below meth c Γ A (ug G o fin.1) (some (.int fin.2)) 2 4 [(0, .ref (ad Γ o)), (1, .int v1), (2, .int st.1)] [] (ug G o st.2))) (K := (fun x => x = fin)) (fun st q hq1 h1 h2 => ?_) hf hq H locs ls hw hS hl
  exact wX10_lines_2 (r := st.2) (v2 := st.1) C hk hq1 ⟨h1, h2⟩

noncomputable def fX10_lines (r : Rec) (v1 : Int32) : Option (Rec × Int32) :=
  iter (fun st : Int32 × Rec => bX10_lines_2 st.2 v1 st.1) (1, r)
set_option maxRecDepth 100000 in
set_option maxHeartbeats 4000000 in
theorem wX10_lines_e {p : Program} {l : Launch} {e : Env} {s : State} {m : MethodId} {args : Array Value} {below : List Frame} {meth : Method} {c : Code} {Γ : Gm} {A : Nat → Prop} {G : Gs} {o : Nat} {r : Rec} {v1 : Int32} {q : (Rec × Int32)} {fin : Rec × Int32} (C : Cx p s m args meth c yX10_lines cX10_lines 4 (some .boolean) Γ A) (hk : kd Γ o = some 10) (hf : fX10_lines r v1 = some q) (hq : (fun x => x = fin) q) : Wk p l e { frames := 7, cells := 0, slots := 0, locals := 160 } s m args below meth c Γ A (ug G o fin.1) (some (.int fin.2)) 0 4 [(0, .ref (ad Γ o)), (1, .int v1)] [] (ug G o r) := by
  intro H locs ls hw hS hl
  unfold fX10_lines at hf
  obtain ⟨hx, hb, hml, hr, hown, htw, hlocks, hE⟩ := id C
  have hown : s.vm.findClass RX10 = some m.cls := hown
  refine lv_iconst (v := 1) hx hb dX10_lines_0 (by decide) ?_
  refine lv_istore_n (lv' := [(2, .int 1), (0, .ref (ad Γ o)), (1, .int v1)]) hx hb dX10_lines_1 rfl hl (by decide) rfl (fun ls hl => ?_)
  exact lwX10_lines_2 C hk hf hq H locs ls hw hS (lv_sub hl [1, 2, 0] rfl)

theorem kX10_lines {l : Launch} {Γ : Gm} {A : Nat → Prop} {G : Gs} {o : Nat} {r : Rec} {v1 : Int32} {fin : Rec × Int32} (hk : kd Γ o = some 10) (hf : fX10_lines r v1 = some fin) : Kt l yX10_lines cX10_lines 4 (some .boolean) 7 160 Γ A (ug G o r) (ug G o fin.1) [.ref (ad Γ o), .int v1] (some (.int fin.2)) :=
  kt_of (by decide) (Nat.le_of_ble_eq_true rfl) (fun p e s m args below meth c C => wX10_lines_e C hk hf rfl)
theorem kgX10_lines {l : Launch} {Γ : Gm} {A : Nat → Prop} {G : Gs} {o : Nat} {v1 : Int32} {fin : Rec × Int32} (hk : kd Γ o = some 10) (hf : fX10_lines (G o) v1 = some fin) : Kt l yX10_lines cX10_lines 4 (some .boolean) 7 160 Γ A G (ug G o fin.1) [.ref (ad Γ o), .int v1] (some (.int fin.2)) := by
  have h := kX10_lines (l := l) (A := A) (G := G) (r := G o) hk hf
  rw [ug_self] at h
  exact h
noncomputable def bX10_readText_156 (r : Rec) (s0 : Int32) (s1 : Int32) : Option (Rec × Int32) :=
  gd (inR s1 4) ((some (sa r 4 (upd (ga r 4) (Int32.toNatClampNeg s1) s0))).bind fun r2 => if (ga r2 3 (Int32.toNatClampNeg 0)) = 0 then some ((r2, 1)) else some ((r2, 0)))
set_option maxRecDepth 100000 in
set_option maxHeartbeats 4000000 in
theorem wX10_readText_156 {p : Program} {l : Launch} {e : Env} {s : State} {m : MethodId} {args : Array Value} {below : List Frame} {meth : Method} {c : Code} {Γ : Gm} {A : Nat → Prop} {G : Gs} {o : Nat} {r : Rec} {s0 : Int32} {s1 : Int32} {q : (Rec × Int32)} {fin : Rec × Int32} (C : Cx p s m args meth c yX10_readText cX10_readText 3 (some .boolean) Γ A) (hk : kd Γ o = some 10) (hf : bX10_readText_156 r s0 s1 = some q) (hq : (fun x => x = fin) q) : Wk p l e { frames := 8, cells := 0, slots := 0, locals := 183 } s m args below meth c Γ A (ug G o fin.1) (some (.int fin.2)) 156 3 [(0, .ref (ad Γ o))] [.int s0, .int s1, .ref (aa Γ o 4)] (ug G o r) := by
  intro H locs ls hw hS hl
  unfold bX10_readText_156 at hf
  obtain ⟨hx, hb, hml, hr, hown, htw, hlocks, hE⟩ := id C
  have hown : s.vm.findClass RX10 = some m.cls := hown
  obtain ⟨g1, hf⟩ := gd_some hf
  obtain ⟨r2, hr2, hf⟩ := bd hf
  have hr2 := Option.some.inj hr2
  refine wo_iast hx hb hE hw hS hk (q0 := 4) rfl (inR_in g1) (sa10_4 hr2) dX10_readText_156 (fun H locs hw hS => ?_)
  refine lv_aload_n hx hb dX10_readText_157 rfl (lv_at hl 0 rfl) ?_
  refine va_get (ci := 10) (v := .ref (aa Γ o 3)) (C := RX10) (T := TX10) (N := 49) hx hb htw uwX10 hown hE.1 (wo_me hw hk) 0 rfl rfl 3 (by decide) (htw _ mw1246) (fun _ h9 => h9) rfl dX10_readText_158 ?_
  refine lv_iconst (v := 0) hx hb dX10_readText_161 (by decide) ?_
  refine va_iald hx hb hE.1 (wo_me hw hk) 3 0 rfl rfl (inR_in (i := 0) (n := 4) (by decide)) dX10_readText_162 ?_
  refine lv_if_ne (tgt := 170) hx hb dX10_readText_163 (by decide) (fun c3 => ?_) (fun c3 => ?_)
  · have hf := ifn c3 hf
    refine lv_iconst (v := 0) hx hb dX10_readText_170 (by decide) ?_
    obtain rfl := Option.some.inj hf
    subst hq
    exact rt_z C (Or.inl rfl) hw hS dX10_readText_171
  · have hf := ifp c3 hf
    refine lv_iconst (v := 1) hx hb dX10_readText_166 (by decide) ?_
    refine lv_goto (tgt := 171) hx hb dX10_readText_167 (by decide) ?_
    obtain rfl := Option.some.inj hf
    subst hq
    exact rt_z C (Or.inr rfl) hw hS dX10_readText_171

noncomputable def bX10_readText_124 (r : Rec) (v2 : Int32) (s0 : Int32) (s1 : Int32) : Option (Rec × Int32) :=
  gd (inR s1 4) ((some (sa r 3 (upd (ga r 3) (Int32.toNatClampNeg s1) s0))).bind fun r5 => if v2 = 0 then bX10_readText_156 r5 (gi r5 16) 0 else if (gi r5 17) ≤ 0 then bX10_readText_156 r5 (-1) 0 else bX10_readText_156 r5 (gi r5 18) 0)
set_option maxRecDepth 100000 in
set_option maxHeartbeats 4000000 in
theorem wX10_readText_124 {p : Program} {l : Launch} {e : Env} {s : State} {m : MethodId} {args : Array Value} {below : List Frame} {meth : Method} {c : Code} {Γ : Gm} {A : Nat → Prop} {G : Gs} {o : Nat} {r : Rec} {v2 : Int32} {s0 : Int32} {s1 : Int32} {q : (Rec × Int32)} {fin : Rec × Int32} (C : Cx p s m args meth c yX10_readText cX10_readText 3 (some .boolean) Γ A) (hk : kd Γ o = some 10) (hf : bX10_readText_124 r v2 s0 s1 = some q) (hq : (fun x => x = fin) q) : Wk p l e { frames := 8, cells := 0, slots := 0, locals := 183 } s m args below meth c Γ A (ug G o fin.1) (some (.int fin.2)) 124 3 [(0, .ref (ad Γ o)), (2, .int v2)] [.int s0, .int s1, .ref (aa Γ o 3)] (ug G o r) := by
  intro H locs ls hw hS hl
  unfold bX10_readText_124 at hf
  obtain ⟨hx, hb, hml, hr, hown, htw, hlocks, hE⟩ := id C
  have hown : s.vm.findClass RX10 = some m.cls := hown
  obtain ⟨g4, hf⟩ := gd_some hf
  obtain ⟨r5, hr5, hf⟩ := bd hf
  have hr5 := Option.some.inj hr5
  refine wo_iast hx hb hE hw hS hk (q0 := 3) rfl (inR_in g4) (sa10_3 hr5) dX10_readText_124 (fun H locs hw hS => ?_)
  refine lv_aload_n hx hb dX10_readText_125 rfl (lv_at hl 0 rfl) ?_
  refine va_get (ci := 10) (v := .ref (aa Γ o 4)) (C := RX10) (T := TX10) (N := 49) hx hb htw uwX10 hown hE.1 (wo_me hw hk) 0 rfl rfl 4 (by decide) (htw _ mw1247) (fun _ h9 => h9) rfl dX10_readText_126 ?_
  refine lv_iconst (v := 0) hx hb dX10_readText_129 (by decide) ?_
  refine lv_iload_n hx hb dX10_readText_130 rfl (lv_at hl 1 rfl) ?_
  refine lv_if_ne (tgt := 141) hx hb dX10_readText_131 (by decide) (fun c7 => ?_) (fun c7 => ?_)
  · have hf := ifn c7 hf
    refine lv_aload_n hx hb dX10_readText_141 rfl (lv_at hl 0 rfl) ?_
    refine va_get (ci := 10) (v := .int (gi r5 17)) (C := RX10) (T := TX10) (N := 49) hx hb htw uwX10 hown hE.1 (wo_me hw hk) 0 rfl rfl 17 (by decide) (htw _ mw1260) (fun _ h9 => h9) rfl dX10_readText_142 ?_
    refine lv_if_le (tgt := 155) hx hb dX10_readText_145 (by decide) (fun c6 => ?_) (fun c6 => ?_)
    · have hf := ifp c6 hf
      refine lv_iconst (v := (-1)) hx hb dX10_readText_155 (by decide) ?_
      exact wX10_readText_156 C hk hf hq H locs ls hw hS (lv_sub hl [0] rfl)
    · have hf := ifn c6 hf
      refine lv_aload_n hx hb dX10_readText_148 rfl (lv_at hl 0 rfl) ?_
      refine va_get (ci := 10) (v := .int (gi r5 18)) (C := RX10) (T := TX10) (N := 49) hx hb htw uwX10 hown hE.1 (wo_me hw hk) 0 rfl rfl 18 (by decide) (htw _ mw1261) (fun _ h9 => h9) rfl dX10_readText_149 ?_
      refine lv_goto (tgt := 156) hx hb dX10_readText_152 (by decide) ?_
      exact wX10_readText_156 C hk hf hq H locs ls hw hS (lv_sub hl [0] rfl)
  · have hf := ifp c7 hf
    refine lv_aload_n hx hb dX10_readText_134 rfl (lv_at hl 0 rfl) ?_
    refine va_get (ci := 10) (v := .int (gi r5 16)) (C := RX10) (T := TX10) (N := 49) hx hb htw uwX10 hown hE.1 (wo_me hw hk) 0 rfl rfl 16 (by decide) (htw _ mw1259) (fun _ h9 => h9) rfl dX10_readText_135 ?_
    refine lv_goto (tgt := 156) hx hb dX10_readText_138 (by decide) ?_
    exact wX10_readText_156 C hk hf hq H locs ls hw hS (lv_sub hl [0] rfl)

noncomputable def bX10_readText_107 (r : Rec) (v2 : Int32) : Option (Rec × Int32) :=
  if v2 = 0 then bX10_readText_124 r v2 1 0 else bX10_readText_124 r v2 (gi r 17) 0
set_option maxRecDepth 100000 in
set_option maxHeartbeats 4000000 in
theorem wX10_readText_107 {p : Program} {l : Launch} {e : Env} {s : State} {m : MethodId} {args : Array Value} {below : List Frame} {meth : Method} {c : Code} {Γ : Gm} {A : Nat → Prop} {G : Gs} {o : Nat} {r : Rec} {v2 : Int32} {q : (Rec × Int32)} {fin : Rec × Int32} (C : Cx p s m args meth c yX10_readText cX10_readText 3 (some .boolean) Γ A) (hk : kd Γ o = some 10) (hf : bX10_readText_107 r v2 = some q) (hq : (fun x => x = fin) q) : Wk p l e { frames := 8, cells := 0, slots := 0, locals := 183 } s m args below meth c Γ A (ug G o fin.1) (some (.int fin.2)) 107 3 [(0, .ref (ad Γ o)), (2, .int v2)] [] (ug G o r) := by
  intro H locs ls hw hS hl
  unfold bX10_readText_107 at hf
  obtain ⟨hx, hb, hml, hr, hown, htw, hlocks, hE⟩ := id C
  have hown : s.vm.findClass RX10 = some m.cls := hown
  refine lv_aload_n hx hb dX10_readText_107 rfl (lv_at hl 0 rfl) ?_
  refine va_get (ci := 10) (v := .ref (aa Γ o 3)) (C := RX10) (T := TX10) (N := 49) hx hb htw uwX10 hown hE.1 (wo_me hw hk) 0 rfl rfl 3 (by decide) (htw _ mw1246) (fun _ h9 => h9) rfl dX10_readText_108 ?_
  refine lv_iconst (v := 0) hx hb dX10_readText_111 (by decide) ?_
  refine lv_iload_n hx hb dX10_readText_112 rfl (lv_at hl 1 rfl) ?_
  refine lv_if_eq (tgt := 123) hx hb dX10_readText_113 (by decide) (fun c8 => ?_) (fun c8 => ?_)
  · have hf := ifp c8 hf
    refine lv_iconst (v := 1) hx hb dX10_readText_123 (by decide) ?_
    exact wX10_readText_124 C hk hf hq H locs ls hw hS hl
  · have hf := ifn c8 hf
    refine lv_aload_n hx hb dX10_readText_116 rfl (lv_at hl 0 rfl) ?_
    refine va_get (ci := 10) (v := .int (gi r 17)) (C := RX10) (T := TX10) (N := 49) hx hb htw uwX10 hown hE.1 (wo_me hw hk) 0 rfl rfl 17 (by decide) (htw _ mw1260) (fun _ h9 => h9) rfl dX10_readText_117 ?_
    refine lv_goto (tgt := 124) hx hb dX10_readText_120 (by decide) ?_
    exact wX10_readText_124 C hk hf hq H locs ls hw hS hl

noncomputable def bX10_readText_98 (r : Rec) (v2 : Int32) : Option (Rec × Int32) :=
  (fX10_later r 4 (gi r 12)).bind fun z9 => bX10_readText_107 z9 v2
set_option maxRecDepth 100000 in
set_option maxHeartbeats 4000000 in
theorem wX10_readText_98 {p : Program} {l : Launch} {e : Env} {s : State} {m : MethodId} {args : Array Value} {below : List Frame} {meth : Method} {c : Code} {Γ : Gm} {A : Nat → Prop} {G : Gs} {o : Nat} {r : Rec} {v2 : Int32} {q : (Rec × Int32)} {fin : Rec × Int32} (C : Cx p s m args meth c yX10_readText cX10_readText 3 (some .boolean) Γ A) (hk : kd Γ o = some 10) (hf : bX10_readText_98 r v2 = some q) (hq : (fun x => x = fin) q) : Wk p l e { frames := 8, cells := 0, slots := 0, locals := 183 } s m args below meth c Γ A (ug G o fin.1) (some (.int fin.2)) 98 3 [(0, .ref (ad Γ o)), (2, .int v2)] [] (ug G o r) := by
  intro H locs ls hw hS hl
  unfold bX10_readText_98 at hf
  obtain ⟨hx, hb, hml, hr, hown, htw, hlocks, hE⟩ := id C
  have hown : s.vm.findClass RX10 = some m.cls := hown
  refine lv_aload_n hx hb dX10_readText_98 rfl (lv_at hl 0 rfl) ?_
  refine lv_iconst (v := 4) hx hb dX10_readText_99 (by decide) ?_
  refine lv_aload_n hx hb dX10_readText_100 rfl (lv_at hl 0 rfl) ?_
  refine va_get (ci := 10) (v := .int (gi r 12)) (C := RX10) (T := TX10) (N := 49) hx hb htw uwX10 hown hE.1 (wo_me hw hk) 0 rfl rfl 12 (by decide) (htw _ mw1255) (fun _ h9 => h9) rfl dX10_readText_101 ?_
  obtain ⟨z9, hz9, hf⟩ := bd hf
  refine cl_Vv (rest := []) (kX10_later (l := l) (Γ := Γ) (A := A) (G := G) (o := o) hk hz9) ⟨hx, hb, hml, hown, htw⟩ hE hw hS (wo_me hw hk) (q0 := 0) rfl rfl mw1451 mw1453 mw50 mw129 mw1454 pdX10_later ⟨Nat.le_of_ble_eq_true rfl, Nat.le_of_ble_eq_true rfl⟩ rfl rfl hl.1 (Nat.le_of_ble_eq_true rfl) dX10_readText_104 (fun H locs hw hS => ?_)
  exact wX10_readText_107 C hk hf hq H locs ls hw hS hl

noncomputable def bX10_readText_22 (r : Rec) (v1 : Int32) : Option (Rec × Int32) :=
  (some (si r 21 (-1))).bind fun r10 => (some (si r10 22 (-1))).bind fun r11 => (some (si r11 23 0)).bind fun r12 => (some (si r12 10 0)).bind fun r13 => (some (si r13 17 0)).bind fun r14 => (fX10_token r14).bind fun z15 => (fX10_lines z15 v1).bind fun z16 => if z16.2 = 0 then bX10_readText_107 z16.1 z16.2 else if v1 = 0 then if (gi z16.1 17) = 0 then if (ga z16.1 19 (Int32.toNatClampNeg 0)) ≤ (gi z16.1 21) then bX10_readText_98 z16.1 z16.2 else if (gi z16.1 22) < (ga z16.1 19 (Int32.toNatClampNeg 1)) then bX10_readText_107 z16.1 z16.2 else bX10_readText_98 z16.1 z16.2 else bX10_readText_107 z16.1 z16.2 else bX10_readText_107 z16.1 z16.2
set_option maxRecDepth 100000 in
set_option maxHeartbeats 4000000 in
theorem wX10_readText_22 {p : Program} {l : Launch} {e : Env} {s : State} {m : MethodId} {args : Array Value} {below : List Frame} {meth : Method} {c : Code} {Γ : Gm} {A : Nat → Prop} {G : Gs} {o : Nat} {r : Rec} {v1 : Int32} {q : (Rec × Int32)} {fin : Rec × Int32} (C : Cx p s m args meth c yX10_readText cX10_readText 3 (some .boolean) Γ A) (hk : kd Γ o = some 10) (hf : bX10_readText_22 r v1 = some q) (hq : (fun x => x = fin) q) : Wk p l e { frames := 8, cells := 0, slots := 0, locals := 183 } s m args below meth c Γ A (ug G o fin.1) (some (.int fin.2)) 22 3 [(0, .ref (ad Γ o)), (1, .int v1)] [] (ug G o r) := by
  intro H locs ls hw hS hl
  unfold bX10_readText_22 at hf
  obtain ⟨hx, hb, hml, hr, hown, htw, hlocks, hE⟩ := id C
  have hown : s.vm.findClass RX10 = some m.cls := hown
  refine lv_aload_n hx hb dX10_readText_22 rfl (lv_at hl 0 rfl) ?_
  refine lv_iconst (v := (-1)) hx hb dX10_readText_23 (by decide) ?_
  obtain ⟨r10, hr10, hf⟩ := bd hf
  have hr10 := Option.some.inj hr10
  refine wo_put (C := RX10) (T := TX10) (N := 49) (v := .int (-1)) (ty := .int) hx hb htw uwX10 tyX10 tyX10_ok nmX10 hown hE hw hS hk rfl rfl 21 (by decide) (htw _ mw1264) (fun _ h9 => h9) rfl (tyX10_ok 21 (by decide)) rfl rfl (Nat.le_of_ble_eq_true rfl) (st10_21 hr10) dX10_readText_24 (fun H locs hw hS => ?_)
  refine lv_aload_n hx hb dX10_readText_27 rfl (lv_at hl 0 rfl) ?_
  refine lv_iconst (v := (-1)) hx hb dX10_readText_28 (by decide) ?_
  obtain ⟨r11, hr11, hf⟩ := bd hf
  have hr11 := Option.some.inj hr11
  refine wo_put (C := RX10) (T := TX10) (N := 49) (v := .int (-1)) (ty := .int) hx hb htw uwX10 tyX10 tyX10_ok nmX10 hown hE hw hS hk rfl rfl 22 (by decide) (htw _ mw1265) (fun _ h9 => h9) rfl (tyX10_ok 22 (by decide)) rfl rfl (Nat.le_of_ble_eq_true rfl) (st10_22 hr11) dX10_readText_29 (fun H locs hw hS => ?_)
  refine lv_aload_n hx hb dX10_readText_32 rfl (lv_at hl 0 rfl) ?_
  refine lv_iconst (v := 0) hx hb dX10_readText_33 (by decide) ?_
  obtain ⟨r12, hr12, hf⟩ := bd hf
  have hr12 := Option.some.inj hr12
  refine wo_put (C := RX10) (T := TX10) (N := 49) (v := .int 0) (ty := .int) hx hb htw uwX10 tyX10 tyX10_ok nmX10 hown hE hw hS hk rfl rfl 23 (by decide) (htw _ mw1266) (fun _ h9 => h9) rfl (tyX10_ok 23 (by decide)) rfl rfl (Nat.le_of_ble_eq_true rfl) (st10_23 hr12) dX10_readText_34 (fun H locs hw hS => ?_)
  refine lv_aload_n hx hb dX10_readText_37 rfl (lv_at hl 0 rfl) ?_
  refine lv_iconst (v := 0) hx hb dX10_readText_38 (by decide) ?_
  obtain ⟨r13, hr13, hf⟩ := bd hf
  have hr13 := Option.some.inj hr13
  refine wo_put (C := RX10) (T := TX10) (N := 49) (v := .int 0) (ty := .int) hx hb htw uwX10 tyX10 tyX10_ok nmX10 hown hE hw hS hk rfl rfl 10 (by decide) (htw _ mw1253) (fun _ h9 => h9) rfl (tyX10_ok 10 (by decide)) rfl rfl (Nat.le_of_ble_eq_true rfl) (st10_10 hr13) dX10_readText_39 (fun H locs hw hS => ?_)
  refine lv_aload_n hx hb dX10_readText_42 rfl (lv_at hl 0 rfl) ?_
  refine lv_iconst (v := 0) hx hb dX10_readText_43 (by decide) ?_
  obtain ⟨r14, hr14, hf⟩ := bd hf
  have hr14 := Option.some.inj hr14
  refine wo_put (C := RX10) (T := TX10) (N := 49) (v := .int 0) (ty := .int) hx hb htw uwX10 tyX10 tyX10_ok nmX10 hown hE hw hS hk rfl rfl 17 (by decide) (htw _ mw1260) (fun _ h9 => h9) rfl (tyX10_ok 17 (by decide)) rfl rfl (Nat.le_of_ble_eq_true rfl) (st10_17 hr14) dX10_readText_44 (fun H locs hw hS => ?_)
  refine lv_aload_n hx hb dX10_readText_47 rfl (lv_at hl 0 rfl) ?_
  obtain ⟨z15, hz15, hf⟩ := bd hf
  refine cl_Vv (rest := []) (kX10_token (l := l) (Γ := Γ) (A := A) (G := G) (o := o) hk hz15) ⟨hx, hb, hml, hown, htw⟩ hE hw hS (wo_me hw hk) (q0 := 0) rfl rfl mw1419 mw1421 mw43 mw129 mw1422 pdX10_token ⟨Nat.le_of_ble_eq_true rfl, Nat.le_of_ble_eq_true rfl⟩ rfl rfl hl.1 (Nat.le_of_ble_eq_true rfl) dX10_readText_48 (fun H locs hw hS => ?_)
  refine lv_aload_n hx hb dX10_readText_51 rfl (lv_at hl 0 rfl) ?_
  refine lv_iload_n hx hb dX10_readText_52 rfl (lv_at hl 1 rfl) ?_
  obtain ⟨z16, hz16, hf⟩ := bd hf
  refine cl_Vs (rest := []) (kX10_lines (l := l) (Γ := Γ) (A := A) (G := G) (o := o) hk hz16) ⟨hx, hb, hml, hown, htw⟩ hE hw hS (wo_me hw hk) (q0 := 0) rfl rfl mw1427 mw1429 mw45 mw129 mw1430 pdX10_lines ⟨Nat.le_of_ble_eq_true rfl, Nat.le_of_ble_eq_true rfl⟩ rfl rfl hl.1 (Nat.le_of_ble_eq_true rfl) dX10_readText_53 (fun H locs hw hS => ?_)
  refine lv_istore_n (lv' := [(2, .int z16.2), (0, .ref (ad Γ o)), (1, .int v1)]) hx hb dX10_readText_56 rfl hl (by decide) rfl (fun ls hl => ?_)
  refine lv_iload_n hx hb dX10_readText_57 rfl (lv_at hl 0 rfl) ?_
  refine lv_if_eq (tgt := 107) hx hb dX10_readText_58 (by decide) (fun c21 => ?_) (fun c21 => ?_)
  · have hf := ifp c21 hf
    exact wX10_readText_107 C hk hf hq H locs ls hw hS (lv_sub hl [1, 0] rfl)
  · have hf := ifn c21 hf
    refine lv_iload_n hx hb dX10_readText_61 rfl (lv_at hl 2 rfl) ?_
    refine lv_if_ne (tgt := 107) hx hb dX10_readText_62 (by decide) (fun c20 => ?_) (fun c20 => ?_)
    · have hf := ifn c20 hf
      exact wX10_readText_107 C hk hf hq H locs ls hw hS (lv_sub hl [1, 0] rfl)
    · have hf := ifp c20 hf
      refine lv_aload_n hx hb dX10_readText_65 rfl (lv_at hl 1 rfl) ?_
      refine va_get (ci := 10) (v := .int (gi z16.1 17)) (C := RX10) (T := TX10) (N := 49) hx hb htw uwX10 hown hE.1 (wo_me hw hk) 0 rfl rfl 17 (by decide) (htw _ mw1260) (fun _ h9 => h9) rfl dX10_readText_66 ?_
      refine lv_if_ne (tgt := 107) hx hb dX10_readText_69 (by decide) (fun c19 => ?_) (fun c19 => ?_)
      · have hf := ifn c19 hf
        exact wX10_readText_107 C hk hf hq H locs ls hw hS (lv_sub hl [1, 0] rfl)
      · have hf := ifp c19 hf
        refine lv_aload_n hx hb dX10_readText_72 rfl (lv_at hl 1 rfl) ?_
        refine va_get (ci := 10) (v := .int (gi z16.1 21)) (C := RX10) (T := TX10) (N := 49) hx hb htw uwX10 hown hE.1 (wo_me hw hk) 0 rfl rfl 21 (by decide) (htw _ mw1264) (fun _ h9 => h9) rfl dX10_readText_73 ?_
        refine lv_aload_n hx hb dX10_readText_76 rfl (lv_at hl 1 rfl) ?_
        refine va_get (ci := 10) (v := .ref (aa Γ o 19)) (C := RX10) (T := TX10) (N := 49) hx hb htw uwX10 hown hE.1 (wo_me hw hk) 0 rfl rfl 19 (by decide) (htw _ mw1262) (fun _ h9 => h9) rfl dX10_readText_77 ?_
        refine lv_iconst (v := 0) hx hb dX10_readText_80 (by decide) ?_
        refine va_iald hx hb hE.1 (wo_me hw hk) 10 0 rfl rfl (inR_in (i := 0) (n := 161) (by decide)) dX10_readText_81 ?_
        refine lv_icmp_ge (tgt := 98) hx hb dX10_readText_82 (by decide) (fun c18 => ?_) (fun c18 => ?_)
        · have hf := ifp c18 hf
          exact wX10_readText_98 C hk hf hq H locs ls hw hS (lv_sub hl [1, 0] rfl)
        · have hf := ifn c18 hf
          refine lv_aload_n hx hb dX10_readText_85 rfl (lv_at hl 1 rfl) ?_
          refine va_get (ci := 10) (v := .int (gi z16.1 22)) (C := RX10) (T := TX10) (N := 49) hx hb htw uwX10 hown hE.1 (wo_me hw hk) 0 rfl rfl 22 (by decide) (htw _ mw1265) (fun _ h9 => h9) rfl dX10_readText_86 ?_
          refine lv_aload_n hx hb dX10_readText_89 rfl (lv_at hl 1 rfl) ?_
          refine va_get (ci := 10) (v := .ref (aa Γ o 19)) (C := RX10) (T := TX10) (N := 49) hx hb htw uwX10 hown hE.1 (wo_me hw hk) 0 rfl rfl 19 (by decide) (htw _ mw1262) (fun _ h9 => h9) rfl dX10_readText_90 ?_
          refine lv_iconst (v := 1) hx hb dX10_readText_93 (by decide) ?_
          refine va_iald hx hb hE.1 (wo_me hw hk) 10 0 rfl rfl (inR_in (i := 1) (n := 161) (by decide)) dX10_readText_94 ?_
          refine lv_icmp_lt (tgt := 107) hx hb dX10_readText_95 (by decide) (fun c17 => ?_) (fun c17 => ?_)
          · have hf := ifp c17 hf
            exact wX10_readText_107 C hk hf hq H locs ls hw hS (lv_sub hl [1, 0] rfl)
          · have hf := ifn c17 hf
            exact wX10_readText_98 C hk hf hq H locs ls hw hS (lv_sub hl [1, 0] rfl)

noncomputable def bX10_readText_2 (r : Rec) (v1 : Int32) (v2 : Int32) : Option ((Int32 × Rec) ⊕ (Rec × Int32)) :=
  if 161 ≤ v2 then out1 (bX10_readText_22 r v1) else gd (inR v2 161) ((some (sa r 19 (upd (ga r 19) (Int32.toNatClampNeg v2) 0))).bind fun r24 => some (.inl (v2 + 1, r24)))
set_option maxRecDepth 100000 in
set_option maxHeartbeats 4000000 in
theorem wX10_readText_2 {p : Program} {l : Launch} {e : Env} {s : State} {m : MethodId} {args : Array Value} {below : List Frame} {meth : Method} {c : Code} {Γ : Gm} {A : Nat → Prop} {G : Gs} {o : Nat} {r : Rec} {v1 : Int32} {v2 : Int32} {q : ((Int32 × Rec) ⊕ (Rec × Int32))} {fin : Rec × Int32} (C : Cx p s m args meth c yX10_readText cX10_readText 3 (some .boolean) Γ A) (hk : kd Γ o = some 10) (hf : bX10_readText_2 r v1 v2 = some q) (hq : (KC (fun st : Int32 × Rec => Wk p l e { frames := 8, cells := 0, slots := 0, locals := 183 } s m args below meth c Γ A (ug G o fin.1) (some (.int fin.2)) 2 3 [(0, .ref (ad Γ o)), (1, .int v1), (2, .int st.1)] [] (ug G o st.2)) (fun x => x = fin)) q) : Wk p l e { frames := 8, cells := 0, slots := 0, locals := 183 } s m args below meth c Γ A (ug G o fin.1) (some (.int fin.2)) 2 3 [(0, .ref (ad Γ o)), (1, .int v1), (2, .int v2)] [] (ug G o r) := by
  intro H locs ls hw hS hl
  unfold bX10_readText_2 at hf
  obtain ⟨hx, hb, hml, hr, hown, htw, hlocks, hE⟩ := id C
  have hown : s.vm.findClass RX10 = some m.cls := hown
  refine lv_iload_n hx hb dX10_readText_2 rfl (lv_at hl 2 rfl) ?_
  refine lv_sipush (v := 161) hx hb dX10_readText_3 (by decide) ?_
  refine lv_icmp_ge (tgt := 22) hx hb dX10_readText_6 (by decide) (fun c25 => ?_) (fun c25 => ?_)
  · have hf := ifp c25 hf
    obtain ⟨q22, hfq22, eq22⟩ := out1_some hf
    subst eq22
    have hf := hfq22
    have hq := hq.2 _ rfl
    exact wX10_readText_22 C hk hf hq H locs ls hw hS (lv_sub hl [0, 1] rfl)
  · have hf := ifn c25 hf
    refine lv_aload_n hx hb dX10_readText_9 rfl (lv_at hl 0 rfl) ?_
    refine va_get (ci := 10) (v := .ref (aa Γ o 19)) (C := RX10) (T := TX10) (N := 49) hx hb htw uwX10 hown hE.1 (wo_me hw hk) 0 rfl rfl 19 (by decide) (htw _ mw1262) (fun _ h9 => h9) rfl dX10_readText_10 ?_
    refine lv_iload_n hx hb dX10_readText_13 rfl (lv_at hl 2 rfl) ?_
    refine lv_iconst (v := 0) hx hb dX10_readText_14 (by decide) ?_
    obtain ⟨g23, hf⟩ := gd_some hf
    obtain ⟨r24, hr24, hf⟩ := bd hf
    have hr24 := Option.some.inj hr24
    refine wo_iast hx hb hE hw hS hk (q0 := 10) rfl (inR_in g23) (sa10_19 hr24) dX10_readText_15 (fun H locs hw hS => ?_)
    refine lv_iinc (v := v2 + 1) (lv' := [(2, .int (v2 + 1)), (0, .ref (ad Γ o)), (1, .int v1)]) hx hb dX10_readText_16 hl (k := 2) rfl (by rfl) (by decide) rfl (fun ls hl => ?_)
    refine lv_goto (tgt := 2) hx hb dX10_readText_19 (by decide) ?_
    obtain rfl := Option.some.inj hf
    exact hq.1 _ rfl H locs ls hw hS (lv_sub hl [1, 2, 0] rfl)

set_option maxRecDepth 100000 in
set_option maxHeartbeats 4000000 in
theorem lwX10_readText_2 {p : Program} {l : Launch} {e : Env} {s : State} {m : MethodId} {args : Array Value} {below : List Frame} {meth : Method} {c : Code} {Γ : Gm} {A : Nat → Prop} {G : Gs} {o : Nat} {r : Rec} {v1 : Int32} {v2 : Int32} {q : (Rec × Int32)} {fin : Rec × Int32} (C : Cx p s m args meth c yX10_readText cX10_readText 3 (some .boolean) Γ A) (hk : kd Γ o = some 10) (hf : iter (fun st : Int32 × Rec => bX10_readText_2 st.2 v1 st.1) (v2, r) = some q) (hq : (fun x => x = fin) q) : Wk p l e { frames := 8, cells := 0, slots := 0, locals := 183 } s m args below meth c Γ A (ug G o fin.1) (some (.int fin.2)) 2 3 [(0, .ref (ad Γ o)), (1, .int v1), (2, .int v2)] [] (ug G o r) := by
  intro H locs ls hw hS hl
  refine iter_walk (P := (fun st : Int32 × Rec => Wk p l e { frames := 8, cells := 0, slots := 0, locals := 183 } s m args below meth c Γ A (ug G o fin.1) (some (.int fin.2)) 2 3 [(0, .ref (ad Γ o)), (1, .int v1), (2, .int st.1)] [] (ug G o st.2))) (K := (fun x => x = fin)) (fun st q hq1 h1 h2 => ?_) hf hq H locs ls hw hS hl
  exact wX10_readText_2 (r := st.2) (v2 := st.1) C hk hq1 ⟨h1, h2⟩

noncomputable def fX10_readText (r : Rec) (v1 : Int32) : Option (Rec × Int32) :=
  iter (fun st : Int32 × Rec => bX10_readText_2 st.2 v1 st.1) (0, r)
set_option maxRecDepth 100000 in
set_option maxHeartbeats 4000000 in
theorem wX10_readText_e {p : Program} {l : Launch} {e : Env} {s : State} {m : MethodId} {args : Array Value} {below : List Frame} {meth : Method} {c : Code} {Γ : Gm} {A : Nat → Prop} {G : Gs} {o : Nat} {r : Rec} {v1 : Int32} {q : (Rec × Int32)} {fin : Rec × Int32} (C : Cx p s m args meth c yX10_readText cX10_readText 3 (some .boolean) Γ A) (hk : kd Γ o = some 10) (hf : fX10_readText r v1 = some q) (hq : (fun x => x = fin) q) : Wk p l e { frames := 8, cells := 0, slots := 0, locals := 183 } s m args below meth c Γ A (ug G o fin.1) (some (.int fin.2)) 0 3 [(0, .ref (ad Γ o)), (1, .int v1)] [] (ug G o r) := by
  intro H locs ls hw hS hl
  unfold fX10_readText at hf
  obtain ⟨hx, hb, hml, hr, hown, htw, hlocks, hE⟩ := id C
  have hown : s.vm.findClass RX10 = some m.cls := hown
  refine lv_iconst (v := 0) hx hb dX10_readText_0 (by decide) ?_
  refine lv_istore_n (lv' := [(2, .int 0), (0, .ref (ad Γ o)), (1, .int v1)]) hx hb dX10_readText_1 rfl hl (by decide) rfl (fun ls hl => ?_)
  exact lwX10_readText_2 C hk hf hq H locs ls hw hS (lv_sub hl [1, 2, 0] rfl)

theorem kX10_readText {l : Launch} {Γ : Gm} {A : Nat → Prop} {G : Gs} {o : Nat} {r : Rec} {v1 : Int32} {fin : Rec × Int32} (hk : kd Γ o = some 10) (hf : fX10_readText r v1 = some fin) : Kt l yX10_readText cX10_readText 3 (some .boolean) 8 183 Γ A (ug G o r) (ug G o fin.1) [.ref (ad Γ o), .int v1] (some (.int fin.2)) :=
  kt_of (by decide) (Nat.le_of_ble_eq_true rfl) (fun p e s m args below meth c C => wX10_readText_e C hk hf rfl)
theorem kgX10_readText {l : Launch} {Γ : Gm} {A : Nat → Prop} {G : Gs} {o : Nat} {v1 : Int32} {fin : Rec × Int32} (hk : kd Γ o = some 10) (hf : fX10_readText (G o) v1 = some fin) : Kt l yX10_readText cX10_readText 3 (some .boolean) 8 183 Γ A G (ug G o fin.1) [.ref (ad Γ o), .int v1] (some (.int fin.2)) := by
  have h := kX10_readText (l := l) (A := A) (G := G) (r := G o) hk hf
  rw [ug_self] at h
  exact h
noncomputable def bX10_store_3 (r : Rec) (k1 : Nat) (v2 : Int32) (v3 : Int32) (v4 : Int32) : Option ((Int32 × Rec) ⊕ Rec) :=
  if v2 ≤ v4 then some (.inr (r)) else gd (inR v4 161) (gd (inR ((v2 * v3) + v4) (ln10 k1)) ((some (sa r k1 (upd (ga r k1) (Int32.toNatClampNeg ((v2 * v3) + v4)) (ga r 19 (Int32.toNatClampNeg v4))))).bind fun r3 => some (.inl (v4 + 1, r3))))
set_option maxRecDepth 100000 in
set_option maxHeartbeats 4000000 in
theorem wX10_store_3 {p : Program} {l : Launch} {e : Env} {s : State} {m : MethodId} {args : Array Value} {below : List Frame} {meth : Method} {c : Code} {Γ : Gm} {A : Nat → Prop} {G : Gs} {o : Nat} {r : Rec} {k1 : Nat} {v2 : Int32} {v3 : Int32} {v4 : Int32} {q : ((Int32 × Rec) ⊕ Rec)} {fin : Rec} (C : Cx p s m args meth c yX10_store cX10_store 5 none Γ A) (hk : kd Γ o = some 10) (hk1 : isI10 k1 = true) (hf : bX10_store_3 r k1 v2 v3 v4 = some q) (hq : (KC (fun st : Int32 × Rec => Wk p l e { frames := 0, cells := 0, slots := 0, locals := 0 } s m args below meth c Γ A (ug G o fin) none 3 5 [(0, .ref (ad Γ o)), (1, .ref (aa Γ o k1)), (2, .int v2), (3, .int v3), (4, .int st.1)] [] (ug G o st.2)) (fun x => x = fin)) q) : Wk p l e { frames := 0, cells := 0, slots := 0, locals := 0 } s m args below meth c Γ A (ug G o fin) none 3 5 [(0, .ref (ad Γ o)), (1, .ref (aa Γ o k1)), (2, .int v2), (3, .int v3), (4, .int v4)] [] (ug G o r) := by
  intro H locs ls hw hS hl
  unfold bX10_store_3 at hf
  obtain ⟨hx, hb, hml, hr, hown, htw, hlocks, hE⟩ := id C
  have hown : s.vm.findClass RX10 = some m.cls := hown
  refine lv_iload hx hb dX10_store_3 (lv_at hl 4 rfl) ?_
  refine lv_iload_n hx hb dX10_store_5 rfl (lv_at hl 2 rfl) ?_
  refine lv_icmp_ge (tgt := 30) hx hb dX10_store_6 (by decide) (fun c4 => ?_) (fun c4 => ?_)
  · have hf := ifp c4 hf
    obtain rfl := Option.some.inj hf
    have hq := hq.2 _ rfl
    subst hq
    exact rt_v C hw hS dX10_store_30
  · have hf := ifn c4 hf
    refine lv_aload_n hx hb dX10_store_9 rfl (lv_at hl 1 rfl) ?_
    refine lv_iload_n hx hb dX10_store_10 rfl (lv_at hl 2 rfl) ?_
    refine lv_iload_n hx hb dX10_store_11 rfl (lv_at hl 3 rfl) ?_
    refine lv_imul hx hb dX10_store_12 ?_
    refine lv_iload hx hb dX10_store_13 (lv_at hl 4 rfl) ?_
    refine lv_iadd hx hb dX10_store_15 ?_
    refine lv_aload_n hx hb dX10_store_16 rfl (lv_at hl 0 rfl) ?_
    refine va_get (ci := 10) (v := .ref (aa Γ o 19)) (C := RX10) (T := TX10) (N := 49) hx hb htw uwX10 hown hE.1 (wo_me hw hk) 0 rfl rfl 19 (by decide) (htw _ mw1262) (fun _ h9 => h9) rfl dX10_store_17 ?_
    refine lv_iload hx hb dX10_store_20 (lv_at hl 4 rfl) ?_
    obtain ⟨g1, hf⟩ := gd_some hf
    refine va_iald hx hb hE.1 (wo_me hw hk) 10 0 rfl rfl (inR_in g1) dX10_store_22 ?_
    obtain ⟨g2, hf⟩ := gd_some hf
    obtain ⟨r3, hr3, hf⟩ := bd hf
    have hr3 := Option.some.inj hr3
    refine wo_iast hx hb hE hw hS hk (q0 := (ix10 k1)) (ar10 hk1) (inR_in g2) (sav10 hk1 hr3) dX10_store_23 (fun H locs hw hS => ?_)
    refine lv_iinc (v := v4 + 1) (lv' := [(4, .int (v4 + 1)), (0, .ref (ad Γ o)), (1, .ref (aa Γ o k1)), (2, .int v2), (3, .int v3)]) hx hb dX10_store_24 hl (k := 4) rfl (by rfl) (by decide) rfl (fun ls hl => ?_)
    refine lv_goto (tgt := 3) hx hb dX10_store_27 (by decide) ?_
    obtain rfl := Option.some.inj hf
    exact hq.1 _ rfl H locs ls hw hS (lv_sub hl [1, 2, 3, 4, 0] rfl)

set_option maxRecDepth 100000 in
set_option maxHeartbeats 4000000 in
theorem lwX10_store_3 {p : Program} {l : Launch} {e : Env} {s : State} {m : MethodId} {args : Array Value} {below : List Frame} {meth : Method} {c : Code} {Γ : Gm} {A : Nat → Prop} {G : Gs} {o : Nat} {r : Rec} {k1 : Nat} {v2 : Int32} {v3 : Int32} {v4 : Int32} {q : Rec} {fin : Rec} (C : Cx p s m args meth c yX10_store cX10_store 5 none Γ A) (hk : kd Γ o = some 10) (hk1 : isI10 k1 = true) (hf : iter (fun st : Int32 × Rec => bX10_store_3 st.2 k1 v2 v3 st.1) (v4, r) = some q) (hq : (fun x => x = fin) q) : Wk p l e { frames := 0, cells := 0, slots := 0, locals := 0 } s m args below meth c Γ A (ug G o fin) none 3 5 [(0, .ref (ad Γ o)), (1, .ref (aa Γ o k1)), (2, .int v2), (3, .int v3), (4, .int v4)] [] (ug G o r) := by
  intro H locs ls hw hS hl
  refine iter_walk (P := (fun st : Int32 × Rec => Wk p l e { frames := 0, cells := 0, slots := 0, locals := 0 } s m args below meth c Γ A (ug G o fin) none 3 5 [(0, .ref (ad Γ o)), (1, .ref (aa Γ o k1)), (2, .int v2), (3, .int v3), (4, .int st.1)] [] (ug G o st.2))) (K := (fun x => x = fin)) (fun st q hq1 h1 h2 => ?_) hf hq H locs ls hw hS hl
  exact wX10_store_3 (r := st.2) (v4 := st.1) C hk hk1 hq1 ⟨h1, h2⟩

noncomputable def fX10_store (r : Rec) (k1 : Nat) (v2 : Int32) (v3 : Int32) : Option Rec :=
  iter (fun st : Int32 × Rec => bX10_store_3 st.2 k1 v2 v3 st.1) (0, r)
set_option maxRecDepth 100000 in
set_option maxHeartbeats 4000000 in
theorem wX10_store_e {p : Program} {l : Launch} {e : Env} {s : State} {m : MethodId} {args : Array Value} {below : List Frame} {meth : Method} {c : Code} {Γ : Gm} {A : Nat → Prop} {G : Gs} {o : Nat} {r : Rec} {k1 : Nat} {v2 : Int32} {v3 : Int32} {q : Rec} {fin : Rec} (C : Cx p s m args meth c yX10_store cX10_store 5 none Γ A) (hk : kd Γ o = some 10) (hk1 : isI10 k1 = true) (hf : fX10_store r k1 v2 v3 = some q) (hq : (fun x => x = fin) q) : Wk p l e { frames := 0, cells := 0, slots := 0, locals := 0 } s m args below meth c Γ A (ug G o fin) none 0 5 [(0, .ref (ad Γ o)), (1, .ref (aa Γ o k1)), (2, .int v2), (3, .int v3)] [] (ug G o r) := by
  intro H locs ls hw hS hl
  unfold fX10_store at hf
  obtain ⟨hx, hb, hml, hr, hown, htw, hlocks, hE⟩ := id C
  have hown : s.vm.findClass RX10 = some m.cls := hown
  refine lv_iconst (v := 0) hx hb dX10_store_0 (by decide) ?_
  refine lv_istore (lv' := [(4, .int 0), (0, .ref (ad Γ o)), (1, .ref (aa Γ o k1)), (2, .int v2), (3, .int v3)]) hx hb dX10_store_1 hl (by decide) rfl (fun ls hl => ?_)
  exact lwX10_store_3 C hk hk1 hf hq H locs ls hw hS (lv_sub hl [1, 2, 3, 4, 0] rfl)

theorem kX10_store {l : Launch} {Γ : Gm} {A : Nat → Prop} {G : Gs} {o : Nat} {r : Rec} {k1 : Nat} {v2 : Int32} {v3 : Int32} {fin : Rec} (hk : kd Γ o = some 10) (hk1 : isI10 k1 = true) (hf : fX10_store r k1 v2 v3 = some fin) : Kt l yX10_store cX10_store 5 none 0 0 Γ A (ug G o r) (ug G o fin) [.ref (ad Γ o), .ref (aa Γ o k1), .int v2, .int v3] none :=
  kt_of (by decide) (Nat.le_of_ble_eq_true rfl) (fun p e s m args below meth c C => wX10_store_e C hk hk1 hf rfl)
noncomputable def fX10_storeAll (r : Rec) (v1 : Int32) (v2 : Int32) : Option Rec :=
  if v1 = 0 then (fX10_store r 6 71 v2).bind fun z2 => some (z2) else if v1 = 1 then (fX10_store r 7 161 v2).bind fun z3 => some (z3) else if v1 = 2 then (fX10_store r 8 25 v2).bind fun z4 => some (z4) else (fX10_store r 9 17 v2).bind fun z1 => some (z1)
set_option maxRecDepth 100000 in
set_option maxHeartbeats 4000000 in
theorem wX10_storeAll_e {p : Program} {l : Launch} {e : Env} {s : State} {m : MethodId} {args : Array Value} {below : List Frame} {meth : Method} {c : Code} {Γ : Gm} {A : Nat → Prop} {G : Gs} {o : Nat} {r : Rec} {v1 : Int32} {v2 : Int32} {q : Rec} {fin : Rec} (C : Cx p s m args meth c yX10_storeAll cX10_storeAll 3 none Γ A) (hk : kd Γ o = some 10) (hf : fX10_storeAll r v1 v2 = some q) (hq : (fun x => x = fin) q) : Wk p l e { frames := 1, cells := 0, slots := 0, locals := 24 } s m args below meth c Γ A (ug G o fin) none 0 3 [(0, .ref (ad Γ o)), (1, .int v1), (2, .int v2)] [] (ug G o r) := by
  intro H locs ls hw hS hl
  unfold fX10_storeAll at hf
  obtain ⟨hx, hb, hml, hr, hown, htw, hlocks, hE⟩ := id C
  have hown : s.vm.findClass RX10 = some m.cls := hown
  refine lv_iload_n hx hb dX10_storeAll_0 rfl (lv_at hl 1 rfl) ?_
  by_cases c5 : v1 = 0
  · have hf := ifp c5 hf
    rw [c5]
    refine lv_tableIn (off := 27) (tgt := 28) hx hb dX10_storeAll_1 (by decide) (by decide) (by rfl) (by decide) ?_
    refine lv_aload_n hx hb dX10_storeAll_28 rfl (lv_at hl 0 rfl) ?_
    refine lv_aload_n hx hb dX10_storeAll_29 rfl (lv_at hl 0 rfl) ?_
    refine va_get (ci := 10) (v := .ref (aa Γ o 6)) (C := RX10) (T := TX10) (N := 49) hx hb htw uwX10 hown hE.1 (wo_me hw hk) 0 rfl rfl 6 (by decide) (htw _ mw1249) (fun _ h9 => h9) rfl dX10_storeAll_30 ?_
    refine lv_bipush (v := 71) hx hb dX10_storeAll_33 (by decide) ?_
    refine lv_iload_n hx hb dX10_storeAll_35 rfl (lv_at hl 2 rfl) ?_
    obtain ⟨z2, hz2, hf⟩ := bd hf
    refine cl_Vv (rest := []) (kX10_store (l := l) (Γ := Γ) (A := A) (G := G) (o := o) hk (rfl : isI10 6 = true) hz2) ⟨hx, hb, hml, hown, htw⟩ hE hw hS (wo_me hw hk) (q0 := 0) rfl rfl mw1525 mw1527 mw64 mw129 mw1528 pdX10_store ⟨Nat.le_of_ble_eq_true rfl, Nat.le_of_ble_eq_true rfl⟩ rfl rfl hl.1 (Nat.le_of_ble_eq_true rfl) dX10_storeAll_36 (fun H locs hw hS => ?_)
    obtain rfl := Option.some.inj hf
    subst hq
    exact rt_v C hw hS dX10_storeAll_39
  have hf := ifn c5 hf
  by_cases c6 : v1 = 1
  · have hf := ifp c6 hf
    rw [c6]
    refine lv_tableIn (off := 39) (tgt := 40) hx hb dX10_storeAll_1 (by decide) (by decide) (by rfl) (by decide) ?_
    refine lv_aload_n hx hb dX10_storeAll_40 rfl (lv_at hl 0 rfl) ?_
    refine lv_aload_n hx hb dX10_storeAll_41 rfl (lv_at hl 0 rfl) ?_
    refine va_get (ci := 10) (v := .ref (aa Γ o 7)) (C := RX10) (T := TX10) (N := 49) hx hb htw uwX10 hown hE.1 (wo_me hw hk) 0 rfl rfl 7 (by decide) (htw _ mw1250) (fun _ h9 => h9) rfl dX10_storeAll_42 ?_
    refine lv_sipush (v := 161) hx hb dX10_storeAll_45 (by decide) ?_
    refine lv_iload_n hx hb dX10_storeAll_48 rfl (lv_at hl 2 rfl) ?_
    obtain ⟨z3, hz3, hf⟩ := bd hf
    refine cl_Vv (rest := []) (kX10_store (l := l) (Γ := Γ) (A := A) (G := G) (o := o) hk (rfl : isI10 7 = true) hz3) ⟨hx, hb, hml, hown, htw⟩ hE hw hS (wo_me hw hk) (q0 := 0) rfl rfl mw1525 mw1527 mw64 mw129 mw1528 pdX10_store ⟨Nat.le_of_ble_eq_true rfl, Nat.le_of_ble_eq_true rfl⟩ rfl rfl hl.1 (Nat.le_of_ble_eq_true rfl) dX10_storeAll_49 (fun H locs hw hS => ?_)
    obtain rfl := Option.some.inj hf
    subst hq
    exact rt_v C hw hS dX10_storeAll_52
  have hf := ifn c6 hf
  by_cases c7 : v1 = 2
  · have hf := ifp c7 hf
    rw [c7]
    refine lv_tableIn (off := 52) (tgt := 53) hx hb dX10_storeAll_1 (by decide) (by decide) (by rfl) (by decide) ?_
    refine lv_aload_n hx hb dX10_storeAll_53 rfl (lv_at hl 0 rfl) ?_
    refine lv_aload_n hx hb dX10_storeAll_54 rfl (lv_at hl 0 rfl) ?_
    refine va_get (ci := 10) (v := .ref (aa Γ o 8)) (C := RX10) (T := TX10) (N := 49) hx hb htw uwX10 hown hE.1 (wo_me hw hk) 0 rfl rfl 8 (by decide) (htw _ mw1251) (fun _ h9 => h9) rfl dX10_storeAll_55 ?_
    refine lv_bipush (v := 25) hx hb dX10_storeAll_58 (by decide) ?_
    refine lv_iload_n hx hb dX10_storeAll_60 rfl (lv_at hl 2 rfl) ?_
    obtain ⟨z4, hz4, hf⟩ := bd hf
    refine cl_Vv (rest := []) (kX10_store (l := l) (Γ := Γ) (A := A) (G := G) (o := o) hk (rfl : isI10 8 = true) hz4) ⟨hx, hb, hml, hown, htw⟩ hE hw hS (wo_me hw hk) (q0 := 0) rfl rfl mw1525 mw1527 mw64 mw129 mw1528 pdX10_store ⟨Nat.le_of_ble_eq_true rfl, Nat.le_of_ble_eq_true rfl⟩ rfl rfl hl.1 (Nat.le_of_ble_eq_true rfl) dX10_storeAll_61 (fun H locs hw hS => ?_)
    obtain rfl := Option.some.inj hf
    subst hq
    exact rt_v C hw hS dX10_storeAll_64
  have hf := ifn c7 hf
  refine lv_tableOut (tgt := 65) hx hb dX10_storeAll_1 (by have := And.intro (ts_ne (k := 0) (by decide) c5) (And.intro (ts_ne (k := 1) (by decide) c6) (And.intro (ts_ne (k := 2) (by decide) c7) (True.intro))); omega) (by decide) ?_
  refine lv_aload_n hx hb dX10_storeAll_65 rfl (lv_at hl 0 rfl) ?_
  refine lv_aload_n hx hb dX10_storeAll_66 rfl (lv_at hl 0 rfl) ?_
  refine va_get (ci := 10) (v := .ref (aa Γ o 9)) (C := RX10) (T := TX10) (N := 49) hx hb htw uwX10 hown hE.1 (wo_me hw hk) 0 rfl rfl 9 (by decide) (htw _ mw1252) (fun _ h9 => h9) rfl dX10_storeAll_67 ?_
  refine lv_bipush (v := 17) hx hb dX10_storeAll_70 (by decide) ?_
  refine lv_iload_n hx hb dX10_storeAll_72 rfl (lv_at hl 2 rfl) ?_
  obtain ⟨z1, hz1, hf⟩ := bd hf
  refine cl_Vv (rest := []) (kX10_store (l := l) (Γ := Γ) (A := A) (G := G) (o := o) hk (rfl : isI10 9 = true) hz1) ⟨hx, hb, hml, hown, htw⟩ hE hw hS (wo_me hw hk) (q0 := 0) rfl rfl mw1525 mw1527 mw64 mw129 mw1528 pdX10_store ⟨Nat.le_of_ble_eq_true rfl, Nat.le_of_ble_eq_true rfl⟩ rfl rfl hl.1 (Nat.le_of_ble_eq_true rfl) dX10_storeAll_73 (fun H locs hw hS => ?_)
  obtain rfl := Option.some.inj hf
  subst hq
  exact rt_v C hw hS dX10_storeAll_76

theorem kX10_storeAll {l : Launch} {Γ : Gm} {A : Nat → Prop} {G : Gs} {o : Nat} {r : Rec} {v1 : Int32} {v2 : Int32} {fin : Rec} (hk : kd Γ o = some 10) (hf : fX10_storeAll r v1 v2 = some fin) : Kt l yX10_storeAll cX10_storeAll 3 none 1 24 Γ A (ug G o r) (ug G o fin) [.ref (ad Γ o), .int v1, .int v2] none :=
  kt_of (by decide) (Nat.le_of_ble_eq_true rfl) (fun p e s m args below meth c C => wX10_storeAll_e C hk hf rfl)
theorem kgX10_storeAll {l : Launch} {Γ : Gm} {A : Nat → Prop} {G : Gs} {o : Nat} {v1 : Int32} {v2 : Int32} {fin : Rec} (hk : kd Γ o = some 10) (hf : fX10_storeAll (G o) v1 v2 = some fin) : Kt l yX10_storeAll cX10_storeAll 3 none 1 24 Γ A G (ug G o fin) [.ref (ad Γ o), .int v1, .int v2] none := by
  have h := kX10_storeAll (l := l) (A := A) (G := G) (r := G o) hk hf
  rw [ug_self] at h
  exact h
noncomputable def bX10_text_118 (r : Rec) (v1 : Int32) (v3 : Int32) (s0 : Int32) (s1 : Int32) (s2 : Int32) : Option (Rec × Int32) :=
  gd (inR s2 16) ((some (sa r 5 (upd (ga r 5) (Int32.toNatClampNeg s2) (s1 + s0)))).bind fun r2 => (fX10_storeAll r2 v1 v3).bind fun z3 => some ((z3, v3)))
set_option maxRecDepth 100000 in
set_option maxHeartbeats 4000000 in
theorem wX10_text_118 {p : Program} {l : Launch} {e : Env} {s : State} {m : MethodId} {args : Array Value} {below : List Frame} {meth : Method} {c : Code} {Γ : Gm} {A : Nat → Prop} {G : Gs} {o : Nat} {r : Rec} {v1 : Int32} {v3 : Int32} {s0 : Int32} {s1 : Int32} {s2 : Int32} {q : (Rec × Int32)} {fin : Rec × Int32} (C : Cx p s m args meth c yX10_text cX10_text 4 (some .int) Γ A) (hk : kd Γ o = some 10) (hf : bX10_text_118 r v1 v3 s0 s1 s2 = some q) (hq : (fun x => x = fin) q) : Wk p l e { frames := 9, cells := 0, slots := 0, locals := 205 } s m args below meth c Γ A (ug G o fin.1) (some (.int fin.2)) 118 4 [(0, .ref (ad Γ o)), (1, .int v1), (3, .int v3)] [.int s0, .int s1, .int s2, .ref (aa Γ o 5)] (ug G o r) := by
  intro H locs ls hw hS hl
  unfold bX10_text_118 at hf
  obtain ⟨hx, hb, hml, hr, hown, htw, hlocks, hE⟩ := id C
  have hown : s.vm.findClass RX10 = some m.cls := hown
  refine lv_iadd hx hb dX10_text_118 ?_
  obtain ⟨g1, hf⟩ := gd_some hf
  obtain ⟨r2, hr2, hf⟩ := bd hf
  have hr2 := Option.some.inj hr2
  refine wo_iast hx hb hE hw hS hk (q0 := 5) rfl (inR_in g1) (sa10_5 hr2) dX10_text_119 (fun H locs hw hS => ?_)
  refine lv_aload_n hx hb dX10_text_120 rfl (lv_at hl 0 rfl) ?_
  refine lv_iload_n hx hb dX10_text_121 rfl (lv_at hl 1 rfl) ?_
  refine lv_iload_n hx hb dX10_text_122 rfl (lv_at hl 2 rfl) ?_
  obtain ⟨z3, hz3, hf⟩ := bd hf
  refine cl_Vv (rest := []) (kX10_storeAll (l := l) (Γ := Γ) (A := A) (G := G) (o := o) hk hz3) ⟨hx, hb, hml, hown, htw⟩ hE hw hS (wo_me hw hk) (q0 := 0) rfl rfl mw1521 mw1523 mw63 mw129 mw1524 pdX10_storeAll ⟨Nat.le_of_ble_eq_true rfl, Nat.le_of_ble_eq_true rfl⟩ rfl rfl hl.1 (Nat.le_of_ble_eq_true rfl) dX10_text_123 (fun H locs hw hS => ?_)
  refine lv_iload_n hx hb dX10_text_126 rfl (lv_at hl 2 rfl) ?_
  obtain rfl := Option.some.inj hf
  subst hq
  exact rt_i C hw hS dX10_text_127

noncomputable def bX10_text_100 (r : Rec) (v1 : Int32) (v2 : Int32) (s0 : Int32) : Option (Rec × Int32) :=
  gd (inR v1 16) (if v2 = (-1) then bX10_text_118 r v1 s0 1 (ga r 5 (Int32.toNatClampNeg v1)) v1 else bX10_text_118 r v1 s0 0 (ga r 5 (Int32.toNatClampNeg v1)) v1)
set_option maxRecDepth 100000 in
set_option maxHeartbeats 4000000 in
theorem wX10_text_100 {p : Program} {l : Launch} {e : Env} {s : State} {m : MethodId} {args : Array Value} {below : List Frame} {meth : Method} {c : Code} {Γ : Gm} {A : Nat → Prop} {G : Gs} {o : Nat} {r : Rec} {v1 : Int32} {v2 : Int32} {s0 : Int32} {q : (Rec × Int32)} {fin : Rec × Int32} (C : Cx p s m args meth c yX10_text cX10_text 4 (some .int) Γ A) (hk : kd Γ o = some 10) (hf : bX10_text_100 r v1 v2 s0 = some q) (hq : (fun x => x = fin) q) : Wk p l e { frames := 9, cells := 0, slots := 0, locals := 205 } s m args below meth c Γ A (ug G o fin.1) (some (.int fin.2)) 100 4 [(0, .ref (ad Γ o)), (1, .int v1), (2, .int v2)] [.int s0] (ug G o r) := by
  intro H locs ls hw hS hl
  unfold bX10_text_100 at hf
  obtain ⟨hx, hb, hml, hr, hown, htw, hlocks, hE⟩ := id C
  have hown : s.vm.findClass RX10 = some m.cls := hown
  refine lv_istore_n (lv' := [(3, .int s0), (0, .ref (ad Γ o)), (1, .int v1), (2, .int v2)]) hx hb dX10_text_100 rfl hl (by decide) rfl (fun ls hl => ?_)
  refine lv_aload_n hx hb dX10_text_101 rfl (lv_at hl 1 rfl) ?_
  refine va_get (ci := 10) (v := .ref (aa Γ o 5)) (C := RX10) (T := TX10) (N := 49) hx hb htw uwX10 hown hE.1 (wo_me hw hk) 0 rfl rfl 5 (by decide) (htw _ mw1248) (fun _ h9 => h9) rfl dX10_text_102 ?_
  refine lv_iload_n hx hb dX10_text_105 rfl (lv_at hl 2 rfl) ?_
  refine lv_dup2_11 hx hb dX10_text_106 rfl rfl ?_
  obtain ⟨g4, hf⟩ := gd_some hf
  refine va_iald hx hb hE.1 (wo_me hw hk) 5 0 rfl rfl (inR_in g4) dX10_text_107 ?_
  refine lv_iload_n hx hb dX10_text_108 rfl (lv_at hl 3 rfl) ?_
  refine lv_iconst (v := (-1)) hx hb dX10_text_109 (by decide) ?_
  refine lv_icmp_ne (tgt := 117) hx hb dX10_text_110 (by decide) (fun c5 => ?_) (fun c5 => ?_)
  · have hf := ifn c5 hf
    refine lv_iconst (v := 0) hx hb dX10_text_117 (by decide) ?_
    exact wX10_text_118 C hk hf hq H locs ls hw hS (lv_sub hl [1, 2, 0] rfl)
  · have hf := ifp c5 hf
    refine lv_iconst (v := 1) hx hb dX10_text_113 (by decide) ?_
    refine lv_goto (tgt := 118) hx hb dX10_text_114 (by decide) ?_
    exact wX10_text_118 C hk hf hq H locs ls hw hS (lv_sub hl [1, 2, 0] rfl)

noncomputable def bX10_text_75 (r : Rec) (v1 : Int32) (v2 : Int32) : Option (Rec × Int32) :=
  (fX10_readText r v1).bind fun z6 => if z6.2 = 0 then some ((z6.1, (-1))) else if v2 = (-1) then gd (inR v1 16) (bX10_text_100 z6.1 v1 v2 (ga z6.1 5 (Int32.toNatClampNeg v1))) else bX10_text_100 z6.1 v1 v2 v2
set_option maxRecDepth 100000 in
set_option maxHeartbeats 4000000 in
theorem wX10_text_75 {p : Program} {l : Launch} {e : Env} {s : State} {m : MethodId} {args : Array Value} {below : List Frame} {meth : Method} {c : Code} {Γ : Gm} {A : Nat → Prop} {G : Gs} {o : Nat} {r : Rec} {v1 : Int32} {v2 : Int32} {q : (Rec × Int32)} {fin : Rec × Int32} (C : Cx p s m args meth c yX10_text cX10_text 4 (some .int) Γ A) (hk : kd Γ o = some 10) (hf : bX10_text_75 r v1 v2 = some q) (hq : (fun x => x = fin) q) : Wk p l e { frames := 9, cells := 0, slots := 0, locals := 205 } s m args below meth c Γ A (ug G o fin.1) (some (.int fin.2)) 75 4 [(0, .ref (ad Γ o)), (1, .int v1), (2, .int v2)] [] (ug G o r) := by
  intro H locs ls hw hS hl
  unfold bX10_text_75 at hf
  obtain ⟨hx, hb, hml, hr, hown, htw, hlocks, hE⟩ := id C
  have hown : s.vm.findClass RX10 = some m.cls := hown
  refine lv_aload_n hx hb dX10_text_75 rfl (lv_at hl 0 rfl) ?_
  refine lv_iload_n hx hb dX10_text_76 rfl (lv_at hl 1 rfl) ?_
  obtain ⟨z6, hz6, hf⟩ := bd hf
  refine cl_Vs (rest := []) (kX10_readText (l := l) (Γ := Γ) (A := A) (G := G) (o := o) hk hz6) ⟨hx, hb, hml, hown, htw⟩ hE hw hS (wo_me hw hk) (q0 := 0) rfl rfl mw1415 mw1417 mw42 mw129 mw1418 pdX10_readText ⟨Nat.le_of_ble_eq_true rfl, Nat.le_of_ble_eq_true rfl⟩ rfl rfl hl.1 (Nat.le_of_ble_eq_true rfl) dX10_text_77 (fun H locs hw hS => ?_)
  refine lv_if_ne (tgt := 85) hx hb dX10_text_80 (by decide) (fun c9 => ?_) (fun c9 => ?_)
  · have hf := ifn c9 hf
    refine lv_iload_n hx hb dX10_text_85 rfl (lv_at hl 2 rfl) ?_
    refine lv_iconst (v := (-1)) hx hb dX10_text_86 (by decide) ?_
    refine lv_icmp_ne (tgt := 99) hx hb dX10_text_87 (by decide) (fun c8 => ?_) (fun c8 => ?_)
    · have hf := ifn c8 hf
      refine lv_iload_n hx hb dX10_text_99 rfl (lv_at hl 2 rfl) ?_
      exact wX10_text_100 C hk hf hq H locs ls hw hS hl
    · have hf := ifp c8 hf
      refine lv_aload_n hx hb dX10_text_90 rfl (lv_at hl 0 rfl) ?_
      refine va_get (ci := 10) (v := .ref (aa Γ o 5)) (C := RX10) (T := TX10) (N := 49) hx hb htw uwX10 hown hE.1 (wo_me hw hk) 0 rfl rfl 5 (by decide) (htw _ mw1248) (fun _ h9 => h9) rfl dX10_text_91 ?_
      refine lv_iload_n hx hb dX10_text_94 rfl (lv_at hl 1 rfl) ?_
      obtain ⟨g7, hf⟩ := gd_some hf
      refine va_iald hx hb hE.1 (wo_me hw hk) 5 0 rfl rfl (inR_in g7) dX10_text_95 ?_
      refine lv_goto (tgt := 100) hx hb dX10_text_96 (by decide) ?_
      exact wX10_text_100 C hk hf hq H locs ls hw hS hl
  · have hf := ifp c9 hf
    refine lv_iconst (v := (-1)) hx hb dX10_text_83 (by decide) ?_
    obtain rfl := Option.some.inj hf
    subst hq
    exact rt_i C hw hS dX10_text_84

noncomputable def fX10_text (r : Rec) (v1 : Int32) (v2 : Int32) : Option (Rec × Int32) :=
  (some (si r 0 0)).bind fun r10 => (some (si r10 11 (ga r10 2 (Int32.toNatClampNeg 0)))).bind fun r11 => (some (sa r11 2 (upd (ga r11 2) (Int32.toNatClampNeg 0) 0))).bind fun r12 => (some (sa r12 3 (upd (ga r12 3) (Int32.toNatClampNeg 0) 0))).bind fun r13 => (some (sa r13 4 (upd (ga r13 4) (Int32.toNatClampNeg 0) (-1)))).bind fun r14 => (fX10_in v1 0 3).bind fun z15 => if z15 = 0 then some ((r14, (-2))) else if v2 = (-1) then gd (inR v1 16) (if (ga r14 5 (Int32.toNatClampNeg v1)) = 2 then some ((r14, (-2))) else bX10_text_75 r14 v1 v2) else (fX10_is r14 v1 v2).bind fun z16 => if z16 = 0 then some ((r14, (-2))) else bX10_text_75 r14 v1 v2
set_option maxRecDepth 100000 in
set_option maxHeartbeats 4000000 in
theorem wX10_text_e {p : Program} {l : Launch} {e : Env} {s : State} {m : MethodId} {args : Array Value} {below : List Frame} {meth : Method} {c : Code} {Γ : Gm} {A : Nat → Prop} {G : Gs} {o : Nat} {r : Rec} {v1 : Int32} {v2 : Int32} {q : (Rec × Int32)} {fin : Rec × Int32} (C : Cx p s m args meth c yX10_text cX10_text 4 (some .int) Γ A) (hk : kd Γ o = some 10) (hf : fX10_text r v1 v2 = some q) (hq : (fun x => x = fin) q) : Wk p l e { frames := 9, cells := 0, slots := 0, locals := 205 } s m args below meth c Γ A (ug G o fin.1) (some (.int fin.2)) 0 4 [(0, .ref (ad Γ o)), (1, .int v1), (2, .int v2)] [] (ug G o r) := by
  intro H locs ls hw hS hl
  unfold fX10_text at hf
  obtain ⟨hx, hb, hml, hr, hown, htw, hlocks, hE⟩ := id C
  have hown : s.vm.findClass RX10 = some m.cls := hown
  refine lv_aload_n hx hb dX10_text_0 rfl (lv_at hl 0 rfl) ?_
  refine lv_iconst (v := 0) hx hb dX10_text_1 (by decide) ?_
  obtain ⟨r10, hr10, hf⟩ := bd hf
  have hr10 := Option.some.inj hr10
  refine wo_put (C := RX10) (T := TX10) (N := 49) (v := .int 0) (ty := .int) hx hb htw uwX10 tyX10 tyX10_ok nmX10 hown hE hw hS hk rfl rfl 0 (by decide) (htw _ mw1243) (fun _ h9 => h9) rfl (tyX10_ok 0 (by decide)) rfl rfl (Nat.le_of_ble_eq_true rfl) (st10_0 hr10) dX10_text_2 (fun H locs hw hS => ?_)
  refine lv_aload_n hx hb dX10_text_5 rfl (lv_at hl 0 rfl) ?_
  refine lv_aload_n hx hb dX10_text_6 rfl (lv_at hl 0 rfl) ?_
  refine va_get (ci := 10) (v := .ref (aa Γ o 2)) (C := RX10) (T := TX10) (N := 49) hx hb htw uwX10 hown hE.1 (wo_me hw hk) 0 rfl rfl 2 (by decide) (htw _ mw1245) (fun _ h9 => h9) rfl dX10_text_7 ?_
  refine lv_iconst (v := 0) hx hb dX10_text_10 (by decide) ?_
  refine va_iald hx hb hE.1 (wo_me hw hk) 2 0 rfl rfl (inR_in (i := 0) (n := 4) (by decide)) dX10_text_11 ?_
  obtain ⟨r11, hr11, hf⟩ := bd hf
  have hr11 := Option.some.inj hr11
  refine wo_put (C := RX10) (T := TX10) (N := 49) (v := .int (ga r10 2 (Int32.toNatClampNeg 0))) (ty := .int) hx hb htw uwX10 tyX10 tyX10_ok nmX10 hown hE hw hS hk rfl rfl 11 (by decide) (htw _ mw1254) (fun _ h9 => h9) rfl (tyX10_ok 11 (by decide)) rfl rfl (Nat.le_of_ble_eq_true rfl) (st10_11 hr11) dX10_text_12 (fun H locs hw hS => ?_)
  refine lv_aload_n hx hb dX10_text_15 rfl (lv_at hl 0 rfl) ?_
  refine va_get (ci := 10) (v := .ref (aa Γ o 2)) (C := RX10) (T := TX10) (N := 49) hx hb htw uwX10 hown hE.1 (wo_me hw hk) 0 rfl rfl 2 (by decide) (htw _ mw1245) (fun _ h9 => h9) rfl dX10_text_16 ?_
  refine lv_iconst (v := 0) hx hb dX10_text_19 (by decide) ?_
  refine lv_iconst (v := 0) hx hb dX10_text_20 (by decide) ?_
  obtain ⟨r12, hr12, hf⟩ := bd hf
  have hr12 := Option.some.inj hr12
  refine wo_iast hx hb hE hw hS hk (q0 := 2) rfl (inR_in (i := 0) (n := 4) (by decide)) (sa10_2 hr12) dX10_text_21 (fun H locs hw hS => ?_)
  refine lv_aload_n hx hb dX10_text_22 rfl (lv_at hl 0 rfl) ?_
  refine va_get (ci := 10) (v := .ref (aa Γ o 3)) (C := RX10) (T := TX10) (N := 49) hx hb htw uwX10 hown hE.1 (wo_me hw hk) 0 rfl rfl 3 (by decide) (htw _ mw1246) (fun _ h9 => h9) rfl dX10_text_23 ?_
  refine lv_iconst (v := 0) hx hb dX10_text_26 (by decide) ?_
  refine lv_iconst (v := 0) hx hb dX10_text_27 (by decide) ?_
  obtain ⟨r13, hr13, hf⟩ := bd hf
  have hr13 := Option.some.inj hr13
  refine wo_iast hx hb hE hw hS hk (q0 := 3) rfl (inR_in (i := 0) (n := 4) (by decide)) (sa10_3 hr13) dX10_text_28 (fun H locs hw hS => ?_)
  refine lv_aload_n hx hb dX10_text_29 rfl (lv_at hl 0 rfl) ?_
  refine va_get (ci := 10) (v := .ref (aa Γ o 4)) (C := RX10) (T := TX10) (N := 49) hx hb htw uwX10 hown hE.1 (wo_me hw hk) 0 rfl rfl 4 (by decide) (htw _ mw1247) (fun _ h9 => h9) rfl dX10_text_30 ?_
  refine lv_iconst (v := 0) hx hb dX10_text_33 (by decide) ?_
  refine lv_iconst (v := (-1)) hx hb dX10_text_34 (by decide) ?_
  obtain ⟨r14, hr14, hf⟩ := bd hf
  have hr14 := Option.some.inj hr14
  refine wo_iast hx hb hE hw hS hk (q0 := 4) rfl (inR_in (i := 0) (n := 4) (by decide)) (sa10_4 hr14) dX10_text_35 (fun H locs hw hS => ?_)
  refine lv_iload_n hx hb dX10_text_36 rfl (lv_at hl 1 rfl) ?_
  refine lv_iconst (v := 0) hx hb dX10_text_37 (by decide) ?_
  refine lv_iconst (v := 3) hx hb dX10_text_38 (by decide) ?_
  obtain ⟨z15, hz15, hf⟩ := bd hf
  refine cl_Ss (rest := []) (kX10_in (l := l) (Γ := Γ) (A := A) (G := (ug G o r14)) hz15) ⟨hx, hb, hml, hown, htw⟩ hE hw hS mw1404 mw1405 mw129 mw1406 pdX10_in ⟨Nat.le_of_ble_eq_true rfl, Nat.le_of_ble_eq_true rfl⟩ rfl rfl hl.1 (Nat.le_of_ble_eq_true rfl) dX10_text_39 (fun H locs hw hS => ?_)
  refine lv_if_eq (tgt := 72) hx hb dX10_text_42 (by decide) (fun c21 => ?_) (fun c21 => ?_)
  · have hf := ifp c21 hf
    refine lv_bipush (v := (-2)) hx hb dX10_text_72 (by decide) ?_
    obtain rfl := Option.some.inj hf
    subst hq
    exact rt_i C hw hS dX10_text_74
  · have hf := ifn c21 hf
    refine lv_iload_n hx hb dX10_text_45 rfl (lv_at hl 2 rfl) ?_
    refine lv_iconst (v := (-1)) hx hb dX10_text_46 (by decide) ?_
    refine lv_icmp_ne (tgt := 63) hx hb dX10_text_47 (by decide) (fun c20 => ?_) (fun c20 => ?_)
    · have hf := ifn c20 hf
      refine lv_aload_n hx hb dX10_text_63 rfl (lv_at hl 0 rfl) ?_
      refine lv_iload_n hx hb dX10_text_64 rfl (lv_at hl 1 rfl) ?_
      refine lv_iload_n hx hb dX10_text_65 rfl (lv_at hl 2 rfl) ?_
      obtain ⟨z16, hz16, hf⟩ := bd hf
      refine cl_Vs (rest := []) (kX10_is (l := l) (Γ := Γ) (A := A) (G := G) (o := o) hk hz16) ⟨hx, hb, hml, hown, htw⟩ hE hw hS (wo_me hw hk) (q0 := 0) rfl rfl mw1411 mw1413 mw41 mw129 mw1414 pdX10_is ⟨Nat.le_of_ble_eq_true rfl, Nat.le_of_ble_eq_true rfl⟩ rfl rfl hl.1 (Nat.le_of_ble_eq_true rfl) dX10_text_66 (fun H locs hw hS => ?_)
      refine lv_if_ne (tgt := 75) hx hb dX10_text_69 (by decide) (fun c17 => ?_) (fun c17 => ?_)
      · have hf := ifn c17 hf
        exact wX10_text_75 C hk hf hq H locs ls hw hS hl
      · have hf := ifp c17 hf
        refine lv_bipush (v := (-2)) hx hb dX10_text_72 (by decide) ?_
        obtain rfl := Option.some.inj hf
        subst hq
        exact rt_i C hw hS dX10_text_74
    · have hf := ifp c20 hf
      refine lv_aload_n hx hb dX10_text_50 rfl (lv_at hl 0 rfl) ?_
      refine va_get (ci := 10) (v := .ref (aa Γ o 5)) (C := RX10) (T := TX10) (N := 49) hx hb htw uwX10 hown hE.1 (wo_me hw hk) 0 rfl rfl 5 (by decide) (htw _ mw1248) (fun _ h9 => h9) rfl dX10_text_51 ?_
      refine lv_iload_n hx hb dX10_text_54 rfl (lv_at hl 1 rfl) ?_
      obtain ⟨g18, hf⟩ := gd_some hf
      refine va_iald hx hb hE.1 (wo_me hw hk) 5 0 rfl rfl (inR_in g18) dX10_text_55 ?_
      refine lv_iconst (v := 2) hx hb dX10_text_56 (by decide) ?_
      refine lv_icmp_ne (tgt := 75) hx hb dX10_text_57 (by decide) (fun c19 => ?_) (fun c19 => ?_)
      · have hf := ifn c19 hf
        exact wX10_text_75 C hk hf hq H locs ls hw hS hl
      · have hf := ifp c19 hf
        refine lv_goto (tgt := 72) hx hb dX10_text_60 (by decide) ?_
        refine lv_bipush (v := (-2)) hx hb dX10_text_72 (by decide) ?_
        obtain rfl := Option.some.inj hf
        subst hq
        exact rt_i C hw hS dX10_text_74

theorem kX10_text {l : Launch} {Γ : Gm} {A : Nat → Prop} {G : Gs} {o : Nat} {r : Rec} {v1 : Int32} {v2 : Int32} {fin : Rec × Int32} (hk : kd Γ o = some 10) (hf : fX10_text r v1 v2 = some fin) : Kt l yX10_text cX10_text 4 (some .int) 9 205 Γ A (ug G o r) (ug G o fin.1) [.ref (ad Γ o), .int v1, .int v2] (some (.int fin.2)) :=
  kt_of (by decide) (Nat.le_of_ble_eq_true rfl) (fun p e s m args below meth c C => wX10_text_e C hk hf rfl)
theorem kgX10_text {l : Launch} {Γ : Gm} {A : Nat → Prop} {G : Gs} {o : Nat} {v1 : Int32} {v2 : Int32} {fin : Rec × Int32} (hk : kd Γ o = some 10) (hf : fX10_text (G o) v1 v2 = some fin) : Kt l yX10_text cX10_text 4 (some .int) 9 205 Γ A G (ug G o fin.1) [.ref (ad Γ o), .int v1, .int v2] (some (.int fin.2)) := by
  have h := kX10_text (l := l) (A := A) (G := G) (r := G o) hk hf
  rw [ug_self] at h
  exact h
noncomputable def fX10_fault (r : Rec) (v1 : Int32) : Option (Rec × Int32) :=
  (some (si r 0 0)).bind fun r1 => if v1 = 0 then some ((r1, ga r1 3 (Int32.toNatClampNeg 0))) else if v1 = 1 then some ((r1, ga r1 4 (Int32.toNatClampNeg 0))) else some ((r1, (-1)))
set_option maxRecDepth 100000 in
set_option maxHeartbeats 4000000 in
theorem wX10_fault_e {p : Program} {l : Launch} {e : Env} {s : State} {m : MethodId} {args : Array Value} {below : List Frame} {meth : Method} {c : Code} {Γ : Gm} {A : Nat → Prop} {G : Gs} {o : Nat} {r : Rec} {v1 : Int32} {q : (Rec × Int32)} {fin : Rec × Int32} (C : Cx p s m args meth c yX10_fault cX10_fault 2 (some .int) Γ A) (hk : kd Γ o = some 10) (hf : fX10_fault r v1 = some q) (hq : (fun x => x = fin) q) : Wk p l e { frames := 0, cells := 0, slots := 0, locals := 0 } s m args below meth c Γ A (ug G o fin.1) (some (.int fin.2)) 0 2 [(0, .ref (ad Γ o)), (1, .int v1)] [] (ug G o r) := by
  intro H locs ls hw hS hl
  unfold fX10_fault at hf
  obtain ⟨hx, hb, hml, hr, hown, htw, hlocks, hE⟩ := id C
  have hown : s.vm.findClass RX10 = some m.cls := hown
  refine lv_aload_n hx hb dX10_fault_0 rfl (lv_at hl 0 rfl) ?_
  refine lv_iconst (v := 0) hx hb dX10_fault_1 (by decide) ?_
  obtain ⟨r1, hr1, hf⟩ := bd hf
  have hr1 := Option.some.inj hr1
  refine wo_put (C := RX10) (T := TX10) (N := 49) (v := .int 0) (ty := .int) hx hb htw uwX10 tyX10 tyX10_ok nmX10 hown hE hw hS hk rfl rfl 0 (by decide) (htw _ mw1243) (fun _ h9 => h9) rfl (tyX10_ok 0 (by decide)) rfl rfl (Nat.le_of_ble_eq_true rfl) (st10_0 hr1) dX10_fault_2 (fun H locs hw hS => ?_)
  refine lv_iload_n hx hb dX10_fault_5 rfl (lv_at hl 1 rfl) ?_
  refine lv_if_ne (tgt := 18) hx hb dX10_fault_6 (by decide) (fun c3 => ?_) (fun c3 => ?_)
  · have hf := ifn c3 hf
    refine lv_iload_n hx hb dX10_fault_18 rfl (lv_at hl 1 rfl) ?_
    refine lv_iconst (v := 1) hx hb dX10_fault_19 (by decide) ?_
    refine lv_icmp_ne (tgt := 32) hx hb dX10_fault_20 (by decide) (fun c2 => ?_) (fun c2 => ?_)
    · have hf := ifn c2 hf
      refine lv_iconst (v := (-1)) hx hb dX10_fault_32 (by decide) ?_
      obtain rfl := Option.some.inj hf
      subst hq
      exact rt_i C hw hS dX10_fault_33
    · have hf := ifp c2 hf
      refine lv_aload_n hx hb dX10_fault_23 rfl (lv_at hl 0 rfl) ?_
      refine va_get (ci := 10) (v := .ref (aa Γ o 4)) (C := RX10) (T := TX10) (N := 49) hx hb htw uwX10 hown hE.1 (wo_me hw hk) 0 rfl rfl 4 (by decide) (htw _ mw1247) (fun _ h9 => h9) rfl dX10_fault_24 ?_
      refine lv_iconst (v := 0) hx hb dX10_fault_27 (by decide) ?_
      refine va_iald hx hb hE.1 (wo_me hw hk) 4 0 rfl rfl (inR_in (i := 0) (n := 4) (by decide)) dX10_fault_28 ?_
      refine lv_goto (tgt := 33) hx hb dX10_fault_29 (by decide) ?_
      obtain rfl := Option.some.inj hf
      subst hq
      exact rt_i C hw hS dX10_fault_33
  · have hf := ifp c3 hf
    refine lv_aload_n hx hb dX10_fault_9 rfl (lv_at hl 0 rfl) ?_
    refine va_get (ci := 10) (v := .ref (aa Γ o 3)) (C := RX10) (T := TX10) (N := 49) hx hb htw uwX10 hown hE.1 (wo_me hw hk) 0 rfl rfl 3 (by decide) (htw _ mw1246) (fun _ h9 => h9) rfl dX10_fault_10 ?_
    refine lv_iconst (v := 0) hx hb dX10_fault_13 (by decide) ?_
    refine va_iald hx hb hE.1 (wo_me hw hk) 3 0 rfl rfl (inR_in (i := 0) (n := 4) (by decide)) dX10_fault_14 ?_
    refine lv_goto (tgt := 33) hx hb dX10_fault_15 (by decide) ?_
    obtain rfl := Option.some.inj hf
    subst hq
    exact rt_i C hw hS dX10_fault_33

theorem kX10_fault {l : Launch} {Γ : Gm} {A : Nat → Prop} {G : Gs} {o : Nat} {r : Rec} {v1 : Int32} {fin : Rec × Int32} (hk : kd Γ o = some 10) (hf : fX10_fault r v1 = some fin) : Kt l yX10_fault cX10_fault 2 (some .int) 0 0 Γ A (ug G o r) (ug G o fin.1) [.ref (ad Γ o), .int v1] (some (.int fin.2)) :=
  kt_of (by decide) (Nat.le_of_ble_eq_true rfl) (fun p e s m args below meth c C => wX10_fault_e C hk hf rfl)
theorem kgX10_fault {l : Launch} {Γ : Gm} {A : Nat → Prop} {G : Gs} {o : Nat} {v1 : Int32} {fin : Rec × Int32} (hk : kd Γ o = some 10) (hf : fX10_fault (G o) v1 = some fin) : Kt l yX10_fault cX10_fault 2 (some .int) 0 0 Γ A G (ug G o fin.1) [.ref (ad Γ o), .int v1] (some (.int fin.2)) := by
  have h := kX10_fault (l := l) (A := A) (G := G) (r := G o) hk hf
  rw [ug_self] at h
  exact h
noncomputable def fX10_of (r : Rec) (v1 : Int32) : Option Int32 :=
  gd (inR ((71 * (gi r 25)) + v1) 568) (some (ga r 6 (Int32.toNatClampNeg ((71 * (gi r 25)) + v1))))
set_option maxRecDepth 100000 in
set_option maxHeartbeats 4000000 in
theorem wX10_of_e {p : Program} {l : Launch} {e : Env} {s : State} {m : MethodId} {args : Array Value} {below : List Frame} {meth : Method} {c : Code} {Γ : Gm} {A : Nat → Prop} {G : Gs} {o : Nat} {r : Rec} {v1 : Int32} {q : Int32} {fin : Int32} (C : Cx p s m args meth c yX10_of cX10_of 2 (some .int) Γ A) (hk : kd Γ o = some 10) (hf : fX10_of r v1 = some q) (hq : (fun x => x = fin) q) : Wk p l e { frames := 0, cells := 0, slots := 0, locals := 0 } s m args below meth c Γ A (ug G o r) (some (.int fin)) 0 2 [(0, .ref (ad Γ o)), (1, .int v1)] [] (ug G o r) := by
  intro H locs ls hw hS hl
  unfold fX10_of at hf
  obtain ⟨hx, hb, hml, hr, hown, htw, hlocks, hE⟩ := id C
  have hown : s.vm.findClass RX10 = some m.cls := hown
  refine lv_aload_n hx hb dX10_of_0 rfl (lv_at hl 0 rfl) ?_
  refine va_get (ci := 10) (v := .ref (aa Γ o 6)) (C := RX10) (T := TX10) (N := 49) hx hb htw uwX10 hown hE.1 (wo_me hw hk) 0 rfl rfl 6 (by decide) (htw _ mw1249) (fun _ h9 => h9) rfl dX10_of_1 ?_
  refine lv_bipush (v := 71) hx hb dX10_of_4 (by decide) ?_
  refine lv_aload_n hx hb dX10_of_6 rfl (lv_at hl 0 rfl) ?_
  refine va_get (ci := 10) (v := .int (gi r 25)) (C := RX10) (T := TX10) (N := 49) hx hb htw uwX10 hown hE.1 (wo_me hw hk) 0 rfl rfl 25 (by decide) (htw _ mw1268) (fun _ h9 => h9) rfl dX10_of_7 ?_
  refine lv_imul hx hb dX10_of_10 ?_
  refine lv_iload_n hx hb dX10_of_11 rfl (lv_at hl 1 rfl) ?_
  refine lv_iadd hx hb dX10_of_12 ?_
  obtain ⟨g1, hf⟩ := gd_some hf
  refine va_iald hx hb hE.1 (wo_me hw hk) 6 0 rfl rfl (inR_in g1) dX10_of_13 ?_
  obtain rfl := Option.some.inj hf
  subst hq
  exact rt_i C hw hS dX10_of_14

theorem kX10_of {l : Launch} {Γ : Gm} {A : Nat → Prop} {G : Gs} {o : Nat} {r : Rec} {v1 : Int32} {fin : Int32} (hk : kd Γ o = some 10) (hf : fX10_of r v1 = some fin) : Kt l yX10_of cX10_of 2 (some .int) 0 0 Γ A (ug G o r) (ug G o r) [.ref (ad Γ o), .int v1] (some (.int fin)) :=
  kt_of (by decide) (Nat.le_of_ble_eq_true rfl) (fun p e s m args below meth c C => wX10_of_e C hk hf rfl)
theorem kgX10_of {l : Launch} {Γ : Gm} {A : Nat → Prop} {G : Gs} {o : Nat} {v1 : Int32} {fin : Int32} (hk : kd Γ o = some 10) (hf : fX10_of (G o) v1 = some fin) : Kt l yX10_of cX10_of 2 (some .int) 0 0 Γ A G G [.ref (ad Γ o), .int v1] (some (.int fin)) := by
  have h := kX10_of (l := l) (A := A) (G := G) (r := G o) hk hf
  rw [ug_self] at h
  exact h
noncomputable def bX10_hand_36 (r : Rec) (v2 : Int32) : Option ((Int32 × Rec) ⊕ (Rec × Int32)) :=
  if 8 ≤ v2 then some (.inr ((r, 1))) else (fX10_of r (19 + v2)).bind fun z1 => gd (inR v2 8) ((some (sa r 28 (upd (ga r 28) (Int32.toNatClampNeg v2) z1))).bind fun r3 => some (.inl (v2 + 1, r3)))
set_option maxRecDepth 100000 in
set_option maxHeartbeats 4000000 in
theorem wX10_hand_36 {p : Program} {l : Launch} {e : Env} {s : State} {m : MethodId} {args : Array Value} {below : List Frame} {meth : Method} {c : Code} {Γ : Gm} {A : Nat → Prop} {G : Gs} {o : Nat} {r : Rec} {v2 : Int32} {q : ((Int32 × Rec) ⊕ (Rec × Int32))} {fin : Rec × Int32} (C : Cx p s m args meth c yX10_hand cX10_hand 3 (some .boolean) Γ A) (hk : kd Γ o = some 10) (hf : bX10_hand_36 r v2 = some q) (hq : (KC (fun st : Int32 × Rec => Wk p l e { frames := 2, cells := 0, slots := 0, locals := 44 } s m args below meth c Γ A (ug G o fin.1) (some (.int fin.2)) 36 3 [(0, .ref (ad Γ o)), (2, .int st.1)] [] (ug G o st.2)) (fun x => x = fin)) q) : Wk p l e { frames := 2, cells := 0, slots := 0, locals := 44 } s m args below meth c Γ A (ug G o fin.1) (some (.int fin.2)) 36 3 [(0, .ref (ad Γ o)), (2, .int v2)] [] (ug G o r) := by
  intro H locs ls hw hS hl
  unfold bX10_hand_36 at hf
  obtain ⟨hx, hb, hml, hr, hown, htw, hlocks, hE⟩ := id C
  have hown : s.vm.findClass RX10 = some m.cls := hown
  refine lv_iload_n hx hb dX10_hand_36 rfl (lv_at hl 1 rfl) ?_
  refine lv_bipush (v := 8) hx hb dX10_hand_37 (by decide) ?_
  refine lv_icmp_ge (tgt := 62) hx hb dX10_hand_39 (by decide) (fun c4 => ?_) (fun c4 => ?_)
  · have hf := ifp c4 hf
    refine lv_iconst (v := 1) hx hb dX10_hand_62 (by decide) ?_
    obtain rfl := Option.some.inj hf
    have hq := hq.2 _ rfl
    subst hq
    exact rt_z C (Or.inr rfl) hw hS dX10_hand_63
  · have hf := ifn c4 hf
    refine lv_aload_n hx hb dX10_hand_42 rfl (lv_at hl 0 rfl) ?_
    refine va_get (ci := 10) (v := .ref (aa Γ o 28)) (C := RX10) (T := TX10) (N := 49) hx hb htw uwX10 hown hE.1 (wo_me hw hk) 0 rfl rfl 28 (by decide) (htw _ mw1271) (fun _ h9 => h9) rfl dX10_hand_43 ?_
    refine lv_iload_n hx hb dX10_hand_46 rfl (lv_at hl 1 rfl) ?_
    refine lv_aload_n hx hb dX10_hand_47 rfl (lv_at hl 0 rfl) ?_
    refine lv_bipush (v := 19) hx hb dX10_hand_48 (by decide) ?_
    refine lv_iload_n hx hb dX10_hand_50 rfl (lv_at hl 1 rfl) ?_
    refine lv_iadd hx hb dX10_hand_51 ?_
    obtain ⟨z1, hz1, hf⟩ := bd hf
    refine cl_Vs (rest := [.int v2, .ref (aa Γ o 28)]) (kX10_of (l := l) (Γ := Γ) (A := A) (G := G) (o := o) hk hz1) ⟨hx, hb, hml, hown, htw⟩ hE hw hS (wo_me hw hk) (q0 := 0) rfl rfl mw1541 mw1543 mw66 mw129 mw1544 pdX10_of ⟨Nat.le_of_ble_eq_true rfl, Nat.le_of_ble_eq_true rfl⟩ rfl rfl hl.1 (Nat.le_of_ble_eq_true rfl) dX10_hand_52 (fun H locs hw hS => ?_)
    obtain ⟨g2, hf⟩ := gd_some hf
    obtain ⟨r3, hr3, hf⟩ := bd hf
    have hr3 := Option.some.inj hr3
    refine wo_iast hx hb hE hw hS hk (q0 := 12) rfl (inR_in g2) (sa10_28 hr3) dX10_hand_55 (fun H locs hw hS => ?_)
    refine lv_iinc (v := v2 + 1) (lv' := [(2, .int (v2 + 1)), (0, .ref (ad Γ o))]) hx hb dX10_hand_56 hl (k := 1) rfl (by rfl) (by decide) rfl (fun ls hl => ?_)
    refine lv_goto (tgt := 36) hx hb dX10_hand_59 (by decide) ?_
    obtain rfl := Option.some.inj hf
    exact hq.1 _ rfl H locs ls hw hS (lv_sub hl [1, 0] rfl)

set_option maxRecDepth 100000 in
set_option maxHeartbeats 4000000 in
theorem lwX10_hand_36 {p : Program} {l : Launch} {e : Env} {s : State} {m : MethodId} {args : Array Value} {below : List Frame} {meth : Method} {c : Code} {Γ : Gm} {A : Nat → Prop} {G : Gs} {o : Nat} {r : Rec} {v2 : Int32} {q : (Rec × Int32)} {fin : Rec × Int32} (C : Cx p s m args meth c yX10_hand cX10_hand 3 (some .boolean) Γ A) (hk : kd Γ o = some 10) (hf : iter (fun st : Int32 × Rec => bX10_hand_36 st.2 st.1) (v2, r) = some q) (hq : (fun x => x = fin) q) : Wk p l e { frames := 2, cells := 0, slots := 0, locals := 44 } s m args below meth c Γ A (ug G o fin.1) (some (.int fin.2)) 36 3 [(0, .ref (ad Γ o)), (2, .int v2)] [] (ug G o r) := by
  intro H locs ls hw hS hl
  refine iter_walk (P := (fun st : Int32 × Rec => Wk p l e { frames := 2, cells := 0, slots := 0, locals := 44 } s m args below meth c Γ A (ug G o fin.1) (some (.int fin.2)) 36 3 [(0, .ref (ad Γ o)), (2, .int st.1)] [] (ug G o st.2))) (K := (fun x => x = fin)) (fun st q hq1 h1 h2 => ?_) hf hq H locs ls hw hS hl
  exact wX10_hand_36 (r := st.2) (v2 := st.1) C hk hq1 ⟨h1, h2⟩

noncomputable def fX10_hand (r : Rec) (v1 : Int32) : Option (Rec × Int32) :=
  (fX10_is r 0 v1).bind fun z5 => if z5 = 0 then some ((r, 0)) else (some (si r 25 v1)).bind fun r6 => (fX10_of r6 0).bind fun z7 => (some (si r6 26 z7)).bind fun r8 => (fX10_of r8 1).bind fun z9 => (some (si r8 27 z9)).bind fun r10 => iter (fun st : Int32 × Rec => bX10_hand_36 st.2 st.1) (0, r10)
set_option maxRecDepth 100000 in
set_option maxHeartbeats 4000000 in
theorem wX10_hand_e {p : Program} {l : Launch} {e : Env} {s : State} {m : MethodId} {args : Array Value} {below : List Frame} {meth : Method} {c : Code} {Γ : Gm} {A : Nat → Prop} {G : Gs} {o : Nat} {r : Rec} {v1 : Int32} {q : (Rec × Int32)} {fin : Rec × Int32} (C : Cx p s m args meth c yX10_hand cX10_hand 3 (some .boolean) Γ A) (hk : kd Γ o = some 10) (hf : fX10_hand r v1 = some q) (hq : (fun x => x = fin) q) : Wk p l e { frames := 2, cells := 0, slots := 0, locals := 44 } s m args below meth c Γ A (ug G o fin.1) (some (.int fin.2)) 0 3 [(0, .ref (ad Γ o)), (1, .int v1)] [] (ug G o r) := by
  intro H locs ls hw hS hl
  unfold fX10_hand at hf
  obtain ⟨hx, hb, hml, hr, hown, htw, hlocks, hE⟩ := id C
  have hown : s.vm.findClass RX10 = some m.cls := hown
  refine lv_aload_n hx hb dX10_hand_0 rfl (lv_at hl 0 rfl) ?_
  refine lv_iconst (v := 0) hx hb dX10_hand_1 (by decide) ?_
  refine lv_iload_n hx hb dX10_hand_2 rfl (lv_at hl 1 rfl) ?_
  obtain ⟨z5, hz5, hf⟩ := bd hf
  refine cl_Vs (rest := []) (kX10_is (l := l) (Γ := Γ) (A := A) (G := G) (o := o) hk hz5) ⟨hx, hb, hml, hown, htw⟩ hE hw hS (wo_me hw hk) (q0 := 0) rfl rfl mw1411 mw1413 mw41 mw129 mw1414 pdX10_is ⟨Nat.le_of_ble_eq_true rfl, Nat.le_of_ble_eq_true rfl⟩ rfl rfl hl.1 (Nat.le_of_ble_eq_true rfl) dX10_hand_3 (fun H locs hw hS => ?_)
  refine lv_if_ne (tgt := 11) hx hb dX10_hand_6 (by decide) (fun c11 => ?_) (fun c11 => ?_)
  · have hf := ifn c11 hf
    refine lv_aload_n hx hb dX10_hand_11 rfl (lv_at hl 0 rfl) ?_
    refine lv_iload_n hx hb dX10_hand_12 rfl (lv_at hl 1 rfl) ?_
    obtain ⟨r6, hr6, hf⟩ := bd hf
    have hr6 := Option.some.inj hr6
    refine wo_put (C := RX10) (T := TX10) (N := 49) (v := .int v1) (ty := .int) hx hb htw uwX10 tyX10 tyX10_ok nmX10 hown hE hw hS hk rfl rfl 25 (by decide) (htw _ mw1268) (fun _ h9 => h9) rfl (tyX10_ok 25 (by decide)) rfl rfl (Nat.le_of_ble_eq_true rfl) (st10_25 hr6) dX10_hand_13 (fun H locs hw hS => ?_)
    refine lv_aload_n hx hb dX10_hand_16 rfl (lv_at hl 0 rfl) ?_
    refine lv_aload_n hx hb dX10_hand_17 rfl (lv_at hl 0 rfl) ?_
    refine lv_iconst (v := 0) hx hb dX10_hand_18 (by decide) ?_
    obtain ⟨z7, hz7, hf⟩ := bd hf
    refine cl_Vs (rest := [.ref (ad Γ o)]) (kX10_of (l := l) (Γ := Γ) (A := A) (G := G) (o := o) hk hz7) ⟨hx, hb, hml, hown, htw⟩ hE hw hS (wo_me hw hk) (q0 := 0) rfl rfl mw1541 mw1543 mw66 mw129 mw1544 pdX10_of ⟨Nat.le_of_ble_eq_true rfl, Nat.le_of_ble_eq_true rfl⟩ rfl rfl hl.1 (Nat.le_of_ble_eq_true rfl) dX10_hand_19 (fun H locs hw hS => ?_)
    obtain ⟨r8, hr8, hf⟩ := bd hf
    have hr8 := Option.some.inj hr8
    refine wo_put (C := RX10) (T := TX10) (N := 49) (v := .int z7) (ty := .int) hx hb htw uwX10 tyX10 tyX10_ok nmX10 hown hE hw hS hk rfl rfl 26 (by decide) (htw _ mw1269) (fun _ h9 => h9) rfl (tyX10_ok 26 (by decide)) rfl rfl (Nat.le_of_ble_eq_true rfl) (st10_26 hr8) dX10_hand_22 (fun H locs hw hS => ?_)
    refine lv_aload_n hx hb dX10_hand_25 rfl (lv_at hl 0 rfl) ?_
    refine lv_aload_n hx hb dX10_hand_26 rfl (lv_at hl 0 rfl) ?_
    refine lv_iconst (v := 1) hx hb dX10_hand_27 (by decide) ?_
    obtain ⟨z9, hz9, hf⟩ := bd hf
    refine cl_Vs (rest := [.ref (ad Γ o)]) (kX10_of (l := l) (Γ := Γ) (A := A) (G := G) (o := o) hk hz9) ⟨hx, hb, hml, hown, htw⟩ hE hw hS (wo_me hw hk) (q0 := 0) rfl rfl mw1541 mw1543 mw66 mw129 mw1544 pdX10_of ⟨Nat.le_of_ble_eq_true rfl, Nat.le_of_ble_eq_true rfl⟩ rfl rfl hl.1 (Nat.le_of_ble_eq_true rfl) dX10_hand_28 (fun H locs hw hS => ?_)
    obtain ⟨r10, hr10, hf⟩ := bd hf
    have hr10 := Option.some.inj hr10
    refine wo_put (C := RX10) (T := TX10) (N := 49) (v := .int z9) (ty := .int) hx hb htw uwX10 tyX10 tyX10_ok nmX10 hown hE hw hS hk rfl rfl 27 (by decide) (htw _ mw1270) (fun _ h9 => h9) rfl (tyX10_ok 27 (by decide)) rfl rfl (Nat.le_of_ble_eq_true rfl) (st10_27 hr10) dX10_hand_31 (fun H locs hw hS => ?_)
    refine lv_iconst (v := 0) hx hb dX10_hand_34 (by decide) ?_
    refine lv_istore_n (lv' := [(2, .int 0), (0, .ref (ad Γ o)), (1, .int v1)]) hx hb dX10_hand_35 rfl hl (by decide) rfl (fun ls hl => ?_)
    exact lwX10_hand_36 C hk hf hq H locs ls hw hS (lv_sub hl [1, 0] rfl)
  · have hf := ifp c11 hf
    refine lv_iconst (v := 0) hx hb dX10_hand_9 (by decide) ?_
    obtain rfl := Option.some.inj hf
    subst hq
    exact rt_z C (Or.inl rfl) hw hS dX10_hand_10

theorem kX10_hand {l : Launch} {Γ : Gm} {A : Nat → Prop} {G : Gs} {o : Nat} {r : Rec} {v1 : Int32} {fin : Rec × Int32} (hk : kd Γ o = some 10) (hf : fX10_hand r v1 = some fin) : Kt l yX10_hand cX10_hand 3 (some .boolean) 2 44 Γ A (ug G o r) (ug G o fin.1) [.ref (ad Γ o), .int v1] (some (.int fin.2)) :=
  kt_of (by decide) (Nat.le_of_ble_eq_true rfl) (fun p e s m args below meth c C => wX10_hand_e C hk hf rfl)
theorem kgX10_hand {l : Launch} {Γ : Gm} {A : Nat → Prop} {G : Gs} {o : Nat} {v1 : Int32} {fin : Rec × Int32} (hk : kd Γ o = some 10) (hf : fX10_hand (G o) v1 = some fin) : Kt l yX10_hand cX10_hand 3 (some .boolean) 2 44 Γ A G (ug G o fin.1) [.ref (ad Γ o), .int v1] (some (.int fin.2)) := by
  have h := kX10_hand (l := l) (A := A) (G := G) (r := G o) hk hf
  rw [ug_self] at h
  exact h
noncomputable def fX10_isPiece (r : Rec) (v1 : Int32) : Option Int32 :=
  (fX10_in v1 0 ((gi r 26) - 1)).bind fun z1 => gd (isB z1) (some (z1))
set_option maxRecDepth 100000 in
set_option maxHeartbeats 4000000 in
theorem wX10_isPiece_e {p : Program} {l : Launch} {e : Env} {s : State} {m : MethodId} {args : Array Value} {below : List Frame} {meth : Method} {c : Code} {Γ : Gm} {A : Nat → Prop} {G : Gs} {o : Nat} {r : Rec} {v1 : Int32} {q : Int32} {fin : Int32} (C : Cx p s m args meth c yX10_isPiece cX10_isPiece 2 (some .boolean) Γ A) (hk : kd Γ o = some 10) (hf : fX10_isPiece r v1 = some q) (hq : (fun x => x = fin) q) : Wk p l e { frames := 1, cells := 0, slots := 0, locals := 22 } s m args below meth c Γ A (ug G o r) (some (.int fin)) 0 2 [(0, .ref (ad Γ o)), (1, .int v1)] [] (ug G o r) := by
  intro H locs ls hw hS hl
  unfold fX10_isPiece at hf
  obtain ⟨hx, hb, hml, hr, hown, htw, hlocks, hE⟩ := id C
  have hown : s.vm.findClass RX10 = some m.cls := hown
  refine lv_iload_n hx hb dX10_isPiece_0 rfl (lv_at hl 1 rfl) ?_
  refine lv_iconst (v := 0) hx hb dX10_isPiece_1 (by decide) ?_
  refine lv_aload_n hx hb dX10_isPiece_2 rfl (lv_at hl 0 rfl) ?_
  refine va_get (ci := 10) (v := .int (gi r 26)) (C := RX10) (T := TX10) (N := 49) hx hb htw uwX10 hown hE.1 (wo_me hw hk) 0 rfl rfl 26 (by decide) (htw _ mw1269) (fun _ h9 => h9) rfl dX10_isPiece_3 ?_
  refine lv_iconst (v := 1) hx hb dX10_isPiece_6 (by decide) ?_
  refine lv_isub hx hb dX10_isPiece_7 ?_
  obtain ⟨z1, hz1, hf⟩ := bd hf
  refine cl_Ss (rest := []) (kX10_in (l := l) (Γ := Γ) (A := A) (G := (ug G o r)) hz1) ⟨hx, hb, hml, hown, htw⟩ hE hw hS mw1404 mw1405 mw129 mw1406 pdX10_in ⟨Nat.le_of_ble_eq_true rfl, Nat.le_of_ble_eq_true rfl⟩ rfl rfl hl.1 (Nat.le_of_ble_eq_true rfl) dX10_isPiece_8 (fun H locs hw hS => ?_)
  obtain ⟨g2, hf⟩ := gd_some hf
  obtain rfl := Option.some.inj hf
  subst hq
  exact rt_z C (isB_or g2) hw hS dX10_isPiece_11

theorem kX10_isPiece {l : Launch} {Γ : Gm} {A : Nat → Prop} {G : Gs} {o : Nat} {r : Rec} {v1 : Int32} {fin : Int32} (hk : kd Γ o = some 10) (hf : fX10_isPiece r v1 = some fin) : Kt l yX10_isPiece cX10_isPiece 2 (some .boolean) 1 22 Γ A (ug G o r) (ug G o r) [.ref (ad Γ o), .int v1] (some (.int fin)) :=
  kt_of (by decide) (Nat.le_of_ble_eq_true rfl) (fun p e s m args below meth c C => wX10_isPiece_e C hk hf rfl)
theorem kgX10_isPiece {l : Launch} {Γ : Gm} {A : Nat → Prop} {G : Gs} {o : Nat} {v1 : Int32} {fin : Int32} (hk : kd Γ o = some 10) (hf : fX10_isPiece (G o) v1 = some fin) : Kt l yX10_isPiece cX10_isPiece 2 (some .boolean) 1 22 Γ A G G [.ref (ad Γ o), .int v1] (some (.int fin)) := by
  have h := kX10_isPiece (l := l) (A := A) (G := G) (r := G o) hk hf
  rw [ug_self] at h
  exact h
noncomputable def fX10_isSecret (r : Rec) (v1 : Int32) : Option Int32 :=
  (fX10_in v1 0 ((gi r 27) - 1)).bind fun z1 => gd (isB z1) (some (z1))
set_option maxRecDepth 100000 in
set_option maxHeartbeats 4000000 in
theorem wX10_isSecret_e {p : Program} {l : Launch} {e : Env} {s : State} {m : MethodId} {args : Array Value} {below : List Frame} {meth : Method} {c : Code} {Γ : Gm} {A : Nat → Prop} {G : Gs} {o : Nat} {r : Rec} {v1 : Int32} {q : Int32} {fin : Int32} (C : Cx p s m args meth c yX10_isSecret cX10_isSecret 2 (some .boolean) Γ A) (hk : kd Γ o = some 10) (hf : fX10_isSecret r v1 = some q) (hq : (fun x => x = fin) q) : Wk p l e { frames := 1, cells := 0, slots := 0, locals := 22 } s m args below meth c Γ A (ug G o r) (some (.int fin)) 0 2 [(0, .ref (ad Γ o)), (1, .int v1)] [] (ug G o r) := by
  intro H locs ls hw hS hl
  unfold fX10_isSecret at hf
  obtain ⟨hx, hb, hml, hr, hown, htw, hlocks, hE⟩ := id C
  have hown : s.vm.findClass RX10 = some m.cls := hown
  refine lv_iload_n hx hb dX10_isSecret_0 rfl (lv_at hl 1 rfl) ?_
  refine lv_iconst (v := 0) hx hb dX10_isSecret_1 (by decide) ?_
  refine lv_aload_n hx hb dX10_isSecret_2 rfl (lv_at hl 0 rfl) ?_
  refine va_get (ci := 10) (v := .int (gi r 27)) (C := RX10) (T := TX10) (N := 49) hx hb htw uwX10 hown hE.1 (wo_me hw hk) 0 rfl rfl 27 (by decide) (htw _ mw1270) (fun _ h9 => h9) rfl dX10_isSecret_3 ?_
  refine lv_iconst (v := 1) hx hb dX10_isSecret_6 (by decide) ?_
  refine lv_isub hx hb dX10_isSecret_7 ?_
  obtain ⟨z1, hz1, hf⟩ := bd hf
  refine cl_Ss (rest := []) (kX10_in (l := l) (Γ := Γ) (A := A) (G := (ug G o r)) hz1) ⟨hx, hb, hml, hown, htw⟩ hE hw hS mw1404 mw1405 mw129 mw1406 pdX10_in ⟨Nat.le_of_ble_eq_true rfl, Nat.le_of_ble_eq_true rfl⟩ rfl rfl hl.1 (Nat.le_of_ble_eq_true rfl) dX10_isSecret_8 (fun H locs hw hS => ?_)
  obtain ⟨g2, hf⟩ := gd_some hf
  obtain rfl := Option.some.inj hf
  subst hq
  exact rt_z C (isB_or g2) hw hS dX10_isSecret_11

theorem kX10_isSecret {l : Launch} {Γ : Gm} {A : Nat → Prop} {G : Gs} {o : Nat} {r : Rec} {v1 : Int32} {fin : Int32} (hk : kd Γ o = some 10) (hf : fX10_isSecret r v1 = some fin) : Kt l yX10_isSecret cX10_isSecret 2 (some .boolean) 1 22 Γ A (ug G o r) (ug G o r) [.ref (ad Γ o), .int v1] (some (.int fin)) :=
  kt_of (by decide) (Nat.le_of_ble_eq_true rfl) (fun p e s m args below meth c C => wX10_isSecret_e C hk hf rfl)
theorem kgX10_isSecret {l : Launch} {Γ : Gm} {A : Nat → Prop} {G : Gs} {o : Nat} {v1 : Int32} {fin : Int32} (hk : kd Γ o = some 10) (hf : fX10_isSecret (G o) v1 = some fin) : Kt l yX10_isSecret cX10_isSecret 2 (some .boolean) 1 22 Γ A G G [.ref (ad Γ o), .int v1] (some (.int fin)) := by
  have h := kX10_isSecret (l := l) (A := A) (G := G) (r := G o) hk hf
  rw [ug_self] at h
  exact h
noncomputable def bX10_plain_31 (r : Rec) (s0 : Int32) (s1 : Int32) : Option Int32 :=
  some (s1 * s0)
set_option maxRecDepth 100000 in
set_option maxHeartbeats 4000000 in
theorem wX10_plain_31 {p : Program} {l : Launch} {e : Env} {s : State} {m : MethodId} {args : Array Value} {below : List Frame} {meth : Method} {c : Code} {Γ : Gm} {A : Nat → Prop} {G : Gs} {o : Nat} {r : Rec} {s0 : Int32} {s1 : Int32} {q : Int32} {fin : Int32} (C : Cx p s m args meth c yX10_plain cX10_plain 3 (some .int) Γ A) (hk : kd Γ o = some 10) (hf : bX10_plain_31 r s0 s1 = some q) (hq : (fun x => x = fin) q) : Wk p l e { frames := 1, cells := 0, slots := 0, locals := 21 } s m args below meth c Γ A (ug G o r) (some (.int fin)) 31 3 [] [.int s0, .int s1] (ug G o r) := by
  intro H locs ls hw hS hl
  unfold bX10_plain_31 at hf
  obtain ⟨hx, hb, hml, hr, hown, htw, hlocks, hE⟩ := id C
  have hown : s.vm.findClass RX10 = some m.cls := hown
  refine lv_imul hx hb dX10_plain_31 ?_
  obtain rfl := Option.some.inj hf
  subst hq
  exact rt_i C hw hS dX10_plain_32

noncomputable def fX10_plain (r : Rec) (v1 : Int32) (v2 : Int32) : Option Int32 :=
  (fX10_of r (37 + v1)).bind fun z1 => (fX10_of r (27 + v1)).bind fun z2 => (fX10_of r (3 + v2)).bind fun z3 => if z2 = z3 then bX10_plain_31 r 2 z1 else bX10_plain_31 r 1 z1
set_option maxRecDepth 100000 in
set_option maxHeartbeats 4000000 in
theorem wX10_plain_e {p : Program} {l : Launch} {e : Env} {s : State} {m : MethodId} {args : Array Value} {below : List Frame} {meth : Method} {c : Code} {Γ : Gm} {A : Nat → Prop} {G : Gs} {o : Nat} {r : Rec} {v1 : Int32} {v2 : Int32} {q : Int32} {fin : Int32} (C : Cx p s m args meth c yX10_plain cX10_plain 3 (some .int) Γ A) (hk : kd Γ o = some 10) (hf : fX10_plain r v1 v2 = some q) (hq : (fun x => x = fin) q) : Wk p l e { frames := 1, cells := 0, slots := 0, locals := 21 } s m args below meth c Γ A (ug G o r) (some (.int fin)) 0 3 [(0, .ref (ad Γ o)), (1, .int v1), (2, .int v2)] [] (ug G o r) := by
  intro H locs ls hw hS hl
  unfold fX10_plain at hf
  obtain ⟨hx, hb, hml, hr, hown, htw, hlocks, hE⟩ := id C
  have hown : s.vm.findClass RX10 = some m.cls := hown
  refine lv_aload_n hx hb dX10_plain_0 rfl (lv_at hl 0 rfl) ?_
  refine lv_bipush (v := 37) hx hb dX10_plain_1 (by decide) ?_
  refine lv_iload_n hx hb dX10_plain_3 rfl (lv_at hl 1 rfl) ?_
  refine lv_iadd hx hb dX10_plain_4 ?_
  obtain ⟨z1, hz1, hf⟩ := bd hf
  refine cl_Vs (rest := []) (kX10_of (l := l) (Γ := Γ) (A := A) (G := G) (o := o) hk hz1) ⟨hx, hb, hml, hown, htw⟩ hE hw hS (wo_me hw hk) (q0 := 0) rfl rfl mw1541 mw1543 mw66 mw129 mw1544 pdX10_of ⟨Nat.le_of_ble_eq_true rfl, Nat.le_of_ble_eq_true rfl⟩ rfl rfl hl.1 (Nat.le_of_ble_eq_true rfl) dX10_plain_5 (fun H locs hw hS => ?_)
  refine lv_aload_n hx hb dX10_plain_8 rfl (lv_at hl 0 rfl) ?_
  refine lv_bipush (v := 27) hx hb dX10_plain_9 (by decide) ?_
  refine lv_iload_n hx hb dX10_plain_11 rfl (lv_at hl 1 rfl) ?_
  refine lv_iadd hx hb dX10_plain_12 ?_
  obtain ⟨z2, hz2, hf⟩ := bd hf
  refine cl_Vs (rest := [.int z1]) (kX10_of (l := l) (Γ := Γ) (A := A) (G := G) (o := o) hk hz2) ⟨hx, hb, hml, hown, htw⟩ hE hw hS (wo_me hw hk) (q0 := 0) rfl rfl mw1541 mw1543 mw66 mw129 mw1544 pdX10_of ⟨Nat.le_of_ble_eq_true rfl, Nat.le_of_ble_eq_true rfl⟩ rfl rfl hl.1 (Nat.le_of_ble_eq_true rfl) dX10_plain_13 (fun H locs hw hS => ?_)
  refine lv_aload_n hx hb dX10_plain_16 rfl (lv_at hl 0 rfl) ?_
  refine lv_iconst (v := 3) hx hb dX10_plain_17 (by decide) ?_
  refine lv_iload_n hx hb dX10_plain_18 rfl (lv_at hl 2 rfl) ?_
  refine lv_iadd hx hb dX10_plain_19 ?_
  obtain ⟨z3, hz3, hf⟩ := bd hf
  refine cl_Vs (rest := [.int z2, .int z1]) (kX10_of (l := l) (Γ := Γ) (A := A) (G := G) (o := o) hk hz3) ⟨hx, hb, hml, hown, htw⟩ hE hw hS (wo_me hw hk) (q0 := 0) rfl rfl mw1541 mw1543 mw66 mw129 mw1544 pdX10_of ⟨Nat.le_of_ble_eq_true rfl, Nat.le_of_ble_eq_true rfl⟩ rfl rfl hl.1 (Nat.le_of_ble_eq_true rfl) dX10_plain_20 (fun H locs hw hS => ?_)
  refine lv_icmp_ne (tgt := 30) hx hb dX10_plain_23 (by decide) (fun c4 => ?_) (fun c4 => ?_)
  · have hf := ifn c4 hf
    refine lv_iconst (v := 1) hx hb dX10_plain_30 (by decide) ?_
    exact wX10_plain_31 C hk hf hq H locs ls hw hS (lv_sub hl [] rfl)
  · have hf := ifp c4 hf
    refine lv_iconst (v := 2) hx hb dX10_plain_26 (by decide) ?_
    refine lv_goto (tgt := 31) hx hb dX10_plain_27 (by decide) ?_
    exact wX10_plain_31 C hk hf hq H locs ls hw hS (lv_sub hl [] rfl)

theorem kX10_plain {l : Launch} {Γ : Gm} {A : Nat → Prop} {G : Gs} {o : Nat} {r : Rec} {v1 : Int32} {v2 : Int32} {fin : Int32} (hk : kd Γ o = some 10) (hf : fX10_plain r v1 v2 = some fin) : Kt l yX10_plain cX10_plain 3 (some .int) 1 21 Γ A (ug G o r) (ug G o r) [.ref (ad Γ o), .int v1, .int v2] (some (.int fin)) :=
  kt_of (by decide) (Nat.le_of_ble_eq_true rfl) (fun p e s m args below meth c C => wX10_plain_e C hk hf rfl)
theorem kgX10_plain {l : Launch} {Γ : Gm} {A : Nat → Prop} {G : Gs} {o : Nat} {v1 : Int32} {v2 : Int32} {fin : Int32} (hk : kd Γ o = some 10) (hf : fX10_plain (G o) v1 v2 = some fin) : Kt l yX10_plain cX10_plain 3 (some .int) 1 21 Γ A G G [.ref (ad Γ o), .int v1, .int v2] (some (.int fin)) := by
  have h := kX10_plain (l := l) (A := A) (G := G) (r := G o) hk hf
  rw [ug_self] at h
  exact h
noncomputable def fX10_worthNow (r : Rec) (v1 : Int32) (v2 : Int32) : Option Int32 :=
  gd (inR v2 8) ((fX10_has (ga r 28 (Int32.toNatClampNeg v2)) v1).bind fun z2 => if z2 = 0 then (fX10_plain r v1 v2).bind fun z3 => some (z3) else (fX10_plain r v1 v2).bind fun z4 => some (z4 / 2))
set_option maxRecDepth 100000 in
set_option maxHeartbeats 4000000 in
theorem wX10_worthNow_e {p : Program} {l : Launch} {e : Env} {s : State} {m : MethodId} {args : Array Value} {below : List Frame} {meth : Method} {c : Code} {Γ : Gm} {A : Nat → Prop} {G : Gs} {o : Nat} {r : Rec} {v1 : Int32} {v2 : Int32} {q : Int32} {fin : Int32} (C : Cx p s m args meth c yX10_worthNow cX10_worthNow 3 (some .int) Γ A) (hk : kd Γ o = some 10) (hf : fX10_worthNow r v1 v2 = some q) (hq : (fun x => x = fin) q) : Wk p l e { frames := 2, cells := 0, slots := 0, locals := 43 } s m args below meth c Γ A (ug G o r) (some (.int fin)) 0 3 [(0, .ref (ad Γ o)), (1, .int v1), (2, .int v2)] [] (ug G o r) := by
  intro H locs ls hw hS hl
  unfold fX10_worthNow at hf
  obtain ⟨hx, hb, hml, hr, hown, htw, hlocks, hE⟩ := id C
  have hown : s.vm.findClass RX10 = some m.cls := hown
  refine lv_aload_n hx hb dX10_worthNow_0 rfl (lv_at hl 0 rfl) ?_
  refine va_get (ci := 10) (v := .ref (aa Γ o 28)) (C := RX10) (T := TX10) (N := 49) hx hb htw uwX10 hown hE.1 (wo_me hw hk) 0 rfl rfl 28 (by decide) (htw _ mw1271) (fun _ h9 => h9) rfl dX10_worthNow_1 ?_
  refine lv_iload_n hx hb dX10_worthNow_4 rfl (lv_at hl 2 rfl) ?_
  obtain ⟨g1, hf⟩ := gd_some hf
  refine va_iald hx hb hE.1 (wo_me hw hk) 12 0 rfl rfl (inR_in g1) dX10_worthNow_5 ?_
  refine lv_iload_n hx hb dX10_worthNow_6 rfl (lv_at hl 1 rfl) ?_
  obtain ⟨z2, hz2, hf⟩ := bd hf
  refine cl_Ss (rest := []) (kX10_has (l := l) (Γ := Γ) (A := A) (G := (ug G o r)) hz2) ⟨hx, hb, hml, hown, htw⟩ hE hw hS mw1561 mw1562 mw129 mw1563 pdX10_has ⟨Nat.le_of_ble_eq_true rfl, Nat.le_of_ble_eq_true rfl⟩ rfl rfl hl.1 (Nat.le_of_ble_eq_true rfl) dX10_worthNow_7 (fun H locs hw hS => ?_)
  refine lv_if_eq (tgt := 24) hx hb dX10_worthNow_10 (by decide) (fun c5 => ?_) (fun c5 => ?_)
  · have hf := ifp c5 hf
    refine lv_aload_n hx hb dX10_worthNow_24 rfl (lv_at hl 0 rfl) ?_
    refine lv_iload_n hx hb dX10_worthNow_25 rfl (lv_at hl 1 rfl) ?_
    refine lv_iload_n hx hb dX10_worthNow_26 rfl (lv_at hl 2 rfl) ?_
    obtain ⟨z3, hz3, hf⟩ := bd hf
    refine cl_Vs (rest := []) (kX10_plain (l := l) (Γ := Γ) (A := A) (G := G) (o := o) hk hz3) ⟨hx, hb, hml, hown, htw⟩ hE hw hS (wo_me hw hk) (q0 := 0) rfl rfl mw1564 mw1566 mw70 mw129 mw1567 pdX10_plain ⟨Nat.le_of_ble_eq_true rfl, Nat.le_of_ble_eq_true rfl⟩ rfl rfl hl.1 (Nat.le_of_ble_eq_true rfl) dX10_worthNow_27 (fun H locs hw hS => ?_)
    obtain rfl := Option.some.inj hf
    subst hq
    exact rt_i C hw hS dX10_worthNow_30
  · have hf := ifn c5 hf
    refine lv_aload_n hx hb dX10_worthNow_13 rfl (lv_at hl 0 rfl) ?_
    refine lv_iload_n hx hb dX10_worthNow_14 rfl (lv_at hl 1 rfl) ?_
    refine lv_iload_n hx hb dX10_worthNow_15 rfl (lv_at hl 2 rfl) ?_
    obtain ⟨z4, hz4, hf⟩ := bd hf
    refine cl_Vs (rest := []) (kX10_plain (l := l) (Γ := Γ) (A := A) (G := G) (o := o) hk hz4) ⟨hx, hb, hml, hown, htw⟩ hE hw hS (wo_me hw hk) (q0 := 0) rfl rfl mw1564 mw1566 mw70 mw129 mw1567 pdX10_plain ⟨Nat.le_of_ble_eq_true rfl, Nat.le_of_ble_eq_true rfl⟩ rfl rfl hl.1 (Nat.le_of_ble_eq_true rfl) dX10_worthNow_16 (fun H locs hw hS => ?_)
    refine lv_iconst (v := 2) hx hb dX10_worthNow_19 (by decide) ?_
    refine lv_idiv hx hb dX10_worthNow_20 (by decide) ?_
    refine lv_goto (tgt := 30) hx hb dX10_worthNow_21 (by decide) ?_
    obtain rfl := Option.some.inj hf
    subst hq
    exact rt_i C hw hS dX10_worthNow_30

theorem kX10_worthNow {l : Launch} {Γ : Gm} {A : Nat → Prop} {G : Gs} {o : Nat} {r : Rec} {v1 : Int32} {v2 : Int32} {fin : Int32} (hk : kd Γ o = some 10) (hf : fX10_worthNow r v1 v2 = some fin) : Kt l yX10_worthNow cX10_worthNow 3 (some .int) 2 43 Γ A (ug G o r) (ug G o r) [.ref (ad Γ o), .int v1, .int v2] (some (.int fin)) :=
  kt_of (by decide) (Nat.le_of_ble_eq_true rfl) (fun p e s m args below meth c C => wX10_worthNow_e C hk hf rfl)
theorem kgX10_worthNow {l : Launch} {Γ : Gm} {A : Nat → Prop} {G : Gs} {o : Nat} {v1 : Int32} {v2 : Int32} {fin : Int32} (hk : kd Γ o = some 10) (hf : fX10_worthNow (G o) v1 v2 = some fin) : Kt l yX10_worthNow cX10_worthNow 3 (some .int) 2 43 Γ A G G [.ref (ad Γ o), .int v1, .int v2] (some (.int fin)) := by
  have h := kX10_worthNow (l := l) (A := A) (G := G) (r := G o) hk hf
  rw [ug_self] at h
  exact h
noncomputable def fX10_lastsFor (v1 : Int32) (v2 : Int32) : Option Int32 :=
  if v1 = 0 then some (0) else if v2 = 0 then some (60) else gd (nz v2) ((fX10_lesser 60 (((v1 + v2) - 1) / v2)).bind fun z2 => some (z2))
set_option maxRecDepth 100000 in
set_option maxHeartbeats 4000000 in
theorem wX10_lastsFor_e {p : Program} {l : Launch} {e : Env} {s : State} {m : MethodId} {args : Array Value} {below : List Frame} {meth : Method} {c : Code} {Γ : Gm} {A : Nat → Prop} {G : Gs} {o : Nat} {r : Rec} {v1 : Int32} {v2 : Int32} {q : Int32} {fin : Int32} (C : Cx p s m args meth c yX10_lastsFor cX10_lastsFor 3 (some .int) Γ A) (hk : kd Γ o = some 10) (hf : fX10_lastsFor v1 v2 = some q) (hq : (fun x => x = fin) q) : Wk p l e { frames := 1, cells := 0, slots := 0, locals := 21 } s m args below meth c Γ A (ug G o r) (some (.int fin)) 0 3 [(0, .ref (ad Γ o)), (1, .int v1), (2, .int v2)] [] (ug G o r) := by
  intro H locs ls hw hS hl
  unfold fX10_lastsFor at hf
  obtain ⟨hx, hb, hml, hr, hown, htw, hlocks, hE⟩ := id C
  have hown : s.vm.findClass RX10 = some m.cls := hown
  refine lv_iload_n hx hb dX10_lastsFor_0 rfl (lv_at hl 1 rfl) ?_
  refine lv_if_ne (tgt := 8) hx hb dX10_lastsFor_1 (by decide) (fun c4 => ?_) (fun c4 => ?_)
  · have hf := ifn c4 hf
    refine lv_iload_n hx hb dX10_lastsFor_8 rfl (lv_at hl 2 rfl) ?_
    refine lv_if_ne (tgt := 17) hx hb dX10_lastsFor_9 (by decide) (fun c3 => ?_) (fun c3 => ?_)
    · have hf := ifn c3 hf
      refine lv_bipush (v := 60) hx hb dX10_lastsFor_17 (by decide) ?_
      refine lv_iload_n hx hb dX10_lastsFor_19 rfl (lv_at hl 1 rfl) ?_
      refine lv_iload_n hx hb dX10_lastsFor_20 rfl (lv_at hl 2 rfl) ?_
      refine lv_iadd hx hb dX10_lastsFor_21 ?_
      refine lv_iconst (v := 1) hx hb dX10_lastsFor_22 (by decide) ?_
      refine lv_isub hx hb dX10_lastsFor_23 ?_
      refine lv_iload_n hx hb dX10_lastsFor_24 rfl (lv_at hl 2 rfl) ?_
      obtain ⟨g1, hf⟩ := gd_some hf
      refine lv_idiv hx hb dX10_lastsFor_25 (nz_ne g1) ?_
      obtain ⟨z2, hz2, hf⟩ := bd hf
      refine cl_Ss (rest := []) (kX10_lesser (l := l) (Γ := Γ) (A := A) (G := (ug G o r)) hz2) ⟨hx, hb, hml, hown, htw⟩ hE hw hS mw1681 mw1682 mw129 mw1683 pdX10_lesser ⟨Nat.le_of_ble_eq_true rfl, Nat.le_of_ble_eq_true rfl⟩ rfl rfl hl.1 (Nat.le_of_ble_eq_true rfl) dX10_lastsFor_26 (fun H locs hw hS => ?_)
      obtain rfl := Option.some.inj hf
      subst hq
      exact rt_i C hw hS dX10_lastsFor_29
    · have hf := ifp c3 hf
      refine lv_bipush (v := 60) hx hb dX10_lastsFor_12 (by decide) ?_
      refine lv_goto (tgt := 29) hx hb dX10_lastsFor_14 (by decide) ?_
      obtain rfl := Option.some.inj hf
      subst hq
      exact rt_i C hw hS dX10_lastsFor_29
  · have hf := ifp c4 hf
    refine lv_iconst (v := 0) hx hb dX10_lastsFor_4 (by decide) ?_
    refine lv_goto (tgt := 29) hx hb dX10_lastsFor_5 (by decide) ?_
    obtain rfl := Option.some.inj hf
    subst hq
    exact rt_i C hw hS dX10_lastsFor_29

theorem kX10_lastsFor {l : Launch} {Γ : Gm} {A : Nat → Prop} {G : Gs} {o : Nat} {r : Rec} {v1 : Int32} {v2 : Int32} {fin : Int32} (hk : kd Γ o = some 10) (hf : fX10_lastsFor v1 v2 = some fin) : Kt l yX10_lastsFor cX10_lastsFor 3 (some .int) 1 21 Γ A (ug G o r) (ug G o r) [.ref (ad Γ o), .int v1, .int v2] (some (.int fin)) :=
  kt_of (by decide) (Nat.le_of_ble_eq_true rfl) (fun p e s m args below meth c C => wX10_lastsFor_e C hk hf rfl)
theorem kgX10_lastsFor {l : Launch} {Γ : Gm} {A : Nat → Prop} {G : Gs} {o : Nat} {v1 : Int32} {v2 : Int32} {fin : Int32} (hk : kd Γ o = some 10) (hf : fX10_lastsFor v1 v2 = some fin) : Kt l yX10_lastsFor cX10_lastsFor 3 (some .int) 1 21 Γ A G G [.ref (ad Γ o), .int v1, .int v2] (some (.int fin)) := by
  have h := kX10_lastsFor (l := l) (A := A) (G := G) (r := G o) hk hf
  rw [ug_self] at h
  exact h
noncomputable def fX10_wear (r : Rec) (v1 : Int32) : Option Int32 :=
  (fX10_of r (11 + v1)).bind fun z1 => some (z1)
set_option maxRecDepth 100000 in
set_option maxHeartbeats 4000000 in
theorem wX10_wear_e {p : Program} {l : Launch} {e : Env} {s : State} {m : MethodId} {args : Array Value} {below : List Frame} {meth : Method} {c : Code} {Γ : Gm} {A : Nat → Prop} {G : Gs} {o : Nat} {r : Rec} {v1 : Int32} {q : Int32} {fin : Int32} (C : Cx p s m args meth c yX10_wear cX10_wear 2 (some .int) Γ A) (hk : kd Γ o = some 10) (hf : fX10_wear r v1 = some q) (hq : (fun x => x = fin) q) : Wk p l e { frames := 1, cells := 0, slots := 0, locals := 21 } s m args below meth c Γ A (ug G o r) (some (.int fin)) 0 2 [(0, .ref (ad Γ o)), (1, .int v1)] [] (ug G o r) := by
  intro H locs ls hw hS hl
  unfold fX10_wear at hf
  obtain ⟨hx, hb, hml, hr, hown, htw, hlocks, hE⟩ := id C
  have hown : s.vm.findClass RX10 = some m.cls := hown
  refine lv_aload_n hx hb dX10_wear_0 rfl (lv_at hl 0 rfl) ?_
  refine lv_bipush (v := 11) hx hb dX10_wear_1 (by decide) ?_
  refine lv_iload_n hx hb dX10_wear_3 rfl (lv_at hl 1 rfl) ?_
  refine lv_iadd hx hb dX10_wear_4 ?_
  obtain ⟨z1, hz1, hf⟩ := bd hf
  refine cl_Vs (rest := []) (kX10_of (l := l) (Γ := Γ) (A := A) (G := G) (o := o) hk hz1) ⟨hx, hb, hml, hown, htw⟩ hE hw hS (wo_me hw hk) (q0 := 0) rfl rfl mw1541 mw1543 mw66 mw129 mw1544 pdX10_of ⟨Nat.le_of_ble_eq_true rfl, Nat.le_of_ble_eq_true rfl⟩ rfl rfl hl.1 (Nat.le_of_ble_eq_true rfl) dX10_wear_5 (fun H locs hw hS => ?_)
  obtain rfl := Option.some.inj hf
  subst hq
  exact rt_i C hw hS dX10_wear_8

theorem kX10_wear {l : Launch} {Γ : Gm} {A : Nat → Prop} {G : Gs} {o : Nat} {r : Rec} {v1 : Int32} {fin : Int32} (hk : kd Γ o = some 10) (hf : fX10_wear r v1 = some fin) : Kt l yX10_wear cX10_wear 2 (some .int) 1 21 Γ A (ug G o r) (ug G o r) [.ref (ad Γ o), .int v1] (some (.int fin)) :=
  kt_of (by decide) (Nat.le_of_ble_eq_true rfl) (fun p e s m args below meth c C => wX10_wear_e C hk hf rfl)
theorem kgX10_wear {l : Launch} {Γ : Gm} {A : Nat → Prop} {G : Gs} {o : Nat} {v1 : Int32} {fin : Int32} (hk : kd Γ o = some 10) (hf : fX10_wear (G o) v1 = some fin) : Kt l yX10_wear cX10_wear 2 (some .int) 1 21 Γ A G G [.ref (ad Γ o), .int v1] (some (.int fin)) := by
  have h := kX10_wear (l := l) (A := A) (G := G) (r := G o) hk hf
  rw [ug_self] at h
  exact h
noncomputable def bX10_house_95 (r : Rec) (v2 : Int32) (v3 : Int32) : Option (Rec × Int32) :=
  if (gi r 26) ≤ v3 then some ((r, (-1))) else (fX10_of r ((3 + (8 * ((v2 / 10) - 1))) + v3)).bind fun z1 => some ((r, z1))
set_option maxRecDepth 100000 in
set_option maxHeartbeats 4000000 in
theorem wX10_house_95 {p : Program} {l : Launch} {e : Env} {s : State} {m : MethodId} {args : Array Value} {below : List Frame} {meth : Method} {c : Code} {Γ : Gm} {A : Nat → Prop} {G : Gs} {o : Nat} {r : Rec} {v2 : Int32} {v3 : Int32} {q : (Rec × Int32)} {fin : Rec × Int32} (C : Cx p s m args meth c yX10_house cX10_house 4 (some .int) Γ A) (hk : kd Γ o = some 10) (hf : bX10_house_95 r v2 v3 = some q) (hq : (fun x => x = fin) q) : Wk p l e { frames := 3, cells := 0, slots := 0, locals := 66 } s m args below meth c Γ A (ug G o fin.1) (some (.int fin.2)) 95 4 [(0, .ref (ad Γ o)), (2, .int v2), (3, .int v3)] [] (ug G o r) := by
  intro H locs ls hw hS hl
  unfold bX10_house_95 at hf
  obtain ⟨hx, hb, hml, hr, hown, htw, hlocks, hE⟩ := id C
  have hown : s.vm.findClass RX10 = some m.cls := hown
  refine lv_iload_n hx hb dX10_house_95 rfl (lv_at hl 2 rfl) ?_
  refine lv_aload_n hx hb dX10_house_96 rfl (lv_at hl 0 rfl) ?_
  refine va_get (ci := 10) (v := .int (gi r 26)) (C := RX10) (T := TX10) (N := 49) hx hb htw uwX10 hown hE.1 (wo_me hw hk) 0 rfl rfl 26 (by decide) (htw _ mw1269) (fun _ h9 => h9) rfl dX10_house_97 ?_
  refine lv_icmp_ge (tgt := 123) hx hb dX10_house_100 (by decide) (fun c2 => ?_) (fun c2 => ?_)
  · have hf := ifp c2 hf
    refine lv_iconst (v := (-1)) hx hb dX10_house_123 (by decide) ?_
    obtain rfl := Option.some.inj hf
    subst hq
    exact rt_i C hw hS dX10_house_124
  · have hf := ifn c2 hf
    refine lv_aload_n hx hb dX10_house_103 rfl (lv_at hl 0 rfl) ?_
    refine lv_iconst (v := 3) hx hb dX10_house_104 (by decide) ?_
    refine lv_bipush (v := 8) hx hb dX10_house_105 (by decide) ?_
    refine lv_iload_n hx hb dX10_house_107 rfl (lv_at hl 1 rfl) ?_
    refine lv_bipush (v := 10) hx hb dX10_house_108 (by decide) ?_
    refine lv_idiv hx hb dX10_house_110 (by decide) ?_
    refine lv_iconst (v := 1) hx hb dX10_house_111 (by decide) ?_
    refine lv_isub hx hb dX10_house_112 ?_
    refine lv_imul hx hb dX10_house_113 ?_
    refine lv_iadd hx hb dX10_house_114 ?_
    refine lv_iload_n hx hb dX10_house_115 rfl (lv_at hl 2 rfl) ?_
    refine lv_iadd hx hb dX10_house_116 ?_
    obtain ⟨z1, hz1, hf⟩ := bd hf
    refine cl_Vs (rest := []) (kX10_of (l := l) (Γ := Γ) (A := A) (G := G) (o := o) hk hz1) ⟨hx, hb, hml, hown, htw⟩ hE hw hS (wo_me hw hk) (q0 := 0) rfl rfl mw1541 mw1543 mw66 mw129 mw1544 pdX10_of ⟨Nat.le_of_ble_eq_true rfl, Nat.le_of_ble_eq_true rfl⟩ rfl rfl hl.1 (Nat.le_of_ble_eq_true rfl) dX10_house_117 (fun H locs hw hS => ?_)
    refine lv_goto (tgt := 124) hx hb dX10_house_120 (by decide) ?_
    obtain rfl := Option.some.inj hf
    subst hq
    exact rt_i C hw hS dX10_house_124

noncomputable def bX10_house_147 (r : Rec) (v3 : Int32) (s0 : Int32) : Option (Rec × Int32) :=
  (fX10_of r (s0 + v3)).bind fun z3 => some ((r, z3))
set_option maxRecDepth 100000 in
set_option maxHeartbeats 4000000 in
theorem wX10_house_147 {p : Program} {l : Launch} {e : Env} {s : State} {m : MethodId} {args : Array Value} {below : List Frame} {meth : Method} {c : Code} {Γ : Gm} {A : Nat → Prop} {G : Gs} {o : Nat} {r : Rec} {v3 : Int32} {s0 : Int32} {q : (Rec × Int32)} {fin : Rec × Int32} (C : Cx p s m args meth c yX10_house cX10_house 4 (some .int) Γ A) (hk : kd Γ o = some 10) (hf : bX10_house_147 r v3 s0 = some q) (hq : (fun x => x = fin) q) : Wk p l e { frames := 3, cells := 0, slots := 0, locals := 66 } s m args below meth c Γ A (ug G o fin.1) (some (.int fin.2)) 147 4 [(3, .int v3)] [.int s0, .ref (ad Γ o)] (ug G o r) := by
  intro H locs ls hw hS hl
  unfold bX10_house_147 at hf
  obtain ⟨hx, hb, hml, hr, hown, htw, hlocks, hE⟩ := id C
  have hown : s.vm.findClass RX10 = some m.cls := hown
  refine lv_iload_n hx hb dX10_house_147 rfl (lv_at hl 0 rfl) ?_
  refine lv_iadd hx hb dX10_house_148 ?_
  obtain ⟨z3, hz3, hf⟩ := bd hf
  refine cl_Vs (rest := []) (kX10_of (l := l) (Γ := Γ) (A := A) (G := G) (o := o) hk hz3) ⟨hx, hb, hml, hown, htw⟩ hE hw hS (wo_me hw hk) (q0 := 0) rfl rfl mw1541 mw1543 mw66 mw129 mw1544 pdX10_of ⟨Nat.le_of_ble_eq_true rfl, Nat.le_of_ble_eq_true rfl⟩ rfl rfl hl.1 (Nat.le_of_ble_eq_true rfl) dX10_house_149 (fun H locs hw hS => ?_)
  refine lv_goto (tgt := 156) hx hb dX10_house_152 (by decide) ?_
  obtain rfl := Option.some.inj hf
  subst hq
  exact rt_i C hw hS dX10_house_156

noncomputable def bX10_house_125 (r : Rec) (v2 : Int32) (v3 : Int32) : Option (Rec × Int32) :=
  if (gi r 27) ≤ v3 then some ((r, (-1))) else if 50 ≤ v2 then bX10_house_147 r v3 37 else bX10_house_147 r v3 27
set_option maxRecDepth 100000 in
set_option maxHeartbeats 4000000 in
theorem wX10_house_125 {p : Program} {l : Launch} {e : Env} {s : State} {m : MethodId} {args : Array Value} {below : List Frame} {meth : Method} {c : Code} {Γ : Gm} {A : Nat → Prop} {G : Gs} {o : Nat} {r : Rec} {v2 : Int32} {v3 : Int32} {q : (Rec × Int32)} {fin : Rec × Int32} (C : Cx p s m args meth c yX10_house cX10_house 4 (some .int) Γ A) (hk : kd Γ o = some 10) (hf : bX10_house_125 r v2 v3 = some q) (hq : (fun x => x = fin) q) : Wk p l e { frames := 3, cells := 0, slots := 0, locals := 66 } s m args below meth c Γ A (ug G o fin.1) (some (.int fin.2)) 125 4 [(0, .ref (ad Γ o)), (2, .int v2), (3, .int v3)] [] (ug G o r) := by
  intro H locs ls hw hS hl
  unfold bX10_house_125 at hf
  obtain ⟨hx, hb, hml, hr, hown, htw, hlocks, hE⟩ := id C
  have hown : s.vm.findClass RX10 = some m.cls := hown
  refine lv_iload_n hx hb dX10_house_125 rfl (lv_at hl 2 rfl) ?_
  refine lv_aload_n hx hb dX10_house_126 rfl (lv_at hl 0 rfl) ?_
  refine va_get (ci := 10) (v := .int (gi r 27)) (C := RX10) (T := TX10) (N := 49) hx hb htw uwX10 hown hE.1 (wo_me hw hk) 0 rfl rfl 27 (by decide) (htw _ mw1270) (fun _ h9 => h9) rfl dX10_house_127 ?_
  refine lv_icmp_ge (tgt := 155) hx hb dX10_house_130 (by decide) (fun c5 => ?_) (fun c5 => ?_)
  · have hf := ifp c5 hf
    refine lv_iconst (v := (-1)) hx hb dX10_house_155 (by decide) ?_
    obtain rfl := Option.some.inj hf
    subst hq
    exact rt_i C hw hS dX10_house_156
  · have hf := ifn c5 hf
    refine lv_aload_n hx hb dX10_house_133 rfl (lv_at hl 0 rfl) ?_
    refine lv_iload_n hx hb dX10_house_134 rfl (lv_at hl 1 rfl) ?_
    refine lv_bipush (v := 50) hx hb dX10_house_135 (by decide) ?_
    refine lv_icmp_ge (tgt := 145) hx hb dX10_house_137 (by decide) (fun c4 => ?_) (fun c4 => ?_)
    · have hf := ifp c4 hf
      refine lv_bipush (v := 37) hx hb dX10_house_145 (by decide) ?_
      exact wX10_house_147 C hk hf hq H locs ls hw hS (lv_sub hl [2] rfl)
    · have hf := ifn c4 hf
      refine lv_bipush (v := 27) hx hb dX10_house_140 (by decide) ?_
      refine lv_goto (tgt := 147) hx hb dX10_house_142 (by decide) ?_
      exact wX10_house_147 C hk hf hq H locs ls hw hS (lv_sub hl [2] rfl)

noncomputable def bX10_house_157 (r : Rec) (v2 : Int32) (v3 : Int32) : Option (Rec × Int32) :=
  (fX10_of r 2).bind fun z6 => if z6 ≤ v3 then some ((r, (-1))) else (fX10_of r ((47 + (8 * ((v2 / 10) - 6))) + v3)).bind fun z7 => some ((r, z7))
set_option maxRecDepth 100000 in
set_option maxHeartbeats 4000000 in
theorem wX10_house_157 {p : Program} {l : Launch} {e : Env} {s : State} {m : MethodId} {args : Array Value} {below : List Frame} {meth : Method} {c : Code} {Γ : Gm} {A : Nat → Prop} {G : Gs} {o : Nat} {r : Rec} {v2 : Int32} {v3 : Int32} {q : (Rec × Int32)} {fin : Rec × Int32} (C : Cx p s m args meth c yX10_house cX10_house 4 (some .int) Γ A) (hk : kd Γ o = some 10) (hf : bX10_house_157 r v2 v3 = some q) (hq : (fun x => x = fin) q) : Wk p l e { frames := 3, cells := 0, slots := 0, locals := 66 } s m args below meth c Γ A (ug G o fin.1) (some (.int fin.2)) 157 4 [(0, .ref (ad Γ o)), (2, .int v2), (3, .int v3)] [] (ug G o r) := by
  intro H locs ls hw hS hl
  unfold bX10_house_157 at hf
  obtain ⟨hx, hb, hml, hr, hown, htw, hlocks, hE⟩ := id C
  have hown : s.vm.findClass RX10 = some m.cls := hown
  refine lv_iload_n hx hb dX10_house_157 rfl (lv_at hl 2 rfl) ?_
  refine lv_aload_n hx hb dX10_house_158 rfl (lv_at hl 0 rfl) ?_
  refine lv_iconst (v := 2) hx hb dX10_house_159 (by decide) ?_
  obtain ⟨z6, hz6, hf⟩ := bd hf
  refine cl_Vs (rest := [.int v3]) (kX10_of (l := l) (Γ := Γ) (A := A) (G := G) (o := o) hk hz6) ⟨hx, hb, hml, hown, htw⟩ hE hw hS (wo_me hw hk) (q0 := 0) rfl rfl mw1541 mw1543 mw66 mw129 mw1544 pdX10_of ⟨Nat.le_of_ble_eq_true rfl, Nat.le_of_ble_eq_true rfl⟩ rfl rfl hl.1 (Nat.le_of_ble_eq_true rfl) dX10_house_160 (fun H locs hw hS => ?_)
  refine lv_icmp_ge (tgt := 188) hx hb dX10_house_163 (by decide) (fun c8 => ?_) (fun c8 => ?_)
  · have hf := ifp c8 hf
    refine lv_iconst (v := (-1)) hx hb dX10_house_188 (by decide) ?_
    obtain rfl := Option.some.inj hf
    subst hq
    exact rt_i C hw hS dX10_house_189
  · have hf := ifn c8 hf
    refine lv_aload_n hx hb dX10_house_166 rfl (lv_at hl 0 rfl) ?_
    refine lv_bipush (v := 47) hx hb dX10_house_167 (by decide) ?_
    refine lv_bipush (v := 8) hx hb dX10_house_169 (by decide) ?_
    refine lv_iload_n hx hb dX10_house_171 rfl (lv_at hl 1 rfl) ?_
    refine lv_bipush (v := 10) hx hb dX10_house_172 (by decide) ?_
    refine lv_idiv hx hb dX10_house_174 (by decide) ?_
    refine lv_bipush (v := 6) hx hb dX10_house_175 (by decide) ?_
    refine lv_isub hx hb dX10_house_177 ?_
    refine lv_imul hx hb dX10_house_178 ?_
    refine lv_iadd hx hb dX10_house_179 ?_
    refine lv_iload_n hx hb dX10_house_180 rfl (lv_at hl 2 rfl) ?_
    refine lv_iadd hx hb dX10_house_181 ?_
    obtain ⟨z7, hz7, hf⟩ := bd hf
    refine cl_Vs (rest := []) (kX10_of (l := l) (Γ := Γ) (A := A) (G := G) (o := o) hk hz7) ⟨hx, hb, hml, hown, htw⟩ hE hw hS (wo_me hw hk) (q0 := 0) rfl rfl mw1541 mw1543 mw66 mw129 mw1544 pdX10_of ⟨Nat.le_of_ble_eq_true rfl, Nat.le_of_ble_eq_true rfl⟩ rfl rfl hl.1 (Nat.le_of_ble_eq_true rfl) dX10_house_182 (fun H locs hw hS => ?_)
    refine lv_goto (tgt := 189) hx hb dX10_house_185 (by decide) ?_
    obtain rfl := Option.some.inj hf
    subst hq
    exact rt_i C hw hS dX10_house_189

noncomputable def fX10_house (r : Rec) (v1 : Int32) (v2 : Int32) : Option (Rec × Int32) :=
  (some (si r 0 0)).bind fun r9 => (fX10_hand r9 v1).bind fun z10 => if z10.2 = 0 then some ((z10.1, (-1))) else if (v2 / 10) = 0 then (fX10_in v2 0 2).bind fun z11 => if z11 = 0 then some ((z10.1, (-1))) else (fX10_of z10.1 v2).bind fun z12 => some ((z10.1, z12)) else if (v2 / 10) = 1 then bX10_house_95 z10.1 v2 (v2 - v2 / 10 * 10) else if (v2 / 10) = 2 then bX10_house_95 z10.1 v2 (v2 - v2 / 10 * 10) else if (v2 / 10) = 3 then bX10_house_95 z10.1 v2 (v2 - v2 / 10 * 10) else if (v2 / 10) = 4 then bX10_house_125 z10.1 v2 (v2 - v2 / 10 * 10) else if (v2 / 10) = 5 then bX10_house_125 z10.1 v2 (v2 - v2 / 10 * 10) else if (v2 / 10) = 6 then bX10_house_157 z10.1 v2 (v2 - v2 / 10 * 10) else if (v2 / 10) = 7 then bX10_house_157 z10.1 v2 (v2 - v2 / 10 * 10) else if (v2 / 10) = 8 then bX10_house_157 z10.1 v2 (v2 - v2 / 10 * 10) else some ((z10.1, (-1)))
set_option maxRecDepth 100000 in
set_option maxHeartbeats 4000000 in
theorem wX10_house_e {p : Program} {l : Launch} {e : Env} {s : State} {m : MethodId} {args : Array Value} {below : List Frame} {meth : Method} {c : Code} {Γ : Gm} {A : Nat → Prop} {G : Gs} {o : Nat} {r : Rec} {v1 : Int32} {v2 : Int32} {q : (Rec × Int32)} {fin : Rec × Int32} (C : Cx p s m args meth c yX10_house cX10_house 4 (some .int) Γ A) (hk : kd Γ o = some 10) (hf : fX10_house r v1 v2 = some q) (hq : (fun x => x = fin) q) : Wk p l e { frames := 3, cells := 0, slots := 0, locals := 66 } s m args below meth c Γ A (ug G o fin.1) (some (.int fin.2)) 0 4 [(0, .ref (ad Γ o)), (1, .int v1), (2, .int v2)] [] (ug G o r) := by
  intro H locs ls hw hS hl
  unfold fX10_house at hf
  obtain ⟨hx, hb, hml, hr, hown, htw, hlocks, hE⟩ := id C
  have hown : s.vm.findClass RX10 = some m.cls := hown
  refine lv_aload_n hx hb dX10_house_0 rfl (lv_at hl 0 rfl) ?_
  refine lv_iconst (v := 0) hx hb dX10_house_1 (by decide) ?_
  obtain ⟨r9, hr9, hf⟩ := bd hf
  have hr9 := Option.some.inj hr9
  refine wo_put (C := RX10) (T := TX10) (N := 49) (v := .int 0) (ty := .int) hx hb htw uwX10 tyX10 tyX10_ok nmX10 hown hE hw hS hk rfl rfl 0 (by decide) (htw _ mw1243) (fun _ h9 => h9) rfl (tyX10_ok 0 (by decide)) rfl rfl (Nat.le_of_ble_eq_true rfl) (st10_0 hr9) dX10_house_2 (fun H locs hw hS => ?_)
  refine lv_aload_n hx hb dX10_house_5 rfl (lv_at hl 0 rfl) ?_
  refine lv_iload_n hx hb dX10_house_6 rfl (lv_at hl 1 rfl) ?_
  obtain ⟨z10, hz10, hf⟩ := bd hf
  refine cl_Vs (rest := []) (kX10_hand (l := l) (Γ := Γ) (A := A) (G := G) (o := o) hk hz10) ⟨hx, hb, hml, hown, htw⟩ hE hw hS (wo_me hw hk) (q0 := 0) rfl rfl mw1537 mw1539 mw65 mw129 mw1540 pdX10_hand ⟨Nat.le_of_ble_eq_true rfl, Nat.le_of_ble_eq_true rfl⟩ rfl rfl hl.1 (Nat.le_of_ble_eq_true rfl) dX10_house_7 (fun H locs hw hS => ?_)
  refine lv_if_ne (tgt := 15) hx hb dX10_house_10 (by decide) (fun c23 => ?_) (fun c23 => ?_)
  · have hf := ifn c23 hf
    refine lv_iload_n hx hb dX10_house_15 rfl (lv_at hl 2 rfl) ?_
    refine lv_bipush (v := 10) hx hb dX10_house_16 (by decide) ?_
    refine lv_irem hx hb dX10_house_18 (by decide) ?_
    refine lv_istore_n (lv' := [(3, .int (v2 - v2 / 10 * 10)), (0, .ref (ad Γ o)), (1, .int v1), (2, .int v2)]) hx hb dX10_house_19 rfl hl (by decide) rfl (fun ls hl => ?_)
    refine lv_iload_n hx hb dX10_house_20 rfl (lv_at hl 3 rfl) ?_
    refine lv_bipush (v := 10) hx hb dX10_house_21 (by decide) ?_
    refine lv_idiv hx hb dX10_house_23 (by decide) ?_
    by_cases c14 : (v2 / 10) = 0
    · have hf := ifp c14 hf
      rw [c14]
      refine lv_tableIn (off := 52) (tgt := 76) hx hb dX10_house_24 (by decide) (by decide) (by rfl) (by decide) ?_
      refine lv_iload_n hx hb dX10_house_76 rfl (lv_at hl 3 rfl) ?_
      refine lv_iconst (v := 0) hx hb dX10_house_77 (by decide) ?_
      refine lv_iconst (v := 2) hx hb dX10_house_78 (by decide) ?_
      obtain ⟨z11, hz11, hf⟩ := bd hf
      refine cl_Ss (rest := []) (kX10_in (l := l) (Γ := Γ) (A := A) (G := (ug G o z10.1)) hz11) ⟨hx, hb, hml, hown, htw⟩ hE hw hS mw1404 mw1405 mw129 mw1406 pdX10_in ⟨Nat.le_of_ble_eq_true rfl, Nat.le_of_ble_eq_true rfl⟩ rfl rfl hl.1 (Nat.le_of_ble_eq_true rfl) dX10_house_79 (fun H locs hw hS => ?_)
      refine lv_if_eq (tgt := 93) hx hb dX10_house_82 (by decide) (fun c13 => ?_) (fun c13 => ?_)
      · have hf := ifp c13 hf
        refine lv_iconst (v := (-1)) hx hb dX10_house_93 (by decide) ?_
        obtain rfl := Option.some.inj hf
        subst hq
        exact rt_i C hw hS dX10_house_94
      · have hf := ifn c13 hf
        refine lv_aload_n hx hb dX10_house_85 rfl (lv_at hl 1 rfl) ?_
        refine lv_iload_n hx hb dX10_house_86 rfl (lv_at hl 3 rfl) ?_
        obtain ⟨z12, hz12, hf⟩ := bd hf
        refine cl_Vs (rest := []) (kX10_of (l := l) (Γ := Γ) (A := A) (G := G) (o := o) hk hz12) ⟨hx, hb, hml, hown, htw⟩ hE hw hS (wo_me hw hk) (q0 := 0) rfl rfl mw1541 mw1543 mw66 mw129 mw1544 pdX10_of ⟨Nat.le_of_ble_eq_true rfl, Nat.le_of_ble_eq_true rfl⟩ rfl rfl hl.1 (Nat.le_of_ble_eq_true rfl) dX10_house_87 (fun H locs hw hS => ?_)
        refine lv_goto (tgt := 94) hx hb dX10_house_90 (by decide) ?_
        obtain rfl := Option.some.inj hf
        subst hq
        exact rt_i C hw hS dX10_house_94
    have hf := ifn c14 hf
    by_cases c15 : (v2 / 10) = 1
    · have hf := ifp c15 hf
      rw [c15]
      refine lv_tableIn (off := 71) (tgt := 95) hx hb dX10_house_24 (by decide) (by decide) (by rfl) (by decide) ?_
      exact wX10_house_95 C hk hf hq H locs ls hw hS (lv_sub hl [1, 3, 0] rfl)
    have hf := ifn c15 hf
    by_cases c16 : (v2 / 10) = 2
    · have hf := ifp c16 hf
      rw [c16]
      refine lv_tableIn (off := 71) (tgt := 95) hx hb dX10_house_24 (by decide) (by decide) (by rfl) (by decide) ?_
      exact wX10_house_95 C hk hf hq H locs ls hw hS (lv_sub hl [1, 3, 0] rfl)
    have hf := ifn c16 hf
    by_cases c17 : (v2 / 10) = 3
    · have hf := ifp c17 hf
      rw [c17]
      refine lv_tableIn (off := 71) (tgt := 95) hx hb dX10_house_24 (by decide) (by decide) (by rfl) (by decide) ?_
      exact wX10_house_95 C hk hf hq H locs ls hw hS (lv_sub hl [1, 3, 0] rfl)
    have hf := ifn c17 hf
    by_cases c18 : (v2 / 10) = 4
    · have hf := ifp c18 hf
      rw [c18]
      refine lv_tableIn (off := 101) (tgt := 125) hx hb dX10_house_24 (by decide) (by decide) (by rfl) (by decide) ?_
      exact wX10_house_125 C hk hf hq H locs ls hw hS (lv_sub hl [1, 3, 0] rfl)
    have hf := ifn c18 hf
    by_cases c19 : (v2 / 10) = 5
    · have hf := ifp c19 hf
      rw [c19]
      refine lv_tableIn (off := 101) (tgt := 125) hx hb dX10_house_24 (by decide) (by decide) (by rfl) (by decide) ?_
      exact wX10_house_125 C hk hf hq H locs ls hw hS (lv_sub hl [1, 3, 0] rfl)
    have hf := ifn c19 hf
    by_cases c20 : (v2 / 10) = 6
    · have hf := ifp c20 hf
      rw [c20]
      refine lv_tableIn (off := 133) (tgt := 157) hx hb dX10_house_24 (by decide) (by decide) (by rfl) (by decide) ?_
      exact wX10_house_157 C hk hf hq H locs ls hw hS (lv_sub hl [1, 3, 0] rfl)
    have hf := ifn c20 hf
    by_cases c21 : (v2 / 10) = 7
    · have hf := ifp c21 hf
      rw [c21]
      refine lv_tableIn (off := 133) (tgt := 157) hx hb dX10_house_24 (by decide) (by decide) (by rfl) (by decide) ?_
      exact wX10_house_157 C hk hf hq H locs ls hw hS (lv_sub hl [1, 3, 0] rfl)
    have hf := ifn c21 hf
    by_cases c22 : (v2 / 10) = 8
    · have hf := ifp c22 hf
      rw [c22]
      refine lv_tableIn (off := 133) (tgt := 157) hx hb dX10_house_24 (by decide) (by decide) (by rfl) (by decide) ?_
      exact wX10_house_157 C hk hf hq H locs ls hw hS (lv_sub hl [1, 3, 0] rfl)
    have hf := ifn c22 hf
    refine lv_tableOut (tgt := 190) hx hb dX10_house_24 (by have := And.intro (ts_ne (k := 0) (by decide) c14) (And.intro (ts_ne (k := 1) (by decide) c15) (And.intro (ts_ne (k := 2) (by decide) c16) (And.intro (ts_ne (k := 3) (by decide) c17) (And.intro (ts_ne (k := 4) (by decide) c18) (And.intro (ts_ne (k := 5) (by decide) c19) (And.intro (ts_ne (k := 6) (by decide) c20) (And.intro (ts_ne (k := 7) (by decide) c21) (And.intro (ts_ne (k := 8) (by decide) c22) (True.intro))))))))); omega) (by decide) ?_
    refine lv_iconst (v := (-1)) hx hb dX10_house_190 (by decide) ?_
    obtain rfl := Option.some.inj hf
    subst hq
    exact rt_i C hw hS dX10_house_191
  · have hf := ifp c23 hf
    refine lv_iconst (v := (-1)) hx hb dX10_house_13 (by decide) ?_
    obtain rfl := Option.some.inj hf
    subst hq
    exact rt_i C hw hS dX10_house_14

theorem kX10_house {l : Launch} {Γ : Gm} {A : Nat → Prop} {G : Gs} {o : Nat} {r : Rec} {v1 : Int32} {v2 : Int32} {fin : Rec × Int32} (hk : kd Γ o = some 10) (hf : fX10_house r v1 v2 = some fin) : Kt l yX10_house cX10_house 4 (some .int) 3 66 Γ A (ug G o r) (ug G o fin.1) [.ref (ad Γ o), .int v1, .int v2] (some (.int fin.2)) :=
  kt_of (by decide) (Nat.le_of_ble_eq_true rfl) (fun p e s m args below meth c C => wX10_house_e C hk hf rfl)
theorem kgX10_house {l : Launch} {Γ : Gm} {A : Nat → Prop} {G : Gs} {o : Nat} {v1 : Int32} {v2 : Int32} {fin : Rec × Int32} (hk : kd Γ o = some 10) (hf : fX10_house (G o) v1 v2 = some fin) : Kt l yX10_house cX10_house 4 (some .int) 3 66 Γ A G (ug G o fin.1) [.ref (ad Γ o), .int v1, .int v2] (some (.int fin.2)) := by
  have h := kX10_house (l := l) (A := A) (G := G) (r := G o) hk hf
  rw [ug_self] at h
  exact h
