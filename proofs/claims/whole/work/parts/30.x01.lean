noncomputable def bX0_follow_80 (g : Gs) (v2 : Nat) (v3 : Int32) : Option (Gs × Int32) :=
  (some (gi (g v2) 2)).bind fun x1 => (some (mni v3 x1)).bind fun x2 => some ((g, x2))
set_option maxRecDepth 100000 in
set_option maxHeartbeats 4000000 in
theorem wX0_follow_80 {p : Program} {l : Launch} {e : Env} {s : State} {m : MethodId} {args : Array Value} {below : List Frame} {meth : Method} {c : Code} {Γ : Gm} {A : Nat → Prop} {g : Gs} {v2 : Nat} {v3 : Int32} {q : (Gs × Int32)} {fin : Gs × Int32} (C : Cx p s m args meth c yX0_follow cX0_follow 5 (some .int) Γ A) (hv2 : kd Γ v2 = some 5) (hf : bX0_follow_80 g v2 v3 = some q) (hq : (fun x => x = fin) q) : Wk p l e { frames := 4, cells := 0, slots := 0, locals := 92 } s m args below meth c Γ A fin.1 (some (.int fin.2)) 80 5 [(2, .ref (ad Γ v2)), (3, .int v3)] [] g := by
  intro H locs ls hw hS hl
  unfold bX0_follow_80 at hf
  obtain ⟨hx, hb, hml, hr, hown, htw, hlocks, hE⟩ := id C
  have hown : s.vm.findClass RX0 = some m.cls := hown
  refine lv_iload_n hx hb dX0_follow_80 rfl (lv_at hl 1 rfl) ?_
  refine lv_aload_n hx hb dX0_follow_81 rfl (lv_at hl 0 rfl) ?_
  refine va_get (ci := 5) (v := .int (gi (g v2) 2)) (C := RX5) (T := TX5) (N := 3) hx hb htw uwX5 hown hE.1 (hw _ _ hv2) 0 rfl rfl 2 (by decide) (htw _ mw232) (fun _ h9 => h9) rfl dX0_follow_82 ?_
  obtain ⟨x1, hx1, hf⟩ := bd hf
  have hx1 := Option.some.inj hx1
  refine tp1i hx1 ?_
  refine va_mmin hx hb (hml.trans hl.1.symm) hown (htw _ mw807) (htw _ mw222) (htw _ mw122) (htw _ mw223) (Nat.le_of_ble_eq_true rfl) (Nat.le_of_ble_eq_true rfl) (Nat.le_refl _) (Nat.le_refl _) dX0_follow_85 ?_
  obtain ⟨x2, hx2, hf⟩ := bd hf
  have hx2 := Option.some.inj hx2
  refine tp1i hx2 ?_
  obtain rfl := Option.some.inj hf
  subst hq
  exact rt_i C hw hS dX0_follow_88

noncomputable def bX0_follow_13 (g : Gs) (v2 : Nat) (v3 : Int32) (v4 : Int32) : Option ((Int32 × Gs) ⊕ (Gs × Int32)) :=
  if v3 ≤ v4 then out1 (bX0_follow_80 g v2 v3) else if (gi (g v2) 2) ≤ v4 then out1 (bX0_follow_80 g v2 v3) else (fX5_cell (g v2) v4 0).bind fun z5 => (fX5_cell (g v2) v4 1).bind fun z6 => (fX5_cell (g v2) v4 2).bind fun z7 => (fX5_cell (g v2) v4 3).bind fun z8 => (fX0_perform g z5 z6 z7 z8).bind fun z9 => if z9.2 = 0 then some (.inr ((z9.1, v4))) else (fX0_remember z9.1 (v4 + 1)).bind fun z10 => some (.inl (v4 + 1, z10))
set_option maxRecDepth 100000 in
set_option maxHeartbeats 4000000 in
theorem wX0_follow_13 {p : Program} {l : Launch} {e : Env} {s : State} {m : MethodId} {args : Array Value} {below : List Frame} {meth : Method} {c : Code} {Γ : Gm} {A : Nat → Prop} {g : Gs} {v2 : Nat} {v3 : Int32} {v4 : Int32} {q : ((Int32 × Gs) ⊕ (Gs × Int32))} {fin : Gs × Int32} (C : Cx p s m args meth c yX0_follow cX0_follow 5 (some .int) Γ A) (hv2 : kd Γ v2 = some 5) (hf : bX0_follow_13 g v2 v3 v4 = some q) (hq : (KC (fun st : Int32 × Gs => Wk p l e { frames := 4, cells := 0, slots := 0, locals := 92 } s m args below meth c Γ A fin.1 (some (.int fin.2)) 13 5 [(0, .ref (ad Γ 1)), (2, .ref (ad Γ v2)), (3, .int v3), (4, .int st.1)] [] st.2) (fun x => x = fin)) q) : Wk p l e { frames := 4, cells := 0, slots := 0, locals := 92 } s m args below meth c Γ A fin.1 (some (.int fin.2)) 13 5 [(0, .ref (ad Γ 1)), (2, .ref (ad Γ v2)), (3, .int v3), (4, .int v4)] [] g := by
  intro H locs ls hw hS hl
  unfold bX0_follow_13 at hf
  obtain ⟨hx, hb, hml, hr, hown, htw, hlocks, hE⟩ := id C
  have hown : s.vm.findClass RX0 = some m.cls := hown
  refine lv_iload hx hb dX0_follow_13 (lv_at hl 3 rfl) ?_
  refine lv_iload_n hx hb dX0_follow_15 rfl (lv_at hl 2 rfl) ?_
  refine lv_icmp_ge (tgt := 80) hx hb dX0_follow_16 (by decide) (fun c13 => ?_) (fun c13 => ?_)
  · have hf := ifp c13 hf
    obtain ⟨q3, hfq3, eq3⟩ := out1_some hf
    subst eq3
    have hf := hfq3
    have hq := hq.2 _ rfl
    exact wX0_follow_80 C hv2 hf hq H locs ls hw hS (lv_sub hl [1, 2] rfl)
  · have hf := ifn c13 hf
    refine lv_iload hx hb dX0_follow_19 (lv_at hl 3 rfl) ?_
    refine lv_aload_n hx hb dX0_follow_21 rfl (lv_at hl 1 rfl) ?_
    refine va_get (ci := 5) (v := .int (gi (g v2) 2)) (C := RX5) (T := TX5) (N := 3) hx hb htw uwX5 hown hE.1 (hw _ _ hv2) 0 rfl rfl 2 (by decide) (htw _ mw232) (fun _ h9 => h9) rfl dX0_follow_22 ?_
    refine lv_icmp_ge (tgt := 80) hx hb dX0_follow_25 (by decide) (fun c12 => ?_) (fun c12 => ?_)
    · have hf := ifp c12 hf
      obtain ⟨q4, hfq4, eq4⟩ := out1_some hf
      subst eq4
      have hf := hfq4
      have hq := hq.2 _ rfl
      exact wX0_follow_80 C hv2 hf hq H locs ls hw hS (lv_sub hl [1, 2] rfl)
    · have hf := ifn c12 hf
      refine lv_aload_n hx hb dX0_follow_28 rfl (lv_at hl 0 rfl) ?_
      refine lv_aload_n hx hb dX0_follow_29 rfl (lv_at hl 1 rfl) ?_
      refine lv_iload hx hb dX0_follow_30 (lv_at hl 3 rfl) ?_
      refine lv_iconst (v := 0) hx hb dX0_follow_32 (by decide) ?_
      obtain ⟨z5, hz5, hf⟩ := bd hf
      refine cl_Vs (rest := [.ref (ad Γ 1)]) (kgX5_cell (l := l) (Γ := Γ) (A := A) (G := g) (o := v2) hv2 hz5) ⟨hx, hb, hml, hown, htw⟩ hE hw hS (hw _ _ hv2) (q0 := 0) rfl rfl mw762 mw731 mw732 mw121 mw733 pdX5_cell ⟨Nat.le_of_ble_eq_true rfl, Nat.le_of_ble_eq_true rfl⟩ rfl rfl hl.1 (Nat.le_of_ble_eq_true rfl) dX0_follow_33 (fun H locs hw hS => ?_)
      refine lv_aload_n hx hb dX0_follow_36 rfl (lv_at hl 1 rfl) ?_
      refine lv_iload hx hb dX0_follow_37 (lv_at hl 3 rfl) ?_
      refine lv_iconst (v := 1) hx hb dX0_follow_39 (by decide) ?_
      obtain ⟨z6, hz6, hf⟩ := bd hf
      refine cl_Vs (rest := [.int z5, .ref (ad Γ 1)]) (kgX5_cell (l := l) (Γ := Γ) (A := A) (G := g) (o := v2) hv2 hz6) ⟨hx, hb, hml, hown, htw⟩ hE hw hS (hw _ _ hv2) (q0 := 0) rfl rfl mw762 mw731 mw732 mw121 mw733 pdX5_cell ⟨Nat.le_of_ble_eq_true rfl, Nat.le_of_ble_eq_true rfl⟩ rfl rfl hl.1 (Nat.le_of_ble_eq_true rfl) dX0_follow_40 (fun H locs hw hS => ?_)
      refine lv_aload_n hx hb dX0_follow_43 rfl (lv_at hl 1 rfl) ?_
      refine lv_iload hx hb dX0_follow_44 (lv_at hl 3 rfl) ?_
      refine lv_iconst (v := 2) hx hb dX0_follow_46 (by decide) ?_
      obtain ⟨z7, hz7, hf⟩ := bd hf
      refine cl_Vs (rest := [.int z6, .int z5, .ref (ad Γ 1)]) (kgX5_cell (l := l) (Γ := Γ) (A := A) (G := g) (o := v2) hv2 hz7) ⟨hx, hb, hml, hown, htw⟩ hE hw hS (hw _ _ hv2) (q0 := 0) rfl rfl mw762 mw731 mw732 mw121 mw733 pdX5_cell ⟨Nat.le_of_ble_eq_true rfl, Nat.le_of_ble_eq_true rfl⟩ rfl rfl hl.1 (Nat.le_of_ble_eq_true rfl) dX0_follow_47 (fun H locs hw hS => ?_)
      refine lv_aload_n hx hb dX0_follow_50 rfl (lv_at hl 1 rfl) ?_
      refine lv_iload hx hb dX0_follow_51 (lv_at hl 3 rfl) ?_
      refine lv_iconst (v := 3) hx hb dX0_follow_53 (by decide) ?_
      obtain ⟨z8, hz8, hf⟩ := bd hf
      refine cl_Vs (rest := [.int z7, .int z6, .int z5, .ref (ad Γ 1)]) (kgX5_cell (l := l) (Γ := Γ) (A := A) (G := g) (o := v2) hv2 hz8) ⟨hx, hb, hml, hown, htw⟩ hE hw hS (hw _ _ hv2) (q0 := 0) rfl rfl mw762 mw731 mw732 mw121 mw733 pdX5_cell ⟨Nat.le_of_ble_eq_true rfl, Nat.le_of_ble_eq_true rfl⟩ rfl rfl hl.1 (Nat.le_of_ble_eq_true rfl) dX0_follow_54 (fun H locs hw hS => ?_)
      obtain ⟨z9, hz9, hf⟩ := bd hf
      refine cl_Vs (rest := []) (kX0_perform (l := l) (Γ := Γ) (A := A) hz9) ⟨hx, hb, hml, hown, htw⟩ hE hw hS (hw _ _ (wf_1 hE)) (q0 := 0) rfl rfl mw763 mw765 mw21 mw124 mw766 pdX0_perform ⟨Nat.le_of_ble_eq_true rfl, Nat.le_of_ble_eq_true rfl⟩ rfl rfl hl.1 (Nat.le_of_ble_eq_true rfl) dX0_follow_57 (fun H locs hw hS => ?_)
      refine lv_if_ne (tgt := 66) hx hb dX0_follow_60 (by decide) (fun c11 => ?_) (fun c11 => ?_)
      · have hf := ifn c11 hf
        refine lv_aload_n hx hb dX0_follow_66 rfl (lv_at hl 0 rfl) ?_
        refine lv_iload hx hb dX0_follow_67 (lv_at hl 3 rfl) ?_
        refine lv_iconst (v := 1) hx hb dX0_follow_69 (by decide) ?_
        refine lv_iadd hx hb dX0_follow_70 ?_
        obtain ⟨z10, hz10, hf⟩ := bd hf
        refine cl_Vv (rest := []) (kX0_remember (l := l) (Γ := Γ) (A := A) hz10) ⟨hx, hb, hml, hown, htw⟩ hE hw hS (hw _ _ (wf_1 hE)) (q0 := 0) rfl rfl mw749 mw751 mw18 mw124 mw752 pdX0_remember ⟨Nat.le_of_ble_eq_true rfl, Nat.le_of_ble_eq_true rfl⟩ rfl rfl hl.1 (Nat.le_of_ble_eq_true rfl) dX0_follow_71 (fun H locs hw hS => ?_)
        refine lv_iinc (v := v4 + 1) (lv' := [(4, .int (v4 + 1)), (0, .ref (ad Γ 1)), (2, .ref (ad Γ v2)), (3, .int v3)]) hx hb dX0_follow_74 hl (k := 3) rfl (by rfl) (by decide) rfl (fun ls hl => ?_)
        refine lv_goto (tgt := 13) hx hb dX0_follow_77 (by decide) ?_
        obtain rfl := Option.some.inj hf
        exact hq.1 _ rfl H locs ls hw hS (lv_sub hl [1, 2, 3, 0] rfl)
      · have hf := ifp c11 hf
        refine lv_iload hx hb dX0_follow_63 (lv_at hl 3 rfl) ?_
        obtain rfl := Option.some.inj hf
        have hq := hq.2 _ rfl
        subst hq
        exact rt_i C hw hS dX0_follow_65

set_option maxRecDepth 100000 in
set_option maxHeartbeats 4000000 in
theorem lwX0_follow_13 {p : Program} {l : Launch} {e : Env} {s : State} {m : MethodId} {args : Array Value} {below : List Frame} {meth : Method} {c : Code} {Γ : Gm} {A : Nat → Prop} {g : Gs} {v2 : Nat} {v3 : Int32} {v4 : Int32} {q : (Gs × Int32)} {fin : Gs × Int32} (C : Cx p s m args meth c yX0_follow cX0_follow 5 (some .int) Γ A) (hv2 : kd Γ v2 = some 5) (hf : iter (fun st : Int32 × Gs => bX0_follow_13 st.2 v2 v3 st.1) (v4, g) = some q) (hq : (fun x => x = fin) q) : Wk p l e { frames := 4, cells := 0, slots := 0, locals := 92 } s m args below meth c Γ A fin.1 (some (.int fin.2)) 13 5 [(0, .ref (ad Γ 1)), (2, .ref (ad Γ v2)), (3, .int v3), (4, .int v4)] [] g := by
  intro H locs ls hw hS hl
  refine iter_walk (P := (fun st : Int32 × Gs => Wk p l e { frames := 4, cells := 0, slots := 0, locals := 92 } s m args below meth c Γ A fin.1 (some (.int fin.2)) 13 5 [(0, .ref (ad Γ 1)), (2, .ref (ad Γ v2)), (3, .int v3), (4, .int st.1)] [] st.2)) (K := (fun x => x = fin)) (fun st q hq1 h1 h2 => ?_) hf hq H locs ls hw hS hl
  exact wX0_follow_13 (g := st.2) (v4 := st.1) C hv2 hq1 ⟨h1, h2⟩

noncomputable def fX0_follow (g : Gs) (v1 : Nat) (v2 : Nat) (v3 : Int32) : Option (Gs × Int32) :=
  (fX0_begin g v1).bind fun z14 => (fX0_remember z14 0).bind fun z15 => iter (fun st : Int32 × Gs => bX0_follow_13 st.2 v2 v3 st.1) (0, z15)
set_option maxRecDepth 100000 in
set_option maxHeartbeats 4000000 in
theorem wX0_follow_e {p : Program} {l : Launch} {e : Env} {s : State} {m : MethodId} {args : Array Value} {below : List Frame} {meth : Method} {c : Code} {Γ : Gm} {A : Nat → Prop} {g : Gs} {v1 : Nat} {v2 : Nat} {v3 : Int32} {q : (Gs × Int32)} {fin : Gs × Int32} (C : Cx p s m args meth c yX0_follow cX0_follow 5 (some .int) Γ A) (hv1 : kd Γ v1 = some 2) (hv2 : kd Γ v2 = some 5) (hf : fX0_follow g v1 v2 v3 = some q) (hq : (fun x => x = fin) q) : Wk p l e { frames := 4, cells := 0, slots := 0, locals := 92 } s m args below meth c Γ A fin.1 (some (.int fin.2)) 0 5 [(0, .ref (ad Γ 1)), (1, .ref (ad Γ v1)), (2, .ref (ad Γ v2)), (3, .int v3)] [] g := by
  intro H locs ls hw hS hl
  unfold fX0_follow at hf
  obtain ⟨hx, hb, hml, hr, hown, htw, hlocks, hE⟩ := id C
  have hown : s.vm.findClass RX0 = some m.cls := hown
  refine lv_aload_n hx hb dX0_follow_0 rfl (lv_at hl 0 rfl) ?_
  refine lv_aload_n hx hb dX0_follow_1 rfl (lv_at hl 1 rfl) ?_
  obtain ⟨z14, hz14, hf⟩ := bd hf
  refine cl_Vv (rest := []) (kX0_begin (l := l) (Γ := Γ) (A := A) hv1 hz14) ⟨hx, hb, hml, hown, htw⟩ hE hw hS (hw _ _ (wf_1 hE)) (q0 := 0) rfl rfl mw743 mw745 mw17 mw124 mw746 pdX0_begin ⟨Nat.le_of_ble_eq_true rfl, Nat.le_of_ble_eq_true rfl⟩ rfl rfl hl.1 (Nat.le_of_ble_eq_true rfl) dX0_follow_2 (fun H locs hw hS => ?_)
  refine lv_aload_n hx hb dX0_follow_5 rfl (lv_at hl 0 rfl) ?_
  refine lv_iconst (v := 0) hx hb dX0_follow_6 (by decide) ?_
  obtain ⟨z15, hz15, hf⟩ := bd hf
  refine cl_Vv (rest := []) (kX0_remember (l := l) (Γ := Γ) (A := A) hz15) ⟨hx, hb, hml, hown, htw⟩ hE hw hS (hw _ _ (wf_1 hE)) (q0 := 0) rfl rfl mw749 mw751 mw18 mw124 mw752 pdX0_remember ⟨Nat.le_of_ble_eq_true rfl, Nat.le_of_ble_eq_true rfl⟩ rfl rfl hl.1 (Nat.le_of_ble_eq_true rfl) dX0_follow_7 (fun H locs hw hS => ?_)
  refine lv_iconst (v := 0) hx hb dX0_follow_10 (by decide) ?_
  refine lv_istore (lv' := [(4, .int 0), (0, .ref (ad Γ 1)), (1, .ref (ad Γ v1)), (2, .ref (ad Γ v2)), (3, .int v3)]) hx hb dX0_follow_11 hl (by decide) rfl (fun ls hl => ?_)
  exact lwX0_follow_13 C hv2 hf hq H locs ls hw hS (lv_sub hl [1, 3, 4, 0] rfl)

theorem kX0_follow {l : Launch} {Γ : Gm} {A : Nat → Prop} {g : Gs} {v1 : Nat} {v2 : Nat} {v3 : Int32} {fin : Gs × Int32} (hv1 : kd Γ v1 = some 2) (hv2 : kd Γ v2 = some 5) (hf : fX0_follow g v1 v2 v3 = some fin) : Kt l yX0_follow cX0_follow 5 (some .int) 4 92 Γ A g fin.1 [.ref (ad Γ 1), .ref (ad Γ v1), .ref (ad Γ v2), .int v3] (some (.int fin.2)) :=
  kt_of (by decide) (Nat.le_of_ble_eq_true rfl) (fun p e s m args below meth c C => wX0_follow_e C hv1 hv2 hf rfl)
noncomputable def bX0_star_36 (g : Gs) (v1 : Int32) (v2 : Int32) (v3 : Int32) : Option ((Int32 × Int32 × Int32) ⊕ Int32) :=
  some (.inl (v1, v2, v3 + 1))
set_option maxRecDepth 100000 in
set_option maxHeartbeats 4000000 in
theorem wX0_star_36 {p : Program} {l : Launch} {e : Env} {s : State} {m : MethodId} {args : Array Value} {below : List Frame} {meth : Method} {c : Code} {Γ : Gm} {A : Nat → Prop} {g : Gs} {v1 : Int32} {v2 : Int32} {v3 : Int32} {q : ((Int32 × Int32 × Int32) ⊕ Int32)} {fin : Int32} (C : Cx p s m args meth c yX0_star cX0_star 4 (some .int) Γ A) (hf : bX0_star_36 g v1 v2 v3 = some q) (hq : (KC (fun st : Int32 × Int32 × Int32 => Wk p l e { frames := 0, cells := 0, slots := 0, locals := 0 } s m args below meth c Γ A g (some (.int fin)) 6 4 [(0, .ref (ad Γ 1)), (1, .int st.1), (2, .int st.2.1), (3, .int st.2.2)] [] g) (fun x => x = fin)) q) : Wk p l e { frames := 0, cells := 0, slots := 0, locals := 0 } s m args below meth c Γ A g (some (.int fin)) 36 4 [(0, .ref (ad Γ 1)), (1, .int v1), (2, .int v2), (3, .int v3)] [] g := by
  intro H locs ls hw hS hl
  unfold bX0_star_36 at hf
  obtain ⟨hx, hb, hml, hr, hown, htw, hlocks, hE⟩ := id C
  have hown : s.vm.findClass RX0 = some m.cls := hown
  refine lv_iinc (v := v3 + 1) (lv' := [(3, .int (v3 + 1)), (0, .ref (ad Γ 1)), (1, .int v1), (2, .int v2)]) hx hb dX0_star_36 hl (k := 3) rfl (by rfl) (by decide) rfl (fun ls hl => ?_)
  refine lv_goto (tgt := 6) hx hb dX0_star_39 (by decide) ?_
  obtain rfl := Option.some.inj hf
  exact hq.1 _ rfl H locs ls hw hS (lv_sub hl [1, 2, 3, 0] rfl)

noncomputable def bX0_star_6 (g : Gs) (v1 : Int32) (v2 : Int32) (v3 : Int32) : Option ((Int32 × Int32 × Int32) ⊕ Int32) :=
  (some (gr (g 1) 0)).bind fun h1 => gd (isHm h1) (if (gi (g h1) 0) ≤ v3 then some (.inr (v1)) else gd (inR v3 8) (if (ga (g 1) 4 (Int32.toNatClampNeg v3)) ≤ v2 then bX0_star_36 g v1 v2 v3 else gd (inR v3 8) ((some (ga (g 1) 4 (Int32.toNatClampNeg v3))).bind fun x5 => bX0_star_36 g v3 x5 v3)))
set_option maxRecDepth 100000 in
set_option maxHeartbeats 4000000 in
theorem wX0_star_6 {p : Program} {l : Launch} {e : Env} {s : State} {m : MethodId} {args : Array Value} {below : List Frame} {meth : Method} {c : Code} {Γ : Gm} {A : Nat → Prop} {g : Gs} {v1 : Int32} {v2 : Int32} {v3 : Int32} {q : ((Int32 × Int32 × Int32) ⊕ Int32)} {fin : Int32} (C : Cx p s m args meth c yX0_star cX0_star 4 (some .int) Γ A) (hf : bX0_star_6 g v1 v2 v3 = some q) (hq : (KC (fun st : Int32 × Int32 × Int32 => Wk p l e { frames := 0, cells := 0, slots := 0, locals := 0 } s m args below meth c Γ A g (some (.int fin)) 6 4 [(0, .ref (ad Γ 1)), (1, .int st.1), (2, .int st.2.1), (3, .int st.2.2)] [] g) (fun x => x = fin)) q) : Wk p l e { frames := 0, cells := 0, slots := 0, locals := 0 } s m args below meth c Γ A g (some (.int fin)) 6 4 [(0, .ref (ad Γ 1)), (1, .int v1), (2, .int v2), (3, .int v3)] [] g := by
  intro H locs ls hw hS hl
  unfold bX0_star_6 at hf
  obtain ⟨hx, hb, hml, hr, hown, htw, hlocks, hE⟩ := id C
  have hown : s.vm.findClass RX0 = some m.cls := hown
  refine lv_iload_n hx hb dX0_star_6 rfl (lv_at hl 3 rfl) ?_
  refine lv_aload_n hx hb dX0_star_7 rfl (lv_at hl 0 rfl) ?_
  refine va_get (ci := 0) (v := .ref (ad Γ (gr (g 1) 0))) (C := RX0) (T := TX0) (N := 12) hx hb htw uwX0 hown hE.1 (hw _ _ (wf_1 hE)) 0 rfl rfl 0 (by decide) (htw _ mw336) (fun _ h9 => h9) rfl dX0_star_8 ?_
  obtain ⟨h1, hh1, hf⟩ := bd hf
  have hh1 := Option.some.inj hh1
  refine tp1r hh1 ?_
  obtain ⟨g2, hf⟩ := gd_some hf
  refine va_get (ci := 2) (v := .int (gi (g h1) 0)) (C := RX2) (T := TX2) (N := 11) hx hb htw uwX2 hown hE.1 (hw _ _ (hm_kd hE g2)) 0 rfl rfl 0 (by decide) (htw _ mw162) (fun _ h9 => h9) rfl dX0_star_11 ?_
  refine lv_icmp_ge (tgt := 42) hx hb dX0_star_14 (by decide) (fun c7 => ?_) (fun c7 => ?_)
  · have hf := ifp c7 hf
    refine lv_iload_n hx hb dX0_star_42 rfl (lv_at hl 1 rfl) ?_
    obtain rfl := Option.some.inj hf
    have hq := hq.2 _ rfl
    subst hq
    exact rt_i C hw hS dX0_star_43
  · have hf := ifn c7 hf
    refine lv_aload_n hx hb dX0_star_17 rfl (lv_at hl 0 rfl) ?_
    refine va_get (ci := 0) (v := .ref (aa Γ 1 4)) (C := RX0) (T := TX0) (N := 12) hx hb htw uwX0 hown hE.1 (hw _ _ (wf_1 hE)) 0 rfl rfl 4 (by decide) (htw _ mw340) (fun _ h9 => h9) rfl dX0_star_18 ?_
    refine lv_iload_n hx hb dX0_star_21 rfl (lv_at hl 3 rfl) ?_
    obtain ⟨g3, hf⟩ := gd_some hf
    refine va_iald hx hb hE.1 (hw _ _ (wf_1 hE)) 4 0 rfl rfl (inR_in g3) dX0_star_22 ?_
    refine lv_iload_n hx hb dX0_star_23 rfl (lv_at hl 2 rfl) ?_
    refine lv_icmp_le (tgt := 36) hx hb dX0_star_24 (by decide) (fun c6 => ?_) (fun c6 => ?_)
    · have hf := ifp c6 hf
      exact wX0_star_36 C hf hq H locs ls hw hS hl
    · have hf := ifn c6 hf
      refine lv_aload_n hx hb dX0_star_27 rfl (lv_at hl 0 rfl) ?_
      refine va_get (ci := 0) (v := .ref (aa Γ 1 4)) (C := RX0) (T := TX0) (N := 12) hx hb htw uwX0 hown hE.1 (hw _ _ (wf_1 hE)) 0 rfl rfl 4 (by decide) (htw _ mw340) (fun _ h9 => h9) rfl dX0_star_28 ?_
      refine lv_iload_n hx hb dX0_star_31 rfl (lv_at hl 3 rfl) ?_
      obtain ⟨g4, hf⟩ := gd_some hf
      refine va_iald hx hb hE.1 (hw _ _ (wf_1 hE)) 4 0 rfl rfl (inR_in g4) dX0_star_32 ?_
      obtain ⟨x5, hx5, hf⟩ := bd hf
      have hx5 := Option.some.inj hx5
      refine tp1i hx5 ?_
      refine lv_istore_n (lv' := [(2, .int x5), (0, .ref (ad Γ 1)), (1, .int v1), (3, .int v3)]) hx hb dX0_star_33 rfl hl (by decide) rfl (fun ls hl => ?_)
      refine lv_iload_n hx hb dX0_star_34 rfl (lv_at hl 3 rfl) ?_
      refine lv_istore_n (lv' := [(1, .int v3), (2, .int x5), (0, .ref (ad Γ 1)), (3, .int v3)]) hx hb dX0_star_35 rfl hl (by decide) rfl (fun ls hl => ?_)
      exact wX0_star_36 C hf hq H locs ls hw hS (lv_sub hl [2, 0, 1, 3] rfl)

set_option maxRecDepth 100000 in
set_option maxHeartbeats 4000000 in
theorem lwX0_star_6 {p : Program} {l : Launch} {e : Env} {s : State} {m : MethodId} {args : Array Value} {below : List Frame} {meth : Method} {c : Code} {Γ : Gm} {A : Nat → Prop} {g : Gs} {v1 : Int32} {v2 : Int32} {v3 : Int32} {q : Int32} {fin : Int32} (C : Cx p s m args meth c yX0_star cX0_star 4 (some .int) Γ A) (hf : iter (fun st : Int32 × Int32 × Int32 => bX0_star_6 g st.1 st.2.1 st.2.2) (v1, v2, v3) = some q) (hq : (fun x => x = fin) q) : Wk p l e { frames := 0, cells := 0, slots := 0, locals := 0 } s m args below meth c Γ A g (some (.int fin)) 6 4 [(0, .ref (ad Γ 1)), (1, .int v1), (2, .int v2), (3, .int v3)] [] g := by
  intro H locs ls hw hS hl
  refine iter_walk (P := (fun st : Int32 × Int32 × Int32 => Wk p l e { frames := 0, cells := 0, slots := 0, locals := 0 } s m args below meth c Γ A g (some (.int fin)) 6 4 [(0, .ref (ad Γ 1)), (1, .int st.1), (2, .int st.2.1), (3, .int st.2.2)] [] g)) (K := (fun x => x = fin)) (fun st q hq1 h1 h2 => ?_) hf hq H locs ls hw hS hl
  exact wX0_star_6 (v1 := st.1) (v2 := st.2.1) (v3 := st.2.2) C hq1 ⟨h1, h2⟩

noncomputable def fX0_star (g : Gs) : Option Int32 :=
  iter (fun st : Int32 × Int32 × Int32 => bX0_star_6 g st.1 st.2.1 st.2.2) ((-1), 0, 0)
set_option maxRecDepth 100000 in
set_option maxHeartbeats 4000000 in
theorem wX0_star_e {p : Program} {l : Launch} {e : Env} {s : State} {m : MethodId} {args : Array Value} {below : List Frame} {meth : Method} {c : Code} {Γ : Gm} {A : Nat → Prop} {g : Gs} {q : Int32} {fin : Int32} (C : Cx p s m args meth c yX0_star cX0_star 4 (some .int) Γ A) (hf : fX0_star g = some q) (hq : (fun x => x = fin) q) : Wk p l e { frames := 0, cells := 0, slots := 0, locals := 0 } s m args below meth c Γ A g (some (.int fin)) 0 4 [(0, .ref (ad Γ 1))] [] g := by
  intro H locs ls hw hS hl
  unfold fX0_star at hf
  obtain ⟨hx, hb, hml, hr, hown, htw, hlocks, hE⟩ := id C
  have hown : s.vm.findClass RX0 = some m.cls := hown
  refine lv_iconst (v := (-1)) hx hb dX0_star_0 (by decide) ?_
  refine lv_istore_n (lv' := [(1, .int (-1)), (0, .ref (ad Γ 1))]) hx hb dX0_star_1 rfl hl (by decide) rfl (fun ls hl => ?_)
  refine lv_iconst (v := 0) hx hb dX0_star_2 (by decide) ?_
  refine lv_istore_n (lv' := [(2, .int 0), (1, .int (-1)), (0, .ref (ad Γ 1))]) hx hb dX0_star_3 rfl hl (by decide) rfl (fun ls hl => ?_)
  refine lv_iconst (v := 0) hx hb dX0_star_4 (by decide) ?_
  refine lv_istore_n (lv' := [(3, .int 0), (2, .int 0), (1, .int (-1)), (0, .ref (ad Γ 1))]) hx hb dX0_star_5 rfl hl (by decide) rfl (fun ls hl => ?_)
  exact lwX0_star_6 C hf hq H locs ls hw hS (lv_sub hl [3, 2, 1, 0] rfl)

theorem kX0_star {l : Launch} {Γ : Gm} {A : Nat → Prop} {g : Gs} {fin : Int32} (hf : fX0_star g = some fin) : Kt l yX0_star cX0_star 4 (some .int) 0 0 Γ A g g [.ref (ad Γ 1)] (some (.int fin)) :=
  kt_of (by decide) (Nat.le_of_ble_eq_true rfl) (fun p e s m args below meth c C => wX0_star_e C hf rfl)
noncomputable def fX0_lookAt (g : Gs) (v1 : Int32) (v2 : Int32) : Option Int32 :=
  if v1 = 1 then gd (inR v2 8) (some (ga (g 1) 1 (Int32.toNatClampNeg v2))) else if v1 = 2 then gd (inR v2 8) (some (ga (g 1) 2 (Int32.toNatClampNeg v2))) else if v1 = 3 then gd (inR v2 8) (some (ga (g 1) 3 (Int32.toNatClampNeg v2))) else some ((-2))
set_option maxRecDepth 100000 in
set_option maxHeartbeats 4000000 in
theorem wX0_lookAt_e {p : Program} {l : Launch} {e : Env} {s : State} {m : MethodId} {args : Array Value} {below : List Frame} {meth : Method} {c : Code} {Γ : Gm} {A : Nat → Prop} {g : Gs} {v1 : Int32} {v2 : Int32} {q : Int32} {fin : Int32} (C : Cx p s m args meth c yX0_lookAt cX0_lookAt 3 (some .int) Γ A) (hf : fX0_lookAt g v1 v2 = some q) (hq : (fun x => x = fin) q) : Wk p l e { frames := 0, cells := 0, slots := 0, locals := 0 } s m args below meth c Γ A g (some (.int fin)) 0 3 [(0, .ref (ad Γ 1)), (1, .int v1), (2, .int v2)] [] g := by
  intro H locs ls hw hS hl
  unfold fX0_lookAt at hf
  obtain ⟨hx, hb, hml, hr, hown, htw, hlocks, hE⟩ := id C
  have hown : s.vm.findClass RX0 = some m.cls := hown
  refine lv_iload_n hx hb dX0_lookAt_0 rfl (lv_at hl 1 rfl) ?_
  by_cases c4 : v1 = 1
  · have hf := ifp c4 hf
    rw [c4]
    refine lv_tableIn (off := 27) (tgt := 28) hx hb dX0_lookAt_1 (by decide) (by decide) (by rfl) (by decide) ?_
    refine lv_aload_n hx hb dX0_lookAt_28 rfl (lv_at hl 0 rfl) ?_
    refine va_get (ci := 0) (v := .ref (aa Γ 1 1)) (C := RX0) (T := TX0) (N := 12) hx hb htw uwX0 hown hE.1 (hw _ _ (wf_1 hE)) 0 rfl rfl 1 (by decide) (htw _ mw337) (fun _ h9 => h9) rfl dX0_lookAt_29 ?_
    refine lv_iload_n hx hb dX0_lookAt_32 rfl (lv_at hl 2 rfl) ?_
    obtain ⟨g1, hf⟩ := gd_some hf
    refine va_iald hx hb hE.1 (hw _ _ (wf_1 hE)) 1 0 rfl rfl (inR_in g1) dX0_lookAt_33 ?_
    obtain rfl := Option.some.inj hf
    subst hq
    exact rt_i C hw hS dX0_lookAt_34
  have hf := ifn c4 hf
  by_cases c5 : v1 = 2
  · have hf := ifp c5 hf
    rw [c5]
    refine lv_tableIn (off := 34) (tgt := 35) hx hb dX0_lookAt_1 (by decide) (by decide) (by rfl) (by decide) ?_
    refine lv_aload_n hx hb dX0_lookAt_35 rfl (lv_at hl 0 rfl) ?_
    refine va_get (ci := 0) (v := .ref (aa Γ 1 2)) (C := RX0) (T := TX0) (N := 12) hx hb htw uwX0 hown hE.1 (hw _ _ (wf_1 hE)) 0 rfl rfl 2 (by decide) (htw _ mw338) (fun _ h9 => h9) rfl dX0_lookAt_36 ?_
    refine lv_iload_n hx hb dX0_lookAt_39 rfl (lv_at hl 2 rfl) ?_
    obtain ⟨g2, hf⟩ := gd_some hf
    refine va_iald hx hb hE.1 (hw _ _ (wf_1 hE)) 2 0 rfl rfl (inR_in g2) dX0_lookAt_40 ?_
    obtain rfl := Option.some.inj hf
    subst hq
    exact rt_i C hw hS dX0_lookAt_41
  have hf := ifn c5 hf
  by_cases c6 : v1 = 3
  · have hf := ifp c6 hf
    rw [c6]
    refine lv_tableIn (off := 41) (tgt := 42) hx hb dX0_lookAt_1 (by decide) (by decide) (by rfl) (by decide) ?_
    refine lv_aload_n hx hb dX0_lookAt_42 rfl (lv_at hl 0 rfl) ?_
    refine va_get (ci := 0) (v := .ref (aa Γ 1 3)) (C := RX0) (T := TX0) (N := 12) hx hb htw uwX0 hown hE.1 (hw _ _ (wf_1 hE)) 0 rfl rfl 3 (by decide) (htw _ mw339) (fun _ h9 => h9) rfl dX0_lookAt_43 ?_
    refine lv_iload_n hx hb dX0_lookAt_46 rfl (lv_at hl 2 rfl) ?_
    obtain ⟨g3, hf⟩ := gd_some hf
    refine va_iald hx hb hE.1 (hw _ _ (wf_1 hE)) 3 0 rfl rfl (inR_in g3) dX0_lookAt_47 ?_
    obtain rfl := Option.some.inj hf
    subst hq
    exact rt_i C hw hS dX0_lookAt_48
  have hf := ifn c6 hf
  refine lv_tableOut (tgt := 49) hx hb dX0_lookAt_1 (by have := And.intro (ts_ne (k := 1) (by decide) c4) (And.intro (ts_ne (k := 2) (by decide) c5) (And.intro (ts_ne (k := 3) (by decide) c6) (True.intro))); omega) (by decide) ?_
  refine lv_bipush (v := (-2)) hx hb dX0_lookAt_49 (by decide) ?_
  obtain rfl := Option.some.inj hf
  subst hq
  exact rt_i C hw hS dX0_lookAt_51

theorem kX0_lookAt {l : Launch} {Γ : Gm} {A : Nat → Prop} {g : Gs} {v1 : Int32} {v2 : Int32} {fin : Int32} (hf : fX0_lookAt g v1 v2 = some fin) : Kt l yX0_lookAt cX0_lookAt 3 (some .int) 0 0 Γ A g g [.ref (ad Γ 1), .int v1, .int v2] (some (.int fin)) :=
  kt_of (by decide) (Nat.le_of_ble_eq_true rfl) (fun p e s m args below meth c C => wX0_lookAt_e C hf rfl)
noncomputable def fX0_look (g : Gs) (v1 : Int32) : Option Int32 :=
  if v1 = 0 then some (gi (g 1) 6) else if v1 = 1 then (fX0_brightest g).bind fun z7 => some (z7) else if v1 = 2 then (fX0_isDusk g).bind fun z8 => if z8 = 0 then some (0) else some (1) else if v1 = 3 then some (gi (g 1) 5) else if v1 = 4 then some (gi (g 1) 7) else if v1 < 10 then some ((-2)) else (some (gr (g 1) 0)).bind fun h1 => gd (isHm h1) ((fX2_hasPiece (g h1) (v1 - v1 / 10 * 10)).bind fun z3 => if z3 = 0 then some ((-2)) else (fX0_lookAt g (v1 / 10) (v1 - v1 / 10 * 10)).bind fun z4 => some (z4))
set_option maxRecDepth 100000 in
set_option maxHeartbeats 4000000 in
theorem wX0_look_e {p : Program} {l : Launch} {e : Env} {s : State} {m : MethodId} {args : Array Value} {below : List Frame} {meth : Method} {c : Code} {Γ : Gm} {A : Nat → Prop} {g : Gs} {v1 : Int32} {q : Int32} {fin : Int32} (C : Cx p s m args meth c yX0_look cX0_look 2 (some .int) Γ A) (hf : fX0_look g v1 = some q) (hq : (fun x => x = fin) q) : Wk p l e { frames := 1, cells := 0, slots := 0, locals := 23 } s m args below meth c Γ A g (some (.int fin)) 0 2 [(0, .ref (ad Γ 1)), (1, .int v1)] [] g := by
  intro H locs ls hw hS hl
  unfold fX0_look at hf
  obtain ⟨hx, hb, hml, hr, hown, htw, hlocks, hE⟩ := id C
  have hown : s.vm.findClass RX0 = some m.cls := hown
  refine lv_iload_n hx hb dX0_look_0 rfl (lv_at hl 1 rfl) ?_
  by_cases c10 : v1 = 0
  · have hf := ifp c10 hf
    rw [c10]
    refine lv_tableIn (off := 35) (tgt := 36) hx hb dX0_look_1 (by decide) (by decide) (by rfl) (by decide) ?_
    refine lv_aload_n hx hb dX0_look_36 rfl (lv_at hl 0 rfl) ?_
    refine va_get (ci := 0) (v := .int (gi (g 1) 6)) (C := RX0) (T := TX0) (N := 12) hx hb htw uwX0 hown hE.1 (hw _ _ (wf_1 hE)) 0 rfl rfl 6 (by decide) (htw _ mw342) (fun _ h9 => h9) rfl dX0_look_37 ?_
    obtain rfl := Option.some.inj hf
    subst hq
    exact rt_i C hw hS dX0_look_40
  have hf := ifn c10 hf
  by_cases c11 : v1 = 1
  · have hf := ifp c11 hf
    rw [c11]
    refine lv_tableIn (off := 40) (tgt := 41) hx hb dX0_look_1 (by decide) (by decide) (by rfl) (by decide) ?_
    refine lv_aload_n hx hb dX0_look_41 rfl (lv_at hl 0 rfl) ?_
    obtain ⟨z7, hz7, hf⟩ := bd hf
    refine cl_Vs (rest := []) (kX0_brightest (l := l) (Γ := Γ) (A := A) hz7) ⟨hx, hb, hml, hown, htw⟩ hE hw hS (hw _ _ (wf_1 hE)) (q0 := 0) rfl rfl mw753 mw755 mw19 mw124 mw756 pdX0_brightest ⟨Nat.le_of_ble_eq_true rfl, Nat.le_of_ble_eq_true rfl⟩ rfl rfl hl.1 (Nat.le_of_ble_eq_true rfl) dX0_look_42 (fun H locs hw hS => ?_)
    obtain rfl := Option.some.inj hf
    subst hq
    exact rt_i C hw hS dX0_look_45
  have hf := ifn c11 hf
  by_cases c12 : v1 = 2
  · have hf := ifp c12 hf
    rw [c12]
    refine lv_tableIn (off := 45) (tgt := 46) hx hb dX0_look_1 (by decide) (by decide) (by rfl) (by decide) ?_
    refine lv_aload_n hx hb dX0_look_46 rfl (lv_at hl 0 rfl) ?_
    obtain ⟨z8, hz8, hf⟩ := bd hf
    refine cl_Vs (rest := []) (kX0_isDusk (l := l) (Γ := Γ) (A := A) hz8) ⟨hx, hb, hml, hown, htw⟩ hE hw hS (hw _ _ (wf_1 hE)) (q0 := 0) rfl rfl mw757 mw759 mw20 mw124 mw760 pdX0_isDusk ⟨Nat.le_of_ble_eq_true rfl, Nat.le_of_ble_eq_true rfl⟩ rfl rfl hl.1 (Nat.le_of_ble_eq_true rfl) dX0_look_47 (fun H locs hw hS => ?_)
    refine lv_if_eq (tgt := 57) hx hb dX0_look_50 (by decide) (fun c9 => ?_) (fun c9 => ?_)
    · have hf := ifp c9 hf
      refine lv_iconst (v := 0) hx hb dX0_look_57 (by decide) ?_
      obtain rfl := Option.some.inj hf
      subst hq
      exact rt_i C hw hS dX0_look_58
    · have hf := ifn c9 hf
      refine lv_iconst (v := 1) hx hb dX0_look_53 (by decide) ?_
      refine lv_goto (tgt := 58) hx hb dX0_look_54 (by decide) ?_
      obtain rfl := Option.some.inj hf
      subst hq
      exact rt_i C hw hS dX0_look_58
  have hf := ifn c12 hf
  by_cases c13 : v1 = 3
  · have hf := ifp c13 hf
    rw [c13]
    refine lv_tableIn (off := 58) (tgt := 59) hx hb dX0_look_1 (by decide) (by decide) (by rfl) (by decide) ?_
    refine lv_aload_n hx hb dX0_look_59 rfl (lv_at hl 0 rfl) ?_
    refine va_get (ci := 0) (v := .int (gi (g 1) 5)) (C := RX0) (T := TX0) (N := 12) hx hb htw uwX0 hown hE.1 (hw _ _ (wf_1 hE)) 0 rfl rfl 5 (by decide) (htw _ mw341) (fun _ h9 => h9) rfl dX0_look_60 ?_
    obtain rfl := Option.some.inj hf
    subst hq
    exact rt_i C hw hS dX0_look_63
  have hf := ifn c13 hf
  by_cases c14 : v1 = 4
  · have hf := ifp c14 hf
    rw [c14]
    refine lv_tableIn (off := 63) (tgt := 64) hx hb dX0_look_1 (by decide) (by decide) (by rfl) (by decide) ?_
    refine lv_aload_n hx hb dX0_look_64 rfl (lv_at hl 0 rfl) ?_
    refine va_get (ci := 0) (v := .int (gi (g 1) 7)) (C := RX0) (T := TX0) (N := 12) hx hb htw uwX0 hown hE.1 (hw _ _ (wf_1 hE)) 0 rfl rfl 7 (by decide) (htw _ mw343) (fun _ h9 => h9) rfl dX0_look_65 ?_
    obtain rfl := Option.some.inj hf
    subst hq
    exact rt_i C hw hS dX0_look_68
  have hf := ifn c14 hf
  refine lv_tableOut (tgt := 69) hx hb dX0_look_1 (by have := And.intro (ts_ne (k := 0) (by decide) c10) (And.intro (ts_ne (k := 1) (by decide) c11) (And.intro (ts_ne (k := 2) (by decide) c12) (And.intro (ts_ne (k := 3) (by decide) c13) (And.intro (ts_ne (k := 4) (by decide) c14) (True.intro))))); omega) (by decide) ?_
  refine lv_iload_n hx hb dX0_look_69 rfl (lv_at hl 1 rfl) ?_
  refine lv_bipush (v := 10) hx hb dX0_look_70 (by decide) ?_
  refine lv_icmp_lt (tgt := 104) hx hb dX0_look_72 (by decide) (fun c6 => ?_) (fun c6 => ?_)
  · have hf := ifp c6 hf
    refine lv_bipush (v := (-2)) hx hb dX0_look_104 (by decide) ?_
    obtain rfl := Option.some.inj hf
    subst hq
    exact rt_i C hw hS dX0_look_106
  · have hf := ifn c6 hf
    refine lv_aload_n hx hb dX0_look_75 rfl (lv_at hl 0 rfl) ?_
    refine va_get (ci := 0) (v := .ref (ad Γ (gr (g 1) 0))) (C := RX0) (T := TX0) (N := 12) hx hb htw uwX0 hown hE.1 (hw _ _ (wf_1 hE)) 0 rfl rfl 0 (by decide) (htw _ mw336) (fun _ h9 => h9) rfl dX0_look_76 ?_
    obtain ⟨h1, hh1, hf⟩ := bd hf
    have hh1 := Option.some.inj hh1
    refine tp1r hh1 ?_
    obtain ⟨g2, hf⟩ := gd_some hf
    refine lv_iload_n hx hb dX0_look_79 rfl (lv_at hl 1 rfl) ?_
    refine lv_bipush (v := 10) hx hb dX0_look_80 (by decide) ?_
    refine lv_irem hx hb dX0_look_82 (by decide) ?_
    obtain ⟨z3, hz3, hf⟩ := bd hf
    refine cl_Vs (rest := []) (kgX2_hasPiece (l := l) (Γ := Γ) (A := A) (G := g) (o := h1) (hm_kd hE g2) hz3) ⟨hx, hb, hml, hown, htw⟩ hE hw hS (hw _ _ (hm_kd hE g2)) (q0 := 0) rfl rfl mw776 mw683 mw684 mw120 mw685 pdX2_hasPiece ⟨Nat.le_of_ble_eq_true rfl, Nat.le_of_ble_eq_true rfl⟩ rfl rfl hl.1 (Nat.le_of_ble_eq_true rfl) dX0_look_83 (fun H locs hw hS => ?_)
    refine lv_if_eq (tgt := 104) hx hb dX0_look_86 (by decide) (fun c5 => ?_) (fun c5 => ?_)
    · have hf := ifp c5 hf
      refine lv_bipush (v := (-2)) hx hb dX0_look_104 (by decide) ?_
      obtain rfl := Option.some.inj hf
      subst hq
      exact rt_i C hw hS dX0_look_106
    · have hf := ifn c5 hf
      refine lv_aload_n hx hb dX0_look_89 rfl (lv_at hl 0 rfl) ?_
      refine lv_iload_n hx hb dX0_look_90 rfl (lv_at hl 1 rfl) ?_
      refine lv_bipush (v := 10) hx hb dX0_look_91 (by decide) ?_
      refine lv_idiv hx hb dX0_look_93 (by decide) ?_
      refine lv_iload_n hx hb dX0_look_94 rfl (lv_at hl 1 rfl) ?_
      refine lv_bipush (v := 10) hx hb dX0_look_95 (by decide) ?_
      refine lv_irem hx hb dX0_look_97 (by decide) ?_
      obtain ⟨z4, hz4, hf⟩ := bd hf
      refine cl_Vs (rest := []) (kX0_lookAt (l := l) (Γ := Γ) (A := A) hz4) ⟨hx, hb, hml, hown, htw⟩ hE hw hS (hw _ _ (wf_1 hE)) (q0 := 0) rfl rfl mw816 mw818 mw31 mw124 mw819 pdX0_lookAt ⟨Nat.le_of_ble_eq_true rfl, Nat.le_of_ble_eq_true rfl⟩ rfl rfl hl.1 (Nat.le_of_ble_eq_true rfl) dX0_look_98 (fun H locs hw hS => ?_)
      refine lv_goto (tgt := 106) hx hb dX0_look_101 (by decide) ?_
      obtain rfl := Option.some.inj hf
      subst hq
      exact rt_i C hw hS dX0_look_106

theorem kX0_look {l : Launch} {Γ : Gm} {A : Nat → Prop} {g : Gs} {v1 : Int32} {fin : Int32} (hf : fX0_look g v1 = some fin) : Kt l yX0_look cX0_look 2 (some .int) 1 23 Γ A g g [.ref (ad Γ 1), .int v1] (some (.int fin)) :=
  kt_of (by decide) (Nat.le_of_ble_eq_true rfl) (fun p e s m args below meth c C => wX0_look_e C hf rfl)
noncomputable def fX0_drawBelow (g : Gs) (v1 : Int32) : Option (Gs × Int32) :=
  (some (ug g 1 (si (g 1) 8 (((gi (g 1) 8) * 1103515245) + 12345)))).bind fun g1 => if 0 < v1 then (some (((gi (g1 1) 8).toUInt32 >>> ((16 : Int32).toUInt32 &&& Int32.toUInt32 31)).toInt32)).bind fun x2 => gd (nz v1) (some ((g1, x2 - x2 / v1 * v1))) else some ((g1, 0))
set_option maxRecDepth 100000 in
set_option maxHeartbeats 4000000 in
theorem wX0_drawBelow_e {p : Program} {l : Launch} {e : Env} {s : State} {m : MethodId} {args : Array Value} {below : List Frame} {meth : Method} {c : Code} {Γ : Gm} {A : Nat → Prop} {g : Gs} {v1 : Int32} {q : (Gs × Int32)} {fin : Gs × Int32} (C : Cx p s m args meth c yX0_drawBelow cX0_drawBelow 2 (some .int) Γ A) (hf : fX0_drawBelow g v1 = some q) (hq : (fun x => x = fin) q) : Wk p l e { frames := 0, cells := 0, slots := 0, locals := 0 } s m args below meth c Γ A fin.1 (some (.int fin.2)) 0 2 [(0, .ref (ad Γ 1)), (1, .int v1)] [] g := by
  intro H locs ls hw hS hl
  unfold fX0_drawBelow at hf
  obtain ⟨hx, hb, hml, hr, hown, htw, hlocks, hE⟩ := id C
  have hown : s.vm.findClass RX0 = some m.cls := hown
  refine lv_aload_n hx hb dX0_drawBelow_0 rfl (lv_at hl 0 rfl) ?_
  refine lv_aload_n hx hb dX0_drawBelow_1 rfl (lv_at hl 0 rfl) ?_
  refine va_get (ci := 0) (v := .int (gi (g 1) 8)) (C := RX0) (T := TX0) (N := 12) hx hb htw uwX0 hown hE.1 (hw _ _ (wf_1 hE)) 0 rfl rfl 8 (by decide) (htw _ mw344) (fun _ h9 => h9) rfl dX0_drawBelow_2 ?_
  refine lv_ldc hx hb hown (htw _ mw1071) dX0_drawBelow_5 ?_
  refine lv_imul hx hb dX0_drawBelow_7 ?_
  refine lv_sipush (v := 12345) hx hb dX0_drawBelow_8 (by decide) ?_
  refine lv_iadd hx hb dX0_drawBelow_11 ?_
  obtain ⟨g1, hg1, hf⟩ := bd hf
  have hg1 := Option.some.inj hg1
  refine wo_putG (C := RX0) (T := TX0) (N := 12) (v := .int (((gi (g 1) 8) * 1103515245) + 12345)) (ty := .int) hx hb htw uwX0 tyX0 tyX0_ok nmX0 hown hE hw hS (wf_1 hE) rfl rfl 8 (by decide) (htw _ mw344) (fun _ h9 => h9) rfl (tyX0_ok 8 (by decide)) rfl rfl (Nat.le_of_ble_eq_true rfl) (st0_8 rfl) hg1 dX0_drawBelow_12 (fun H locs hw hS => ?_)
  refine lv_iload_n hx hb dX0_drawBelow_15 rfl (lv_at hl 1 rfl) ?_
  refine lv_if_gt (tgt := 23) hx hb dX0_drawBelow_16 (by decide) (fun c4 => ?_) (fun c4 => ?_)
  · have hf := ifp c4 hf
    refine lv_aload_n hx hb dX0_drawBelow_23 rfl (lv_at hl 0 rfl) ?_
    refine va_get (ci := 0) (v := .int (gi (g1 1) 8)) (C := RX0) (T := TX0) (N := 12) hx hb htw uwX0 hown hE.1 (hw _ _ (wf_1 hE)) 0 rfl rfl 8 (by decide) (htw _ mw344) (fun _ h9 => h9) rfl dX0_drawBelow_24 ?_
    refine lv_bipush (v := 16) hx hb dX0_drawBelow_27 (by decide) ?_
    refine lv_iushr (v := ((gi (g1 1) 8).toUInt32 >>> ((16 : Int32).toUInt32 &&& Int32.toUInt32 31)).toInt32) hx hb dX0_drawBelow_29 rfl ?_
    refine lv_iload_n hx hb dX0_drawBelow_30 rfl (lv_at hl 1 rfl) ?_
    obtain ⟨x2, hx2, hf⟩ := bd hf
    have hx2 := Option.some.inj hx2
    refine tp2i hx2 ?_
    obtain ⟨g3, hf⟩ := gd_some hf
    refine lv_irem hx hb dX0_drawBelow_31 (nz_ne g3) ?_
    obtain rfl := Option.some.inj hf
    subst hq
    exact rt_i C hw hS dX0_drawBelow_32
  · have hf := ifn c4 hf
    refine lv_iconst (v := 0) hx hb dX0_drawBelow_19 (by decide) ?_
    refine lv_goto (tgt := 32) hx hb dX0_drawBelow_20 (by decide) ?_
    obtain rfl := Option.some.inj hf
    subst hq
    exact rt_i C hw hS dX0_drawBelow_32

theorem kX0_drawBelow {l : Launch} {Γ : Gm} {A : Nat → Prop} {g : Gs} {v1 : Int32} {fin : Gs × Int32} (hf : fX0_drawBelow g v1 = some fin) : Kt l yX0_drawBelow cX0_drawBelow 2 (some .int) 0 0 Γ A g fin.1 [.ref (ad Γ 1), .int v1] (some (.int fin.2)) :=
  kt_of (by decide) (Nat.le_of_ble_eq_true rfl) (fun p e s m args below meth c C => wX0_drawBelow_e C hf rfl)
noncomputable def bX0_drawTelling_76 (g : Gs) (s0 : Int32) (s1 : Int32) (s2 : Int32) : Option Gs :=
  (fX0_tellTwo g s2 s1 s0).bind fun z1 => some (z1.1)
set_option maxRecDepth 100000 in
set_option maxHeartbeats 4000000 in
theorem wX0_drawTelling_76 {p : Program} {l : Launch} {e : Env} {s : State} {m : MethodId} {args : Array Value} {below : List Frame} {meth : Method} {c : Code} {Γ : Gm} {A : Nat → Prop} {g : Gs} {s0 : Int32} {s1 : Int32} {s2 : Int32} {q : Gs} {fin : Gs} (C : Cx p s m args meth c yX0_drawTelling cX0_drawTelling 4 none Γ A) (hf : bX0_drawTelling_76 g s0 s1 s2 = some q) (hq : (fun x => x = fin) q) : Wk p l e { frames := 3, cells := 0, slots := 0, locals := 68 } s m args below meth c Γ A fin none 76 4 [] [.int s0, .int s1, .int s2, .ref (ad Γ 1)] g := by
  intro H locs ls hw hS hl
  unfold bX0_drawTelling_76 at hf
  obtain ⟨hx, hb, hml, hr, hown, htw, hlocks, hE⟩ := id C
  have hown : s.vm.findClass RX0 = some m.cls := hown
  obtain ⟨z1, hz1, hf⟩ := bd hf
  refine cl_Vs (rest := []) (kX0_tellTwo (l := l) (Γ := Γ) (A := A) hz1) ⟨hx, hb, hml, hown, htw⟩ hE hw hS (hw _ _ (wf_1 hE)) (q0 := 0) rfl rfl mw787 mw789 mw26 mw124 mw790 pdX0_tellTwo ⟨Nat.le_of_ble_eq_true rfl, Nat.le_of_ble_eq_true rfl⟩ rfl rfl hl.1 (Nat.le_of_ble_eq_true rfl) dX0_drawTelling_76 (fun H locs hw hS => ?_)
  refine lv_pop hx hb dX0_drawTelling_79 rfl ?_
  refine lv_goto (tgt := 120) hx hb dX0_drawTelling_80 (by decide) ?_
  obtain rfl := Option.some.inj hf
  subst hq
  exact rt_v C hw hS dX0_drawTelling_120

noncomputable def bX0_drawTelling_20 (g : Gs) (v1 : Int32) (s0 : Int32) : Option Gs :=
  (some (gr (g 1) 0)).bind fun h2 => gd (isHm h2) ((fX0_drawBelow g (gi (g h2) 0)).bind fun z4 => if 1 < v1 then if v1 = 2 then (some (gr (z4.1 1) 0)).bind fun h11 => gd (isHm h11) (if (gi (z4.1 h11) 0) ≤ (z4.2 + 1) then bX0_drawTelling_76 z4.1 0 z4.2 s0 else bX0_drawTelling_76 z4.1 (z4.2 + 1) z4.2 s0) else if v1 = 3 then (fX0_polishOne z4.1 z4.2).bind fun z9 => some (z9.1) else (fX0_isThere z4.1 z4.2).bind fun z5 => if z5 = 0 then (fX0_bringBack z4.1 z4.2).bind fun z6 => some (z6.1) else (fX0_stealOne z4.1 z4.2).bind fun z7 => some (z7.1) else (fX0_tellOne z4.1 s0 z4.2).bind fun z15 => some (z15.1))
set_option maxRecDepth 100000 in
set_option maxHeartbeats 4000000 in
theorem wX0_drawTelling_20 {p : Program} {l : Launch} {e : Env} {s : State} {m : MethodId} {args : Array Value} {below : List Frame} {meth : Method} {c : Code} {Γ : Gm} {A : Nat → Prop} {g : Gs} {v1 : Int32} {s0 : Int32} {q : Gs} {fin : Gs} (C : Cx p s m args meth c yX0_drawTelling cX0_drawTelling 4 none Γ A) (hf : bX0_drawTelling_20 g v1 s0 = some q) (hq : (fun x => x = fin) q) : Wk p l e { frames := 3, cells := 0, slots := 0, locals := 68 } s m args below meth c Γ A fin none 20 4 [(0, .ref (ad Γ 1)), (1, .int v1)] [.int s0] g := by
  intro H locs ls hw hS hl
  unfold bX0_drawTelling_20 at hf
  obtain ⟨hx, hb, hml, hr, hown, htw, hlocks, hE⟩ := id C
  have hown : s.vm.findClass RX0 = some m.cls := hown
  refine lv_istore_n (lv' := [(2, .int s0), (0, .ref (ad Γ 1)), (1, .int v1)]) hx hb dX0_drawTelling_20 rfl hl (by decide) rfl (fun ls hl => ?_)
  refine lv_aload_n hx hb dX0_drawTelling_21 rfl (lv_at hl 1 rfl) ?_
  refine lv_aload_n hx hb dX0_drawTelling_22 rfl (lv_at hl 1 rfl) ?_
  refine va_get (ci := 0) (v := .ref (ad Γ (gr (g 1) 0))) (C := RX0) (T := TX0) (N := 12) hx hb htw uwX0 hown hE.1 (hw _ _ (wf_1 hE)) 0 rfl rfl 0 (by decide) (htw _ mw336) (fun _ h9 => h9) rfl dX0_drawTelling_23 ?_
  obtain ⟨h2, hh2, hf⟩ := bd hf
  have hh2 := Option.some.inj hh2
  refine tp1r hh2 ?_
  obtain ⟨g3, hf⟩ := gd_some hf
  refine va_get (ci := 2) (v := .int (gi (g h2) 0)) (C := RX2) (T := TX2) (N := 11) hx hb htw uwX2 hown hE.1 (hw _ _ (hm_kd hE g3)) 0 rfl rfl 0 (by decide) (htw _ mw162) (fun _ h9 => h9) rfl dX0_drawTelling_26 ?_
  obtain ⟨z4, hz4, hf⟩ := bd hf
  refine cl_Vs (rest := []) (kX0_drawBelow (l := l) (Γ := Γ) (A := A) hz4) ⟨hx, hb, hml, hown, htw⟩ hE hw hS (hw _ _ (wf_1 hE)) (q0 := 0) rfl rfl mw1067 mw1069 mw38 mw124 mw1070 pdX0_drawBelow ⟨Nat.le_of_ble_eq_true rfl, Nat.le_of_ble_eq_true rfl⟩ rfl rfl hl.1 (Nat.le_of_ble_eq_true rfl) dX0_drawTelling_29 (fun H locs hw hS => ?_)
  refine lv_istore_n (lv' := [(3, .int z4.2), (2, .int s0), (0, .ref (ad Γ 1)), (1, .int v1)]) hx hb dX0_drawTelling_32 rfl hl (by decide) rfl (fun ls hl => ?_)
  refine lv_iload_n hx hb dX0_drawTelling_33 rfl (lv_at hl 3 rfl) ?_
  refine lv_iconst (v := 1) hx hb dX0_drawTelling_34 (by decide) ?_
  refine lv_icmp_gt (tgt := 48) hx hb dX0_drawTelling_35 (by decide) (fun c16 => ?_) (fun c16 => ?_)
  · have hf := ifp c16 hf
    refine lv_iload_n hx hb dX0_drawTelling_48 rfl (lv_at hl 3 rfl) ?_
    refine lv_iconst (v := 2) hx hb dX0_drawTelling_49 (by decide) ?_
    refine lv_icmp_ne (tgt := 83) hx hb dX0_drawTelling_50 (by decide) (fun c14 => ?_) (fun c14 => ?_)
    · have hf := ifn c14 hf
      refine lv_iload_n hx hb dX0_drawTelling_83 rfl (lv_at hl 3 rfl) ?_
      refine lv_iconst (v := 3) hx hb dX0_drawTelling_84 (by decide) ?_
      refine lv_icmp_ne (tgt := 97) hx hb dX0_drawTelling_85 (by decide) (fun c10 => ?_) (fun c10 => ?_)
      · have hf := ifn c10 hf
        refine lv_aload_n hx hb dX0_drawTelling_97 rfl (lv_at hl 2 rfl) ?_
        refine lv_iload_n hx hb dX0_drawTelling_98 rfl (lv_at hl 0 rfl) ?_
        obtain ⟨z5, hz5, hf⟩ := bd hf
        refine cl_Vs (rest := []) (kX0_isThere (l := l) (Γ := Γ) (A := A) hz5) ⟨hx, hb, hml, hown, htw⟩ hE hw hS (hw _ _ (wf_1 hE)) (q0 := 0) rfl rfl mw772 mw774 mw23 mw124 mw775 pdX0_isThere ⟨Nat.le_of_ble_eq_true rfl, Nat.le_of_ble_eq_true rfl⟩ rfl rfl hl.1 (Nat.le_of_ble_eq_true rfl) dX0_drawTelling_99 (fun H locs hw hS => ?_)
        refine lv_if_eq (tgt := 114) hx hb dX0_drawTelling_102 (by decide) (fun c8 => ?_) (fun c8 => ?_)
        · have hf := ifp c8 hf
          refine lv_aload_n hx hb dX0_drawTelling_114 rfl (lv_at hl 2 rfl) ?_
          refine lv_iload_n hx hb dX0_drawTelling_115 rfl (lv_at hl 0 rfl) ?_
          obtain ⟨z6, hz6, hf⟩ := bd hf
          refine cl_Vs (rest := []) (kX0_bringBack (l := l) (Γ := Γ) (A := A) hz6) ⟨hx, hb, hml, hown, htw⟩ hE hw hS (hw _ _ (wf_1 hE)) (q0 := 0) rfl rfl mw799 mw801 mw29 mw124 mw802 pdX0_bringBack ⟨Nat.le_of_ble_eq_true rfl, Nat.le_of_ble_eq_true rfl⟩ rfl rfl hl.1 (Nat.le_of_ble_eq_true rfl) dX0_drawTelling_116 (fun H locs hw hS => ?_)
          refine lv_pop hx hb dX0_drawTelling_119 rfl ?_
          obtain rfl := Option.some.inj hf
          subst hq
          exact rt_v C hw hS dX0_drawTelling_120
        · have hf := ifn c8 hf
          refine lv_aload_n hx hb dX0_drawTelling_105 rfl (lv_at hl 2 rfl) ?_
          refine lv_iload_n hx hb dX0_drawTelling_106 rfl (lv_at hl 0 rfl) ?_
          obtain ⟨z7, hz7, hf⟩ := bd hf
          refine cl_Vs (rest := []) (kX0_stealOne (l := l) (Γ := Γ) (A := A) hz7) ⟨hx, hb, hml, hown, htw⟩ hE hw hS (hw _ _ (wf_1 hE)) (q0 := 0) rfl rfl mw795 mw797 mw28 mw124 mw798 pdX0_stealOne ⟨Nat.le_of_ble_eq_true rfl, Nat.le_of_ble_eq_true rfl⟩ rfl rfl hl.1 (Nat.le_of_ble_eq_true rfl) dX0_drawTelling_107 (fun H locs hw hS => ?_)
          refine lv_pop hx hb dX0_drawTelling_110 rfl ?_
          refine lv_goto (tgt := 120) hx hb dX0_drawTelling_111 (by decide) ?_
          obtain rfl := Option.some.inj hf
          subst hq
          exact rt_v C hw hS dX0_drawTelling_120
      · have hf := ifp c10 hf
        refine lv_aload_n hx hb dX0_drawTelling_88 rfl (lv_at hl 2 rfl) ?_
        refine lv_iload_n hx hb dX0_drawTelling_89 rfl (lv_at hl 0 rfl) ?_
        obtain ⟨z9, hz9, hf⟩ := bd hf
        refine cl_Vs (rest := []) (kX0_polishOne (l := l) (Γ := Γ) (A := A) hz9) ⟨hx, hb, hml, hown, htw⟩ hE hw hS (hw _ _ (wf_1 hE)) (q0 := 0) rfl rfl mw791 mw793 mw27 mw124 mw794 pdX0_polishOne ⟨Nat.le_of_ble_eq_true rfl, Nat.le_of_ble_eq_true rfl⟩ rfl rfl hl.1 (Nat.le_of_ble_eq_true rfl) dX0_drawTelling_90 (fun H locs hw hS => ?_)
        refine lv_pop hx hb dX0_drawTelling_93 rfl ?_
        refine lv_goto (tgt := 120) hx hb dX0_drawTelling_94 (by decide) ?_
        obtain rfl := Option.some.inj hf
        subst hq
        exact rt_v C hw hS dX0_drawTelling_120
    · have hf := ifp c14 hf
      refine lv_aload_n hx hb dX0_drawTelling_53 rfl (lv_at hl 2 rfl) ?_
      refine lv_iload_n hx hb dX0_drawTelling_54 rfl (lv_at hl 1 rfl) ?_
      refine lv_iload_n hx hb dX0_drawTelling_55 rfl (lv_at hl 0 rfl) ?_
      refine lv_iload_n hx hb dX0_drawTelling_56 rfl (lv_at hl 0 rfl) ?_
      refine lv_iconst (v := 1) hx hb dX0_drawTelling_57 (by decide) ?_
      refine lv_iadd hx hb dX0_drawTelling_58 ?_
      refine lv_aload_n hx hb dX0_drawTelling_59 rfl (lv_at hl 2 rfl) ?_
      refine va_get (ci := 0) (v := .ref (ad Γ (gr (z4.1 1) 0))) (C := RX0) (T := TX0) (N := 12) hx hb htw uwX0 hown hE.1 (hw _ _ (wf_1 hE)) 0 rfl rfl 0 (by decide) (htw _ mw336) (fun _ h9 => h9) rfl dX0_drawTelling_60 ?_
      obtain ⟨h11, hh11, hf⟩ := bd hf
      have hh11 := Option.some.inj hh11
      refine tp1r hh11 ?_
      obtain ⟨g12, hf⟩ := gd_some hf
      refine va_get (ci := 2) (v := .int (gi (z4.1 h11) 0)) (C := RX2) (T := TX2) (N := 11) hx hb htw uwX2 hown hE.1 (hw _ _ (hm_kd hE g12)) 0 rfl rfl 0 (by decide) (htw _ mw162) (fun _ h9 => h9) rfl dX0_drawTelling_63 ?_
      refine lv_icmp_ge (tgt := 75) hx hb dX0_drawTelling_66 (by decide) (fun c13 => ?_) (fun c13 => ?_)
      · have hf := ifp c13 hf
        refine lv_iconst (v := 0) hx hb dX0_drawTelling_75 (by decide) ?_
        exact wX0_drawTelling_76 C hf hq H locs ls hw hS (lv_sub hl [] rfl)
      · have hf := ifn c13 hf
        refine lv_iload_n hx hb dX0_drawTelling_69 rfl (lv_at hl 0 rfl) ?_
        refine lv_iconst (v := 1) hx hb dX0_drawTelling_70 (by decide) ?_
        refine lv_iadd hx hb dX0_drawTelling_71 ?_
        refine lv_goto (tgt := 76) hx hb dX0_drawTelling_72 (by decide) ?_
        exact wX0_drawTelling_76 C hf hq H locs ls hw hS (lv_sub hl [] rfl)
  · have hf := ifn c16 hf
    refine lv_aload_n hx hb dX0_drawTelling_38 rfl (lv_at hl 2 rfl) ?_
    refine lv_iload_n hx hb dX0_drawTelling_39 rfl (lv_at hl 1 rfl) ?_
    refine lv_iload_n hx hb dX0_drawTelling_40 rfl (lv_at hl 0 rfl) ?_
    obtain ⟨z15, hz15, hf⟩ := bd hf
    refine cl_Vs (rest := []) (kX0_tellOne (l := l) (Γ := Γ) (A := A) hz15) ⟨hx, hb, hml, hown, htw⟩ hE hw hS (hw _ _ (wf_1 hE)) (q0 := 0) rfl rfl mw767 mw769 mw22 mw124 mw770 pdX0_tellOne ⟨Nat.le_of_ble_eq_true rfl, Nat.le_of_ble_eq_true rfl⟩ rfl rfl hl.1 (Nat.le_of_ble_eq_true rfl) dX0_drawTelling_41 (fun H locs hw hS => ?_)
    refine lv_pop hx hb dX0_drawTelling_44 rfl ?_
    refine lv_goto (tgt := 120) hx hb dX0_drawTelling_45 (by decide) ?_
    obtain rfl := Option.some.inj hf
    subst hq
    exact rt_v C hw hS dX0_drawTelling_120

noncomputable def fX0_drawTelling (g : Gs) (v1 : Int32) : Option Gs :=
  if 2 < v1 then bX0_drawTelling_20 g v1 (-1) else (some (gr (g 1) 0)).bind fun h17 => gd (isHm h17) ((fX0_drawBelow g (gi (g h17) 1)).bind fun z19 => bX0_drawTelling_20 z19.1 v1 z19.2)
set_option maxRecDepth 100000 in
set_option maxHeartbeats 4000000 in
theorem wX0_drawTelling_e {p : Program} {l : Launch} {e : Env} {s : State} {m : MethodId} {args : Array Value} {below : List Frame} {meth : Method} {c : Code} {Γ : Gm} {A : Nat → Prop} {g : Gs} {v1 : Int32} {q : Gs} {fin : Gs} (C : Cx p s m args meth c yX0_drawTelling cX0_drawTelling 4 none Γ A) (hf : fX0_drawTelling g v1 = some q) (hq : (fun x => x = fin) q) : Wk p l e { frames := 3, cells := 0, slots := 0, locals := 68 } s m args below meth c Γ A fin none 0 4 [(0, .ref (ad Γ 1)), (1, .int v1)] [] g := by
  intro H locs ls hw hS hl
  unfold fX0_drawTelling at hf
  obtain ⟨hx, hb, hml, hr, hown, htw, hlocks, hE⟩ := id C
  have hown : s.vm.findClass RX0 = some m.cls := hown
  refine lv_iload_n hx hb dX0_drawTelling_0 rfl (lv_at hl 1 rfl) ?_
  refine lv_iconst (v := 2) hx hb dX0_drawTelling_1 (by decide) ?_
  refine lv_icmp_gt (tgt := 19) hx hb dX0_drawTelling_2 (by decide) (fun c20 => ?_) (fun c20 => ?_)
  · have hf := ifp c20 hf
    refine lv_iconst (v := (-1)) hx hb dX0_drawTelling_19 (by decide) ?_
    exact wX0_drawTelling_20 C hf hq H locs ls hw hS hl
  · have hf := ifn c20 hf
    refine lv_aload_n hx hb dX0_drawTelling_5 rfl (lv_at hl 0 rfl) ?_
    refine lv_aload_n hx hb dX0_drawTelling_6 rfl (lv_at hl 0 rfl) ?_
    refine va_get (ci := 0) (v := .ref (ad Γ (gr (g 1) 0))) (C := RX0) (T := TX0) (N := 12) hx hb htw uwX0 hown hE.1 (hw _ _ (wf_1 hE)) 0 rfl rfl 0 (by decide) (htw _ mw336) (fun _ h9 => h9) rfl dX0_drawTelling_7 ?_
    obtain ⟨h17, hh17, hf⟩ := bd hf
    have hh17 := Option.some.inj hh17
    refine tp1r hh17 ?_
    obtain ⟨g18, hf⟩ := gd_some hf
    refine va_get (ci := 2) (v := .int (gi (g h17) 1)) (C := RX2) (T := TX2) (N := 11) hx hb htw uwX2 hown hE.1 (hw _ _ (hm_kd hE g18)) 0 rfl rfl 1 (by decide) (htw _ mw170) (fun _ h9 => h9) rfl dX0_drawTelling_10 ?_
    obtain ⟨z19, hz19, hf⟩ := bd hf
    refine cl_Vs (rest := []) (kX0_drawBelow (l := l) (Γ := Γ) (A := A) hz19) ⟨hx, hb, hml, hown, htw⟩ hE hw hS (hw _ _ (wf_1 hE)) (q0 := 0) rfl rfl mw1067 mw1069 mw38 mw124 mw1070 pdX0_drawBelow ⟨Nat.le_of_ble_eq_true rfl, Nat.le_of_ble_eq_true rfl⟩ rfl rfl hl.1 (Nat.le_of_ble_eq_true rfl) dX0_drawTelling_13 (fun H locs hw hS => ?_)
    refine lv_goto (tgt := 20) hx hb dX0_drawTelling_16 (by decide) ?_
    exact wX0_drawTelling_20 C hf hq H locs ls hw hS hl

theorem kX0_drawTelling {l : Launch} {Γ : Gm} {A : Nat → Prop} {g : Gs} {v1 : Int32} {fin : Gs} (hf : fX0_drawTelling g v1 = some fin) : Kt l yX0_drawTelling cX0_drawTelling 4 none 3 68 Γ A g fin [.ref (ad Γ 1), .int v1] none :=
  kt_of (by decide) (Nat.le_of_ble_eq_true rfl) (fun p e s m args below meth c C => wX0_drawTelling_e C hf rfl)
noncomputable def bX0_drawDeed_26 (g : Gs) (v1 : Int32) : Option Gs :=
  (some (gr (g 1) 0)).bind fun h1 => gd (isHm h1) (if (gi (g h1) 1) ≤ 0 then some (g) else (some (gr (g 1) 0)).bind fun h3 => gd (isHm h3) (if (gi (g h3) 0) ≤ 0 then some (g) else (fX0_drawTelling g v1).bind fun z5 => some (z5)))
set_option maxRecDepth 100000 in
set_option maxHeartbeats 4000000 in
theorem wX0_drawDeed_26 {p : Program} {l : Launch} {e : Env} {s : State} {m : MethodId} {args : Array Value} {below : List Frame} {meth : Method} {c : Code} {Γ : Gm} {A : Nat → Prop} {g : Gs} {v1 : Int32} {q : Gs} {fin : Gs} (C : Cx p s m args meth c yX0_drawDeed cX0_drawDeed 2 none Γ A) (hf : bX0_drawDeed_26 g v1 = some q) (hq : (fun x => x = fin) q) : Wk p l e { frames := 4, cells := 0, slots := 0, locals := 91 } s m args below meth c Γ A fin none 26 2 [(0, .ref (ad Γ 1)), (1, .int v1)] [] g := by
  intro H locs ls hw hS hl
  unfold bX0_drawDeed_26 at hf
  obtain ⟨hx, hb, hml, hr, hown, htw, hlocks, hE⟩ := id C
  have hown : s.vm.findClass RX0 = some m.cls := hown
  refine lv_aload_n hx hb dX0_drawDeed_26 rfl (lv_at hl 0 rfl) ?_
  refine va_get (ci := 0) (v := .ref (ad Γ (gr (g 1) 0))) (C := RX0) (T := TX0) (N := 12) hx hb htw uwX0 hown hE.1 (hw _ _ (wf_1 hE)) 0 rfl rfl 0 (by decide) (htw _ mw336) (fun _ h9 => h9) rfl dX0_drawDeed_27 ?_
  obtain ⟨h1, hh1, hf⟩ := bd hf
  have hh1 := Option.some.inj hh1
  refine tp1r hh1 ?_
  obtain ⟨g2, hf⟩ := gd_some hf
  refine va_get (ci := 2) (v := .int (gi (g h1) 1)) (C := RX2) (T := TX2) (N := 11) hx hb htw uwX2 hown hE.1 (hw _ _ (hm_kd hE g2)) 0 rfl rfl 1 (by decide) (htw _ mw170) (fun _ h9 => h9) rfl dX0_drawDeed_30 ?_
  refine lv_if_le (tgt := 51) hx hb dX0_drawDeed_33 (by decide) (fun c7 => ?_) (fun c7 => ?_)
  · have hf := ifp c7 hf
    obtain rfl := Option.some.inj hf
    subst hq
    exact rt_v C hw hS dX0_drawDeed_51
  · have hf := ifn c7 hf
    refine lv_aload_n hx hb dX0_drawDeed_36 rfl (lv_at hl 0 rfl) ?_
    refine va_get (ci := 0) (v := .ref (ad Γ (gr (g 1) 0))) (C := RX0) (T := TX0) (N := 12) hx hb htw uwX0 hown hE.1 (hw _ _ (wf_1 hE)) 0 rfl rfl 0 (by decide) (htw _ mw336) (fun _ h9 => h9) rfl dX0_drawDeed_37 ?_
    obtain ⟨h3, hh3, hf⟩ := bd hf
    have hh3 := Option.some.inj hh3
    refine tp1r hh3 ?_
    obtain ⟨g4, hf⟩ := gd_some hf
    refine va_get (ci := 2) (v := .int (gi (g h3) 0)) (C := RX2) (T := TX2) (N := 11) hx hb htw uwX2 hown hE.1 (hw _ _ (hm_kd hE g4)) 0 rfl rfl 0 (by decide) (htw _ mw162) (fun _ h9 => h9) rfl dX0_drawDeed_40 ?_
    refine lv_if_le (tgt := 51) hx hb dX0_drawDeed_43 (by decide) (fun c6 => ?_) (fun c6 => ?_)
    · have hf := ifp c6 hf
      obtain rfl := Option.some.inj hf
      subst hq
      exact rt_v C hw hS dX0_drawDeed_51
    · have hf := ifn c6 hf
      refine lv_aload_n hx hb dX0_drawDeed_46 rfl (lv_at hl 0 rfl) ?_
      refine lv_iload_n hx hb dX0_drawDeed_47 rfl (lv_at hl 1 rfl) ?_
      obtain ⟨z5, hz5, hf⟩ := bd hf
      refine cl_Vv (rest := []) (kX0_drawTelling (l := l) (Γ := Γ) (A := A) hz5) ⟨hx, hb, hml, hown, htw⟩ hE hw hS (hw _ _ (wf_1 hE)) (q0 := 0) rfl rfl mw1072 mw1074 mw39 mw124 mw1075 pdX0_drawTelling ⟨Nat.le_of_ble_eq_true rfl, Nat.le_of_ble_eq_true rfl⟩ rfl rfl hl.1 (Nat.le_of_ble_eq_true rfl) dX0_drawDeed_48 (fun H locs hw hS => ?_)
      obtain rfl := Option.some.inj hf
      subst hq
      exact rt_v C hw hS dX0_drawDeed_51

noncomputable def fX0_drawDeed (g : Gs) : Option Gs :=
  (fX0_drawBelow g 8).bind fun z8 => if z8.2 < 4 then bX0_drawDeed_26 z8.1 z8.2 else if 6 < z8.2 then bX0_drawDeed_26 z8.1 z8.2 else (fX0_passHour z8.1).bind fun z9 => some (z9.1)
set_option maxRecDepth 100000 in
set_option maxHeartbeats 4000000 in
theorem wX0_drawDeed_e {p : Program} {l : Launch} {e : Env} {s : State} {m : MethodId} {args : Array Value} {below : List Frame} {meth : Method} {c : Code} {Γ : Gm} {A : Nat → Prop} {g : Gs} {q : Gs} {fin : Gs} (C : Cx p s m args meth c yX0_drawDeed cX0_drawDeed 2 none Γ A) (hf : fX0_drawDeed g = some q) (hq : (fun x => x = fin) q) : Wk p l e { frames := 4, cells := 0, slots := 0, locals := 91 } s m args below meth c Γ A fin none 0 2 [(0, .ref (ad Γ 1))] [] g := by
  intro H locs ls hw hS hl
  unfold fX0_drawDeed at hf
  obtain ⟨hx, hb, hml, hr, hown, htw, hlocks, hE⟩ := id C
  have hown : s.vm.findClass RX0 = some m.cls := hown
  refine lv_aload_n hx hb dX0_drawDeed_0 rfl (lv_at hl 0 rfl) ?_
  refine lv_bipush (v := 8) hx hb dX0_drawDeed_1 (by decide) ?_
  obtain ⟨z8, hz8, hf⟩ := bd hf
  refine cl_Vs (rest := []) (kX0_drawBelow (l := l) (Γ := Γ) (A := A) hz8) ⟨hx, hb, hml, hown, htw⟩ hE hw hS (hw _ _ (wf_1 hE)) (q0 := 0) rfl rfl mw1067 mw1069 mw38 mw124 mw1070 pdX0_drawBelow ⟨Nat.le_of_ble_eq_true rfl, Nat.le_of_ble_eq_true rfl⟩ rfl rfl hl.1 (Nat.le_of_ble_eq_true rfl) dX0_drawDeed_3 (fun H locs hw hS => ?_)
  refine lv_istore_n (lv' := [(1, .int z8.2), (0, .ref (ad Γ 1))]) hx hb dX0_drawDeed_6 rfl hl (by decide) rfl (fun ls hl => ?_)
  refine lv_iload_n hx hb dX0_drawDeed_7 rfl (lv_at hl 0 rfl) ?_
  refine lv_iconst (v := 4) hx hb dX0_drawDeed_8 (by decide) ?_
  refine lv_icmp_lt (tgt := 26) hx hb dX0_drawDeed_9 (by decide) (fun c11 => ?_) (fun c11 => ?_)
  · have hf := ifp c11 hf
    exact wX0_drawDeed_26 C hf hq H locs ls hw hS (lv_sub hl [1, 0] rfl)
  · have hf := ifn c11 hf
    refine lv_iload_n hx hb dX0_drawDeed_12 rfl (lv_at hl 0 rfl) ?_
    refine lv_bipush (v := 6) hx hb dX0_drawDeed_13 (by decide) ?_
    refine lv_icmp_gt (tgt := 26) hx hb dX0_drawDeed_15 (by decide) (fun c10 => ?_) (fun c10 => ?_)
    · have hf := ifp c10 hf
      exact wX0_drawDeed_26 C hf hq H locs ls hw hS (lv_sub hl [1, 0] rfl)
    · have hf := ifn c10 hf
      refine lv_aload_n hx hb dX0_drawDeed_18 rfl (lv_at hl 1 rfl) ?_
      obtain ⟨z9, hz9, hf⟩ := bd hf
      refine cl_Vs (rest := []) (kX0_passHour (l := l) (Γ := Γ) (A := A) hz9) ⟨hx, hb, hml, hown, htw⟩ hE hw hS (hw _ _ (wf_1 hE)) (q0 := 0) rfl rfl mw803 mw805 mw30 mw124 mw806 pdX0_passHour ⟨Nat.le_of_ble_eq_true rfl, Nat.le_of_ble_eq_true rfl⟩ rfl rfl hl.1 (Nat.le_of_ble_eq_true rfl) dX0_drawDeed_19 (fun H locs hw hS => ?_)
      refine lv_pop hx hb dX0_drawDeed_22 rfl ?_
      refine lv_goto (tgt := 51) hx hb dX0_drawDeed_23 (by decide) ?_
      obtain rfl := Option.some.inj hf
      subst hq
      exact rt_v C hw hS dX0_drawDeed_51

theorem kX0_drawDeed {l : Launch} {Γ : Gm} {A : Nat → Prop} {g : Gs} {fin : Gs} (hf : fX0_drawDeed g = some fin) : Kt l yX0_drawDeed cX0_drawDeed 2 none 4 91 Γ A g fin [.ref (ad Γ 1)] none :=
  kt_of (by decide) (Nat.le_of_ble_eq_true rfl) (fun p e s m args below meth c C => wX0_drawDeed_e C hf rfl)
noncomputable def bX0_draw_13 (g : Gs) (v3 : Int32) (v4 : Int32) : Option ((Int32 × Gs) ⊕ Gs) :=
  if v3 ≤ v4 then some (.inr (g)) else (fX0_drawDeed g).bind fun z1 => some (.inl (v4 + 1, z1))
set_option maxRecDepth 100000 in
set_option maxHeartbeats 4000000 in
theorem wX0_draw_13 {p : Program} {l : Launch} {e : Env} {s : State} {m : MethodId} {args : Array Value} {below : List Frame} {meth : Method} {c : Code} {Γ : Gm} {A : Nat → Prop} {g : Gs} {v3 : Int32} {v4 : Int32} {q : ((Int32 × Gs) ⊕ Gs)} {fin : Gs} (C : Cx p s m args meth c yX0_draw cX0_draw 5 none Γ A) (hf : bX0_draw_13 g v3 v4 = some q) (hq : (KC (fun st : Int32 × Gs => Wk p l e { frames := 5, cells := 0, slots := 0, locals := 112 } s m args below meth c Γ A fin none 13 5 [(0, .ref (ad Γ 1)), (3, .int v3), (4, .int st.1)] [] st.2) (fun x => x = fin)) q) : Wk p l e { frames := 5, cells := 0, slots := 0, locals := 112 } s m args below meth c Γ A fin none 13 5 [(0, .ref (ad Γ 1)), (3, .int v3), (4, .int v4)] [] g := by
  intro H locs ls hw hS hl
  unfold bX0_draw_13 at hf
  obtain ⟨hx, hb, hml, hr, hown, htw, hlocks, hE⟩ := id C
  have hown : s.vm.findClass RX0 = some m.cls := hown
  refine lv_iload hx hb dX0_draw_13 (lv_at hl 2 rfl) ?_
  refine lv_iload_n hx hb dX0_draw_15 rfl (lv_at hl 1 rfl) ?_
  refine lv_icmp_ge (tgt := 29) hx hb dX0_draw_16 (by decide) (fun c2 => ?_) (fun c2 => ?_)
  · have hf := ifp c2 hf
    obtain rfl := Option.some.inj hf
    have hq := hq.2 _ rfl
    subst hq
    exact rt_v C hw hS dX0_draw_29
  · have hf := ifn c2 hf
    refine lv_aload_n hx hb dX0_draw_19 rfl (lv_at hl 0 rfl) ?_
    obtain ⟨z1, hz1, hf⟩ := bd hf
    refine cl_Vv (rest := []) (kX0_drawDeed (l := l) (Γ := Γ) (A := A) hz1) ⟨hx, hb, hml, hown, htw⟩ hE hw hS (hw _ _ (wf_1 hE)) (q0 := 0) rfl rfl mw1063 mw1065 mw37 mw124 mw1066 pdX0_drawDeed ⟨Nat.le_of_ble_eq_true rfl, Nat.le_of_ble_eq_true rfl⟩ rfl rfl hl.1 (Nat.le_of_ble_eq_true rfl) dX0_draw_20 (fun H locs hw hS => ?_)
    refine lv_iinc (v := v4 + 1) (lv' := [(4, .int (v4 + 1)), (0, .ref (ad Γ 1)), (3, .int v3)]) hx hb dX0_draw_23 hl (k := 2) rfl (by rfl) (by decide) rfl (fun ls hl => ?_)
    refine lv_goto (tgt := 13) hx hb dX0_draw_26 (by decide) ?_
    obtain rfl := Option.some.inj hf
    exact hq.1 _ rfl H locs ls hw hS (lv_sub hl [1, 2, 0] rfl)

set_option maxRecDepth 100000 in
set_option maxHeartbeats 4000000 in
theorem lwX0_draw_13 {p : Program} {l : Launch} {e : Env} {s : State} {m : MethodId} {args : Array Value} {below : List Frame} {meth : Method} {c : Code} {Γ : Gm} {A : Nat → Prop} {g : Gs} {v3 : Int32} {v4 : Int32} {q : Gs} {fin : Gs} (C : Cx p s m args meth c yX0_draw cX0_draw 5 none Γ A) (hf : iter (fun st : Int32 × Gs => bX0_draw_13 st.2 v3 st.1) (v4, g) = some q) (hq : (fun x => x = fin) q) : Wk p l e { frames := 5, cells := 0, slots := 0, locals := 112 } s m args below meth c Γ A fin none 13 5 [(0, .ref (ad Γ 1)), (3, .int v3), (4, .int v4)] [] g := by
  intro H locs ls hw hS hl
  refine iter_walk (P := (fun st : Int32 × Gs => Wk p l e { frames := 5, cells := 0, slots := 0, locals := 112 } s m args below meth c Γ A fin none 13 5 [(0, .ref (ad Γ 1)), (3, .int v3), (4, .int st.1)] [] st.2)) (K := (fun x => x = fin)) (fun st q hq1 h1 h2 => ?_) hf hq H locs ls hw hS hl
  exact wX0_draw_13 (g := st.2) (v4 := st.1) C hq1 ⟨h1, h2⟩

noncomputable def fX0_draw (g : Gs) (v1 : Nat) (v2 : Int32) (v3 : Int32) : Option Gs :=
  (fX0_begin g v1).bind fun z3 => (some (ug z3 1 (si (z3 1) 8 v2))).bind fun g4 => iter (fun st : Int32 × Gs => bX0_draw_13 st.2 v3 st.1) (0, g4)
set_option maxRecDepth 100000 in
set_option maxHeartbeats 4000000 in
theorem wX0_draw_e {p : Program} {l : Launch} {e : Env} {s : State} {m : MethodId} {args : Array Value} {below : List Frame} {meth : Method} {c : Code} {Γ : Gm} {A : Nat → Prop} {g : Gs} {v1 : Nat} {v2 : Int32} {v3 : Int32} {q : Gs} {fin : Gs} (C : Cx p s m args meth c yX0_draw cX0_draw 5 none Γ A) (hv1 : kd Γ v1 = some 2) (hf : fX0_draw g v1 v2 v3 = some q) (hq : (fun x => x = fin) q) : Wk p l e { frames := 5, cells := 0, slots := 0, locals := 112 } s m args below meth c Γ A fin none 0 5 [(0, .ref (ad Γ 1)), (1, .ref (ad Γ v1)), (2, .int v2), (3, .int v3)] [] g := by
  intro H locs ls hw hS hl
  unfold fX0_draw at hf
  obtain ⟨hx, hb, hml, hr, hown, htw, hlocks, hE⟩ := id C
  have hown : s.vm.findClass RX0 = some m.cls := hown
  refine lv_aload_n hx hb dX0_draw_0 rfl (lv_at hl 0 rfl) ?_
  refine lv_aload_n hx hb dX0_draw_1 rfl (lv_at hl 1 rfl) ?_
  obtain ⟨z3, hz3, hf⟩ := bd hf
  refine cl_Vv (rest := []) (kX0_begin (l := l) (Γ := Γ) (A := A) hv1 hz3) ⟨hx, hb, hml, hown, htw⟩ hE hw hS (hw _ _ (wf_1 hE)) (q0 := 0) rfl rfl mw743 mw745 mw17 mw124 mw746 pdX0_begin ⟨Nat.le_of_ble_eq_true rfl, Nat.le_of_ble_eq_true rfl⟩ rfl rfl hl.1 (Nat.le_of_ble_eq_true rfl) dX0_draw_2 (fun H locs hw hS => ?_)
  refine lv_aload_n hx hb dX0_draw_5 rfl (lv_at hl 0 rfl) ?_
  refine lv_iload_n hx hb dX0_draw_6 rfl (lv_at hl 2 rfl) ?_
  obtain ⟨g4, hg4, hf⟩ := bd hf
  have hg4 := Option.some.inj hg4
  refine wo_putG (C := RX0) (T := TX0) (N := 12) (v := .int v2) (ty := .int) hx hb htw uwX0 tyX0 tyX0_ok nmX0 hown hE hw hS (wf_1 hE) rfl rfl 8 (by decide) (htw _ mw344) (fun _ h9 => h9) rfl (tyX0_ok 8 (by decide)) rfl rfl (Nat.le_of_ble_eq_true rfl) (st0_8 rfl) hg4 dX0_draw_7 (fun H locs hw hS => ?_)
  refine lv_iconst (v := 0) hx hb dX0_draw_10 (by decide) ?_
  refine lv_istore (lv' := [(4, .int 0), (0, .ref (ad Γ 1)), (1, .ref (ad Γ v1)), (2, .int v2), (3, .int v3)]) hx hb dX0_draw_11 hl (by decide) rfl (fun ls hl => ?_)
  exact lwX0_draw_13 C hf hq H locs ls hw hS (lv_sub hl [1, 4, 0] rfl)

theorem kX0_draw {l : Launch} {Γ : Gm} {A : Nat → Prop} {g : Gs} {v1 : Nat} {v2 : Int32} {v3 : Int32} {fin : Gs} (hv1 : kd Γ v1 = some 2) (hf : fX0_draw g v1 v2 v3 = some fin) : Kt l yX0_draw cX0_draw 5 none 5 112 Γ A g fin [.ref (ad Γ 1), .ref (ad Γ v1), .int v2, .int v3] none :=
  kt_of (by decide) (Nat.le_of_ble_eq_true rfl) (fun p e s m args below meth c C => wX0_draw_e C hv1 hf rfl)
noncomputable def fX9_weightOfCode (v0 : Int32) : Option Int32 :=
  some ((v0 - v0 / 30 * 30) + 1)
set_option maxRecDepth 100000 in
set_option maxHeartbeats 4000000 in
theorem wX9_weightOfCode_e {p : Program} {l : Launch} {e : Env} {s : State} {m : MethodId} {args : Array Value} {below : List Frame} {meth : Method} {c : Code} {Γ : Gm} {A : Nat → Prop} {G : Gs} {v0 : Int32} {q : Int32} {fin : Int32} (C : Cx p s m args meth c yX9_weightOfCode cX9_weightOfCode 1 (some .int) Γ A) (hf : fX9_weightOfCode v0 = some q) (hq : (fun x => x = fin) q) : Wk p l e { frames := 0, cells := 0, slots := 0, locals := 0 } s m args below meth c Γ A G (some (.int fin)) 0 1 [(0, .int v0)] [] G := by
  intro H locs ls hw hS hl
  unfold fX9_weightOfCode at hf
  obtain ⟨hx, hb, hml, hr, hown, htw, hlocks, hE⟩ := id C
  have hown : s.vm.findClass RX9 = some m.cls := hown
  refine lv_iload_n hx hb dX9_weightOfCode_0 rfl (lv_at hl 0 rfl) ?_
  refine lv_bipush (v := 30) hx hb dX9_weightOfCode_1 (by decide) ?_
  refine lv_irem hx hb dX9_weightOfCode_3 (by decide) ?_
  refine lv_iconst (v := 1) hx hb dX9_weightOfCode_4 (by decide) ?_
  refine lv_iadd hx hb dX9_weightOfCode_5 ?_
  obtain rfl := Option.some.inj hf
  subst hq
  exact rt_i C hw hS dX9_weightOfCode_6

theorem kX9_weightOfCode {l : Launch} {Γ : Gm} {A : Nat → Prop} {G : Gs} {v0 : Int32} {fin : Int32} (hf : fX9_weightOfCode v0 = some fin) : Kt l yX9_weightOfCode cX9_weightOfCode 1 (some .int) 0 0 Γ A G G [.int v0] (some (.int fin)) :=
  kt_of (by decide) (Nat.le_of_ble_eq_true rfl) (fun p e s m args below meth c C => wX9_weightOfCode_e C hf rfl)
noncomputable def fX9_kindOfCode (v0 : Int32) : Option Int32 :=
  some (v0 / 30)
set_option maxRecDepth 100000 in
set_option maxHeartbeats 4000000 in
theorem wX9_kindOfCode_e {p : Program} {l : Launch} {e : Env} {s : State} {m : MethodId} {args : Array Value} {below : List Frame} {meth : Method} {c : Code} {Γ : Gm} {A : Nat → Prop} {G : Gs} {v0 : Int32} {q : Int32} {fin : Int32} (C : Cx p s m args meth c yX9_kindOfCode cX9_kindOfCode 1 (some .int) Γ A) (hf : fX9_kindOfCode v0 = some q) (hq : (fun x => x = fin) q) : Wk p l e { frames := 0, cells := 0, slots := 0, locals := 0 } s m args below meth c Γ A G (some (.int fin)) 0 1 [(0, .int v0)] [] G := by
  intro H locs ls hw hS hl
  unfold fX9_kindOfCode at hf
  obtain ⟨hx, hb, hml, hr, hown, htw, hlocks, hE⟩ := id C
  have hown : s.vm.findClass RX9 = some m.cls := hown
  refine lv_iload_n hx hb dX9_kindOfCode_0 rfl (lv_at hl 0 rfl) ?_
  refine lv_bipush (v := 30) hx hb dX9_kindOfCode_1 (by decide) ?_
  refine lv_idiv hx hb dX9_kindOfCode_3 (by decide) ?_
  obtain rfl := Option.some.inj hf
  subst hq
  exact rt_i C hw hS dX9_kindOfCode_4

theorem kX9_kindOfCode {l : Launch} {Γ : Gm} {A : Nat → Prop} {G : Gs} {v0 : Int32} {fin : Int32} (hf : fX9_kindOfCode v0 = some fin) : Kt l yX9_kindOfCode cX9_kindOfCode 1 (some .int) 0 0 Γ A G G [.int v0] (some (.int fin)) :=
  kt_of (by decide) (Nat.le_of_ble_eq_true rfl) (fun p e s m args below meth c C => wX9_kindOfCode_e C hf rfl)
noncomputable def fX9_hoursLeft (v0 : Int32) (v1 : Int32) : Option Int32 :=
  if 0 < v0 then if 0 < v1 then gd (nz v1) ((some (((v0 + v1) - 1) / v1)).bind fun x2 => (some (mni 60 x2)).bind fun x3 => some (x3)) else some (60) else some (0)
set_option maxRecDepth 100000 in
set_option maxHeartbeats 4000000 in
theorem wX9_hoursLeft_e {p : Program} {l : Launch} {e : Env} {s : State} {m : MethodId} {args : Array Value} {below : List Frame} {meth : Method} {c : Code} {Γ : Gm} {A : Nat → Prop} {G : Gs} {v0 : Int32} {v1 : Int32} {q : Int32} {fin : Int32} (C : Cx p s m args meth c yX9_hoursLeft cX9_hoursLeft 2 (some .int) Γ A) (hf : fX9_hoursLeft v0 v1 = some q) (hq : (fun x => x = fin) q) : Wk p l e { frames := 1, cells := 0, slots := 0, locals := 21 } s m args below meth c Γ A G (some (.int fin)) 0 2 [(0, .int v0), (1, .int v1)] [] G := by
  intro H locs ls hw hS hl
  unfold fX9_hoursLeft at hf
  obtain ⟨hx, hb, hml, hr, hown, htw, hlocks, hE⟩ := id C
  have hown : s.vm.findClass RX9 = some m.cls := hown
  refine lv_iload_n hx hb dX9_hoursLeft_0 rfl (lv_at hl 0 rfl) ?_
  refine lv_if_gt (tgt := 6) hx hb dX9_hoursLeft_1 (by decide) (fun c5 => ?_) (fun c5 => ?_)
  · have hf := ifp c5 hf
    refine lv_iload_n hx hb dX9_hoursLeft_6 rfl (lv_at hl 1 rfl) ?_
    refine lv_if_gt (tgt := 15) hx hb dX9_hoursLeft_7 (by decide) (fun c4 => ?_) (fun c4 => ?_)
    · have hf := ifp c4 hf
      refine lv_bipush (v := 60) hx hb dX9_hoursLeft_15 (by decide) ?_
      refine lv_iload_n hx hb dX9_hoursLeft_17 rfl (lv_at hl 0 rfl) ?_
      refine lv_iload_n hx hb dX9_hoursLeft_18 rfl (lv_at hl 1 rfl) ?_
      refine lv_iadd hx hb dX9_hoursLeft_19 ?_
      refine lv_iconst (v := 1) hx hb dX9_hoursLeft_20 (by decide) ?_
      refine lv_isub hx hb dX9_hoursLeft_21 ?_
      refine lv_iload_n hx hb dX9_hoursLeft_22 rfl (lv_at hl 1 rfl) ?_
      obtain ⟨g1, hf⟩ := gd_some hf
      refine lv_idiv hx hb dX9_hoursLeft_23 (nz_ne g1) ?_
      obtain ⟨x2, hx2, hf⟩ := bd hf
      have hx2 := Option.some.inj hx2
      refine tp1i hx2 ?_
      refine va_mmin hx hb (hml.trans hl.1.symm) hown (htw _ mw1026) (htw _ mw222) (htw _ mw122) (htw _ mw223) (Nat.le_of_ble_eq_true rfl) (Nat.le_of_ble_eq_true rfl) (Nat.le_refl _) (Nat.le_refl _) dX9_hoursLeft_24 ?_
      obtain ⟨x3, hx3, hf⟩ := bd hf
      have hx3 := Option.some.inj hx3
      refine tp1i hx3 ?_
      obtain rfl := Option.some.inj hf
      subst hq
      exact rt_i C hw hS dX9_hoursLeft_27
    · have hf := ifn c4 hf
      refine lv_bipush (v := 60) hx hb dX9_hoursLeft_10 (by decide) ?_
      refine lv_goto (tgt := 27) hx hb dX9_hoursLeft_12 (by decide) ?_
      obtain rfl := Option.some.inj hf
      subst hq
      exact rt_i C hw hS dX9_hoursLeft_27
  · have hf := ifn c5 hf
    refine lv_iconst (v := 0) hx hb dX9_hoursLeft_4 (by decide) ?_
    obtain rfl := Option.some.inj hf
    subst hq
    exact rt_i C hw hS dX9_hoursLeft_5

theorem kX9_hoursLeft {l : Launch} {Γ : Gm} {A : Nat → Prop} {G : Gs} {v0 : Int32} {v1 : Int32} {fin : Int32} (hf : fX9_hoursLeft v0 v1 = some fin) : Kt l yX9_hoursLeft cX9_hoursLeft 2 (some .int) 1 21 Γ A G G [.int v0, .int v1] (some (.int fin)) :=
  kt_of (by decide) (Nat.le_of_ble_eq_true rfl) (fun p e s m args below meth c C => wX9_hoursLeft_e C hf rfl)
noncomputable def bX2_hoursTold_32 (r : Rec) (v2 : Int32) (s0 : Int32) (s1 : Int32) : Option Int32 :=
  (fX9_worthOf s1 s0 0).bind fun z1 => gd (inR v2 8) ((fX9_hoursLeft z1 (ga r 4 (Int32.toNatClampNeg v2))).bind fun z3 => some (z3))
set_option maxRecDepth 100000 in
set_option maxHeartbeats 4000000 in
theorem wX2_hoursTold_32 {p : Program} {l : Launch} {e : Env} {s : State} {m : MethodId} {args : Array Value} {below : List Frame} {meth : Method} {c : Code} {Γ : Gm} {A : Nat → Prop} {G : Gs} {o : Nat} {r : Rec} {v2 : Int32} {s0 : Int32} {s1 : Int32} {q : Int32} {fin : Int32} (C : Cx p s m args meth c yX2_hoursTold cX2_hoursTold 3 (some .int) Γ A) (hk : kd Γ o = some 2) (hf : bX2_hoursTold_32 r v2 s0 s1 = some q) (hq : (fun x => x = fin) q) : Wk p l e { frames := 2, cells := 0, slots := 0, locals := 42 } s m args below meth c Γ A (ug G o r) (some (.int fin)) 32 3 [(0, .ref (ad Γ o)), (2, .int v2)] [.int s0, .int s1] (ug G o r) := by
  intro H locs ls hw hS hl
  unfold bX2_hoursTold_32 at hf
  obtain ⟨hx, hb, hml, hr, hown, htw, hlocks, hE⟩ := id C
  have hown : s.vm.findClass RX2 = some m.cls := hown
  refine lv_iconst (v := 0) hx hb dX2_hoursTold_32 (by decide) ?_
  obtain ⟨z1, hz1, hf⟩ := bd hf
  refine cl_SN (rest := []) (kX9_worthOf (l := l) (Γ := Γ) (A := A) (G := (ug G o r)) hz1) ⟨hx, hb, hml, hown, htw⟩ hE hw hS (nw9 hE.2.2.1) mw720 mw118 mw721 pdX9_worthOf ⟨Nat.le_of_ble_eq_true rfl, Nat.le_of_ble_eq_true rfl⟩ rfl rfl hl.1 (Nat.le_of_ble_eq_true rfl) dX2_hoursTold_33 (fun H locs hw hS => ?_)
  refine lv_aload_n hx hb dX2_hoursTold_36 rfl (lv_at hl 0 rfl) ?_
  refine va_get (ci := 2) (v := .ref (aa Γ o 4)) (C := RX2) (T := TX2) (N := 11) hx hb htw uwX2 hown hE.1 (wo_me hw hk) 0 rfl rfl 4 (by decide) (htw _ mw175) (fun _ h9 => h9) rfl dX2_hoursTold_37 ?_
  refine lv_iload_n hx hb dX2_hoursTold_40 rfl (lv_at hl 1 rfl) ?_
  obtain ⟨g2, hf⟩ := gd_some hf
  refine va_iald hx hb hE.1 (wo_me hw hk) 2 0 rfl rfl (inR_in g2) dX2_hoursTold_41 ?_
  obtain ⟨z3, hz3, hf⟩ := bd hf
  refine cl_SN (rest := []) (kX9_hoursLeft (l := l) (Γ := Γ) (A := A) (G := (ug G o r)) hz3) ⟨hx, hb, hml, hown, htw⟩ hE hw hS (nw17 hE.2.2.1) mw1024 mw118 mw1025 pdX9_hoursLeft ⟨Nat.le_of_ble_eq_true rfl, Nat.le_of_ble_eq_true rfl⟩ rfl rfl hl.1 (Nat.le_of_ble_eq_true rfl) dX2_hoursTold_42 (fun H locs hw hS => ?_)
  obtain rfl := Option.some.inj hf
  subst hq
  exact rt_i C hw hS dX2_hoursTold_45

noncomputable def fX2_hoursTold (r : Rec) (v1 : Int32) (v2 : Int32) : Option Int32 :=
  (fX2_hasPiece r v2).bind fun z4 => if z4 = 0 then some (0) else (fX9_weightOfCode v1).bind fun z5 => (fX9_kindOfCode v1).bind fun z6 => gd (inR v2 8) (if z6 = (ga r 3 (Int32.toNatClampNeg v2)) then bX2_hoursTold_32 r v2 1 z5 else bX2_hoursTold_32 r v2 0 z5)
set_option maxRecDepth 100000 in
set_option maxHeartbeats 4000000 in
theorem wX2_hoursTold_e {p : Program} {l : Launch} {e : Env} {s : State} {m : MethodId} {args : Array Value} {below : List Frame} {meth : Method} {c : Code} {Γ : Gm} {A : Nat → Prop} {G : Gs} {o : Nat} {r : Rec} {v1 : Int32} {v2 : Int32} {q : Int32} {fin : Int32} (C : Cx p s m args meth c yX2_hoursTold cX2_hoursTold 3 (some .int) Γ A) (hk : kd Γ o = some 2) (hf : fX2_hoursTold r v1 v2 = some q) (hq : (fun x => x = fin) q) : Wk p l e { frames := 2, cells := 0, slots := 0, locals := 42 } s m args below meth c Γ A (ug G o r) (some (.int fin)) 0 3 [(0, .ref (ad Γ o)), (1, .int v1), (2, .int v2)] [] (ug G o r) := by
  intro H locs ls hw hS hl
  unfold fX2_hoursTold at hf
  obtain ⟨hx, hb, hml, hr, hown, htw, hlocks, hE⟩ := id C
  have hown : s.vm.findClass RX2 = some m.cls := hown
  refine lv_aload_n hx hb dX2_hoursTold_0 rfl (lv_at hl 0 rfl) ?_
  refine lv_iload_n hx hb dX2_hoursTold_1 rfl (lv_at hl 2 rfl) ?_
  obtain ⟨z4, hz4, hf⟩ := bd hf
  refine cl_Vs (rest := []) (kX2_hasPiece (l := l) (Γ := Γ) (A := A) (G := G) (o := o) hk hz4) ⟨hx, hb, hml, hown, htw⟩ hE hw hS (wo_me hw hk) (q0 := 0) rfl rfl mw682 mw683 mw684 mw120 mw685 pdX2_hasPiece ⟨Nat.le_of_ble_eq_true rfl, Nat.le_of_ble_eq_true rfl⟩ rfl rfl hl.1 (Nat.le_of_ble_eq_true rfl) dX2_hoursTold_2 (fun H locs hw hS => ?_)
  refine lv_if_ne (tgt := 10) hx hb dX2_hoursTold_5 (by decide) (fun c9 => ?_) (fun c9 => ?_)
  · have hf := ifn c9 hf
    refine lv_iload_n hx hb dX2_hoursTold_10 rfl (lv_at hl 1 rfl) ?_
    obtain ⟨z5, hz5, hf⟩ := bd hf
    refine cl_SN (rest := []) (kX9_weightOfCode (l := l) (Γ := Γ) (A := A) (G := (ug G o r)) hz5) ⟨hx, hb, hml, hown, htw⟩ hE hw hS (nw15 hE.2.2.1) mw1018 mw118 mw1019 pdX9_weightOfCode ⟨Nat.le_of_ble_eq_true rfl, Nat.le_of_ble_eq_true rfl⟩ rfl rfl hl.1 (Nat.le_of_ble_eq_true rfl) dX2_hoursTold_11 (fun H locs hw hS => ?_)
    refine lv_iload_n hx hb dX2_hoursTold_14 rfl (lv_at hl 1 rfl) ?_
    obtain ⟨z6, hz6, hf⟩ := bd hf
    refine cl_SN (rest := [.int z5]) (kX9_kindOfCode (l := l) (Γ := Γ) (A := A) (G := (ug G o r)) hz6) ⟨hx, hb, hml, hown, htw⟩ hE hw hS (nw16 hE.2.2.1) mw1021 mw118 mw1022 pdX9_kindOfCode ⟨Nat.le_of_ble_eq_true rfl, Nat.le_of_ble_eq_true rfl⟩ rfl rfl hl.1 (Nat.le_of_ble_eq_true rfl) dX2_hoursTold_15 (fun H locs hw hS => ?_)
    refine lv_aload_n hx hb dX2_hoursTold_18 rfl (lv_at hl 0 rfl) ?_
    refine va_get (ci := 2) (v := .ref (aa Γ o 3)) (C := RX2) (T := TX2) (N := 11) hx hb htw uwX2 hown hE.1 (wo_me hw hk) 0 rfl rfl 3 (by decide) (htw _ mw173) (fun _ h9 => h9) rfl dX2_hoursTold_19 ?_
    refine lv_iload_n hx hb dX2_hoursTold_22 rfl (lv_at hl 2 rfl) ?_
    obtain ⟨g7, hf⟩ := gd_some hf
    refine va_iald hx hb hE.1 (wo_me hw hk) 1 0 rfl rfl (inR_in g7) dX2_hoursTold_23 ?_
    refine lv_icmp_ne (tgt := 31) hx hb dX2_hoursTold_24 (by decide) (fun c8 => ?_) (fun c8 => ?_)
    · have hf := ifn c8 hf
      refine lv_iconst (v := 0) hx hb dX2_hoursTold_31 (by decide) ?_
      exact wX2_hoursTold_32 C hk hf hq H locs ls hw hS (lv_sub hl [0, 2] rfl)
    · have hf := ifp c8 hf
      refine lv_iconst (v := 1) hx hb dX2_hoursTold_27 (by decide) ?_
      refine lv_goto (tgt := 32) hx hb dX2_hoursTold_28 (by decide) ?_
      exact wX2_hoursTold_32 C hk hf hq H locs ls hw hS (lv_sub hl [0, 2] rfl)
  · have hf := ifp c9 hf
    refine lv_iconst (v := 0) hx hb dX2_hoursTold_8 (by decide) ?_
    obtain rfl := Option.some.inj hf
    subst hq
    exact rt_i C hw hS dX2_hoursTold_9

theorem kX2_hoursTold {l : Launch} {Γ : Gm} {A : Nat → Prop} {G : Gs} {o : Nat} {r : Rec} {v1 : Int32} {v2 : Int32} {fin : Int32} (hk : kd Γ o = some 2) (hf : fX2_hoursTold r v1 v2 = some fin) : Kt l yX2_hoursTold cX2_hoursTold 3 (some .int) 2 42 Γ A (ug G o r) (ug G o r) [.ref (ad Γ o), .int v1, .int v2] (some (.int fin)) :=
  kt_of (by decide) (Nat.le_of_ble_eq_true rfl) (fun p e s m args below meth c C => wX2_hoursTold_e C hk hf rfl)
theorem kgX2_hoursTold {l : Launch} {Γ : Gm} {A : Nat → Prop} {G : Gs} {o : Nat} {v1 : Int32} {v2 : Int32} {fin : Int32} (hk : kd Γ o = some 2) (hf : fX2_hoursTold (G o) v1 v2 = some fin) : Kt l yX2_hoursTold cX2_hoursTold 3 (some .int) 2 42 Γ A G G [.ref (ad Γ o), .int v1, .int v2] (some (.int fin)) := by
  have h := kX2_hoursTold (l := l) (A := A) (G := G) (r := G o) hk hf
  rw [ug_self] at h
  exact h
noncomputable def bX1_isFit_2 (g : Gs) (v0 : Nat) (v1 : Nat) (v2 : Int32) (v3 : Int32) : Option (Int32 ⊕ Int32) :=
  if (gi (g v1) 2) ≤ v3 then some (.inr (1)) else (fX5_cell (g v1) v3 1).bind fun z1 => (fX2_hoursTold (g v0) v2 z1).bind fun z2 => (fX5_cell (g v1) v3 2).bind fun z3 => if z2 = z3 then some (.inl (v3 + 1)) else some (.inr (0))
set_option maxRecDepth 100000 in
set_option maxHeartbeats 4000000 in
theorem wX1_isFit_2 {p : Program} {l : Launch} {e : Env} {s : State} {m : MethodId} {args : Array Value} {below : List Frame} {meth : Method} {c : Code} {Γ : Gm} {A : Nat → Prop} {g : Gs} {v0 : Nat} {v1 : Nat} {v2 : Int32} {v3 : Int32} {q : (Int32 ⊕ Int32)} {fin : Int32} (C : Cx p s m args meth c yX1_isFit cX1_isFit 4 (some .boolean) Γ A) (hv0 : kd Γ v0 = some 2) (hv1 : kd Γ v1 = some 5) (hf : bX1_isFit_2 g v0 v1 v2 v3 = some q) (hq : (KC (fun st : Int32 => Wk p l e { frames := 3, cells := 0, slots := 0, locals := 64 } s m args below meth c Γ A g (some (.int fin)) 2 4 [(0, .ref (ad Γ v0)), (1, .ref (ad Γ v1)), (2, .int v2), (3, .int st)] [] g) (fun x => x = fin)) q) : Wk p l e { frames := 3, cells := 0, slots := 0, locals := 64 } s m args below meth c Γ A g (some (.int fin)) 2 4 [(0, .ref (ad Γ v0)), (1, .ref (ad Γ v1)), (2, .int v2), (3, .int v3)] [] g := by
  intro H locs ls hw hS hl
  unfold bX1_isFit_2 at hf
  obtain ⟨hx, hb, hml, hr, hown, htw, hlocks, hE⟩ := id C
  have hown : s.vm.findClass RX1 = some m.cls := hown
  refine lv_iload_n hx hb dX1_isFit_2 rfl (lv_at hl 3 rfl) ?_
  refine lv_aload_n hx hb dX1_isFit_3 rfl (lv_at hl 1 rfl) ?_
  refine va_get (ci := 5) (v := .int (gi (g v1) 2)) (C := RX5) (T := TX5) (N := 3) hx hb htw uwX5 hown hE.1 (hw _ _ hv1) 0 rfl rfl 2 (by decide) (htw _ mw231) (fun _ h9 => h9) rfl dX1_isFit_4 ?_
  refine lv_icmp_ge (tgt := 38) hx hb dX1_isFit_7 (by decide) (fun c5 => ?_) (fun c5 => ?_)
  · have hf := ifp c5 hf
    refine lv_iconst (v := 1) hx hb dX1_isFit_38 (by decide) ?_
    obtain rfl := Option.some.inj hf
    have hq := hq.2 _ rfl
    subst hq
    exact rt_z C (Or.inr rfl) hw hS dX1_isFit_39
  · have hf := ifn c5 hf
    refine lv_aload_n hx hb dX1_isFit_10 rfl (lv_at hl 0 rfl) ?_
    refine lv_iload_n hx hb dX1_isFit_11 rfl (lv_at hl 2 rfl) ?_
    refine lv_aload_n hx hb dX1_isFit_12 rfl (lv_at hl 1 rfl) ?_
    refine lv_iload_n hx hb dX1_isFit_13 rfl (lv_at hl 3 rfl) ?_
    refine lv_iconst (v := 1) hx hb dX1_isFit_14 (by decide) ?_
    obtain ⟨z1, hz1, hf⟩ := bd hf
    refine cl_Vs (rest := [.int v2, .ref (ad Γ v0)]) (kgX5_cell (l := l) (Γ := Γ) (A := A) (G := g) (o := v1) hv1 hz1) ⟨hx, hb, hml, hown, htw⟩ hE hw hS (hw _ _ hv1) (q0 := 0) rfl rfl mw1012 mw731 mw732 mw121 mw733 pdX5_cell ⟨Nat.le_of_ble_eq_true rfl, Nat.le_of_ble_eq_true rfl⟩ rfl rfl hl.1 (Nat.le_of_ble_eq_true rfl) dX1_isFit_15 (fun H locs hw hS => ?_)
    obtain ⟨z2, hz2, hf⟩ := bd hf
    refine cl_Vs (rest := []) (kgX2_hoursTold (l := l) (Γ := Γ) (A := A) (G := g) (o := v0) hv0 hz2) ⟨hx, hb, hml, hown, htw⟩ hE hw hS (hw _ _ hv0) (q0 := 0) rfl rfl mw1013 mw1014 mw1015 mw120 mw1016 pdX2_hoursTold ⟨Nat.le_of_ble_eq_true rfl, Nat.le_of_ble_eq_true rfl⟩ rfl rfl hl.1 (Nat.le_of_ble_eq_true rfl) dX1_isFit_18 (fun H locs hw hS => ?_)
    refine lv_aload_n hx hb dX1_isFit_21 rfl (lv_at hl 1 rfl) ?_
    refine lv_iload_n hx hb dX1_isFit_22 rfl (lv_at hl 3 rfl) ?_
    refine lv_iconst (v := 2) hx hb dX1_isFit_23 (by decide) ?_
    obtain ⟨z3, hz3, hf⟩ := bd hf
    refine cl_Vs (rest := [.int z2]) (kgX5_cell (l := l) (Γ := Γ) (A := A) (G := g) (o := v1) hv1 hz3) ⟨hx, hb, hml, hown, htw⟩ hE hw hS (hw _ _ hv1) (q0 := 0) rfl rfl mw1012 mw731 mw732 mw121 mw733 pdX5_cell ⟨Nat.le_of_ble_eq_true rfl, Nat.le_of_ble_eq_true rfl⟩ rfl rfl hl.1 (Nat.le_of_ble_eq_true rfl) dX1_isFit_24 (fun H locs hw hS => ?_)
    refine lv_icmp_eq (tgt := 32) hx hb dX1_isFit_27 (by decide) (fun c4 => ?_) (fun c4 => ?_)
    · have hf := ifp c4 hf
      refine lv_iinc (v := v3 + 1) (lv' := [(3, .int (v3 + 1)), (0, .ref (ad Γ v0)), (1, .ref (ad Γ v1)), (2, .int v2)]) hx hb dX1_isFit_32 hl (k := 3) rfl (by rfl) (by decide) rfl (fun ls hl => ?_)
      refine lv_goto (tgt := 2) hx hb dX1_isFit_35 (by decide) ?_
      obtain rfl := Option.some.inj hf
      exact hq.1 _ rfl H locs ls hw hS (lv_sub hl [1, 2, 3, 0] rfl)
    · have hf := ifn c4 hf
      refine lv_iconst (v := 0) hx hb dX1_isFit_30 (by decide) ?_
      obtain rfl := Option.some.inj hf
      have hq := hq.2 _ rfl
      subst hq
      exact rt_z C (Or.inl rfl) hw hS dX1_isFit_31

set_option maxRecDepth 100000 in
set_option maxHeartbeats 4000000 in
theorem lwX1_isFit_2 {p : Program} {l : Launch} {e : Env} {s : State} {m : MethodId} {args : Array Value} {below : List Frame} {meth : Method} {c : Code} {Γ : Gm} {A : Nat → Prop} {g : Gs} {v0 : Nat} {v1 : Nat} {v2 : Int32} {v3 : Int32} {q : Int32} {fin : Int32} (C : Cx p s m args meth c yX1_isFit cX1_isFit 4 (some .boolean) Γ A) (hv0 : kd Γ v0 = some 2) (hv1 : kd Γ v1 = some 5) (hf : iter (fun st : Int32 => bX1_isFit_2 g v0 v1 v2 st) v3 = some q) (hq : (fun x => x = fin) q) : Wk p l e { frames := 3, cells := 0, slots := 0, locals := 64 } s m args below meth c Γ A g (some (.int fin)) 2 4 [(0, .ref (ad Γ v0)), (1, .ref (ad Γ v1)), (2, .int v2), (3, .int v3)] [] g := by
  intro H locs ls hw hS hl
  refine iter_walk (P := (fun st : Int32 => Wk p l e { frames := 3, cells := 0, slots := 0, locals := 64 } s m args below meth c Γ A g (some (.int fin)) 2 4 [(0, .ref (ad Γ v0)), (1, .ref (ad Γ v1)), (2, .int v2), (3, .int st)] [] g)) (K := (fun x => x = fin)) (fun st q hq1 h1 h2 => ?_) hf hq H locs ls hw hS hl
  exact wX1_isFit_2 (v3 := st) C hv0 hv1 hq1 ⟨h1, h2⟩

noncomputable def fX1_isFit (g : Gs) (v0 : Nat) (v1 : Nat) (v2 : Int32) : Option Int32 :=
  iter (fun st : Int32 => bX1_isFit_2 g v0 v1 v2 st) 0
set_option maxRecDepth 100000 in
set_option maxHeartbeats 4000000 in
theorem wX1_isFit_e {p : Program} {l : Launch} {e : Env} {s : State} {m : MethodId} {args : Array Value} {below : List Frame} {meth : Method} {c : Code} {Γ : Gm} {A : Nat → Prop} {g : Gs} {v0 : Nat} {v1 : Nat} {v2 : Int32} {q : Int32} {fin : Int32} (C : Cx p s m args meth c yX1_isFit cX1_isFit 4 (some .boolean) Γ A) (hv0 : kd Γ v0 = some 2) (hv1 : kd Γ v1 = some 5) (hf : fX1_isFit g v0 v1 v2 = some q) (hq : (fun x => x = fin) q) : Wk p l e { frames := 3, cells := 0, slots := 0, locals := 64 } s m args below meth c Γ A g (some (.int fin)) 0 4 [(0, .ref (ad Γ v0)), (1, .ref (ad Γ v1)), (2, .int v2)] [] g := by
  intro H locs ls hw hS hl
  unfold fX1_isFit at hf
  obtain ⟨hx, hb, hml, hr, hown, htw, hlocks, hE⟩ := id C
  have hown : s.vm.findClass RX1 = some m.cls := hown
  refine lv_iconst (v := 0) hx hb dX1_isFit_0 (by decide) ?_
  refine lv_istore_n (lv' := [(3, .int 0), (0, .ref (ad Γ v0)), (1, .ref (ad Γ v1)), (2, .int v2)]) hx hb dX1_isFit_1 rfl hl (by decide) rfl (fun ls hl => ?_)
  exact lwX1_isFit_2 C hv0 hv1 hf hq H locs ls hw hS (lv_sub hl [1, 2, 3, 0] rfl)

theorem kX1_isFit {l : Launch} {Γ : Gm} {A : Nat → Prop} {g : Gs} {v0 : Nat} {v1 : Nat} {v2 : Int32} {fin : Int32} (hv0 : kd Γ v0 = some 2) (hv1 : kd Γ v1 = some 5) (hf : fX1_isFit g v0 v1 v2 = some fin) : Kt l yX1_isFit cX1_isFit 4 (some .boolean) 3 64 Γ A g g [.ref (ad Γ v0), .ref (ad Γ v1), .int v2] (some (.int fin)) :=
  kt_of (by decide) (Nat.le_of_ble_eq_true rfl) (fun p e s m args below meth c C => wX1_isFit_e C hv0 hv1 hf rfl)
noncomputable def bX1_gather_42 (g : Gs) (v1 : Nat) (v2 : Nat) (v3 : Int32) : Option ((Int32 × Gs) ⊕ Gs) :=
  some (.inl (v3 + 1, g))
set_option maxRecDepth 100000 in
set_option maxHeartbeats 4000000 in
theorem wX1_gather_42 {p : Program} {l : Launch} {e : Env} {s : State} {m : MethodId} {args : Array Value} {below : List Frame} {meth : Method} {c : Code} {Γ : Gm} {A : Nat → Prop} {g : Gs} {v1 : Nat} {v2 : Nat} {v3 : Int32} {q : ((Int32 × Gs) ⊕ Gs)} {fin : Gs} (C : Cx p s m args meth c yX1_gather cX1_gather 4 none Γ A) (hv1 : kd Γ v1 = some 2) (hv2 : kd Γ v2 = some 5) (hf : bX1_gather_42 g v1 v2 v3 = some q) (hq : (KC (fun st : Int32 × Gs => Wk p l e { frames := 4, cells := 0, slots := 0, locals := 87 } s m args below meth c Γ A fin none 7 4 [(0, .ref (ad Γ 101)), (1, .ref (ad Γ v1)), (2, .ref (ad Γ v2)), (3, .int st.1)] [] st.2) (fun x => x = fin)) q) : Wk p l e { frames := 4, cells := 0, slots := 0, locals := 87 } s m args below meth c Γ A fin none 42 4 [(0, .ref (ad Γ 101)), (1, .ref (ad Γ v1)), (2, .ref (ad Γ v2)), (3, .int v3)] [] g := by
  intro H locs ls hw hS hl
  unfold bX1_gather_42 at hf
  obtain ⟨hx, hb, hml, hr, hown, htw, hlocks, hE⟩ := id C
  have hown : s.vm.findClass RX1 = some m.cls := hown
  refine lv_iinc (v := v3 + 1) (lv' := [(3, .int (v3 + 1)), (0, .ref (ad Γ 101)), (1, .ref (ad Γ v1)), (2, .ref (ad Γ v2))]) hx hb dX1_gather_42 hl (k := 3) rfl (by rfl) (by decide) rfl (fun ls hl => ?_)
  refine lv_goto (tgt := 7) hx hb dX1_gather_45 (by decide) ?_
  obtain rfl := Option.some.inj hf
  exact hq.1 _ rfl H locs ls hw hS (lv_sub hl [1, 2, 3, 0] rfl)

noncomputable def bX1_gather_7 (g : Gs) (v1 : Nat) (v2 : Nat) (v3 : Int32) : Option ((Int32 × Gs) ⊕ Gs) :=
  if 120 ≤ v3 then some (.inr (g)) else (fX1_isFit g v1 v2 v3).bind fun z1 => if z1 = 0 then bX1_gather_42 g v1 v2 v3 else gd (inR (gi (g 101) 1) 120) ((some (ug g 101 (sa (g 101) 0 (upd (ga (g 101) 0) (Int32.toNatClampNeg (gi (g 101) 1)) v3)))).bind fun g3 => (some (ug g3 101 (si (g3 101) 1 ((gi (g3 101) 1) + 1)))).bind fun g4 => bX1_gather_42 g4 v1 v2 v3)
set_option maxRecDepth 100000 in
set_option maxHeartbeats 4000000 in
theorem wX1_gather_7 {p : Program} {l : Launch} {e : Env} {s : State} {m : MethodId} {args : Array Value} {below : List Frame} {meth : Method} {c : Code} {Γ : Gm} {A : Nat → Prop} {g : Gs} {v1 : Nat} {v2 : Nat} {v3 : Int32} {q : ((Int32 × Gs) ⊕ Gs)} {fin : Gs} (C : Cx p s m args meth c yX1_gather cX1_gather 4 none Γ A) (hv1 : kd Γ v1 = some 2) (hv2 : kd Γ v2 = some 5) (hf : bX1_gather_7 g v1 v2 v3 = some q) (hq : (KC (fun st : Int32 × Gs => Wk p l e { frames := 4, cells := 0, slots := 0, locals := 87 } s m args below meth c Γ A fin none 7 4 [(0, .ref (ad Γ 101)), (1, .ref (ad Γ v1)), (2, .ref (ad Γ v2)), (3, .int st.1)] [] st.2) (fun x => x = fin)) q) : Wk p l e { frames := 4, cells := 0, slots := 0, locals := 87 } s m args below meth c Γ A fin none 7 4 [(0, .ref (ad Γ 101)), (1, .ref (ad Γ v1)), (2, .ref (ad Γ v2)), (3, .int v3)] [] g := by
  intro H locs ls hw hS hl
  unfold bX1_gather_7 at hf
  obtain ⟨hx, hb, hml, hr, hown, htw, hlocks, hE⟩ := id C
  have hown : s.vm.findClass RX1 = some m.cls := hown
  refine lv_iload_n hx hb dX1_gather_7 rfl (lv_at hl 3 rfl) ?_
  refine lv_bipush (v := 120) hx hb dX1_gather_8 (by decide) ?_
  refine lv_icmp_ge (tgt := 48) hx hb dX1_gather_10 (by decide) (fun c6 => ?_) (fun c6 => ?_)
  · have hf := ifp c6 hf
    obtain rfl := Option.some.inj hf
    have hq := hq.2 _ rfl
    subst hq
    exact rt_v C hw hS dX1_gather_48
  · have hf := ifn c6 hf
    refine lv_aload_n hx hb dX1_gather_13 rfl (lv_at hl 1 rfl) ?_
    refine lv_aload_n hx hb dX1_gather_14 rfl (lv_at hl 2 rfl) ?_
    refine lv_iload_n hx hb dX1_gather_15 rfl (lv_at hl 3 rfl) ?_
    obtain ⟨z1, hz1, hf⟩ := bd hf
    refine cl_Ss (rest := []) (kX1_isFit (l := l) (Γ := Γ) (A := A) hv1 hv2 hz1) ⟨hx, hb, hml, hown, htw⟩ hE hw hS mw1009 mw1010 mw127 mw1011 pdX1_isFit ⟨Nat.le_of_ble_eq_true rfl, Nat.le_of_ble_eq_true rfl⟩ rfl rfl hl.1 (Nat.le_of_ble_eq_true rfl) dX1_gather_16 (fun H locs hw hS => ?_)
    refine lv_if_eq (tgt := 42) hx hb dX1_gather_19 (by decide) (fun c5 => ?_) (fun c5 => ?_)
    · have hf := ifp c5 hf
      exact wX1_gather_42 C hv1 hv2 hf hq H locs ls hw hS hl
    · have hf := ifn c5 hf
      refine lv_aload_n hx hb dX1_gather_22 rfl (lv_at hl 0 rfl) ?_
      refine va_get (ci := 1) (v := .ref (aa Γ 101 0)) (C := RX1) (T := TX1) (N := 3) hx hb htw uwX1 hown hE.1 (hw _ _ (wf_101 hE)) 0 rfl rfl 0 (by decide) (htw _ mw411) (fun _ h9 => h9) rfl dX1_gather_23 ?_
      refine lv_aload_n hx hb dX1_gather_26 rfl (lv_at hl 0 rfl) ?_
      refine va_get (ci := 1) (v := .int (gi (g 101) 1)) (C := RX1) (T := TX1) (N := 3) hx hb htw uwX1 hown hE.1 (hw _ _ (wf_101 hE)) 0 rfl rfl 1 (by decide) (htw _ mw413) (fun _ h9 => h9) rfl dX1_gather_27 ?_
      refine lv_iload_n hx hb dX1_gather_30 rfl (lv_at hl 3 rfl) ?_
      obtain ⟨g2, hf⟩ := gd_some hf
      obtain ⟨g3, hg3, hf⟩ := bd hf
      have hg3 := Option.some.inj hg3
      refine wo_iastG hx hb hE hw hS (wf_101 hE) (q0 := 1) rfl (inR_in g2) (sa1_0 rfl) hg3 dX1_gather_31 (fun H locs hw hS => ?_)
      refine lv_aload_n hx hb dX1_gather_32 rfl (lv_at hl 0 rfl) ?_
      refine lv_dup hx hb dX1_gather_33 rfl ?_
      refine va_get (ci := 1) (v := .int (gi (g3 101) 1)) (C := RX1) (T := TX1) (N := 3) hx hb htw uwX1 hown hE.1 (hw _ _ (wf_101 hE)) 0 rfl rfl 1 (by decide) (htw _ mw413) (fun _ h9 => h9) rfl dX1_gather_34 ?_
      refine lv_iconst (v := 1) hx hb dX1_gather_37 (by decide) ?_
      refine lv_iadd hx hb dX1_gather_38 ?_
      obtain ⟨g4, hg4, hf⟩ := bd hf
      have hg4 := Option.some.inj hg4
      refine wo_putG (C := RX1) (T := TX1) (N := 3) (v := .int ((gi (g3 101) 1) + 1)) (ty := .int) hx hb htw uwX1 tyX1 tyX1_ok nmX1 hown hE hw hS (wf_101 hE) rfl rfl 1 (by decide) (htw _ mw413) (fun _ h9 => h9) rfl (tyX1_ok 1 (by decide)) rfl rfl (Nat.le_of_ble_eq_true rfl) (st1_1 rfl) hg4 dX1_gather_39 (fun H locs hw hS => ?_)
      exact wX1_gather_42 C hv1 hv2 hf hq H locs ls hw hS hl

set_option maxRecDepth 100000 in
set_option maxHeartbeats 4000000 in
theorem lwX1_gather_7 {p : Program} {l : Launch} {e : Env} {s : State} {m : MethodId} {args : Array Value} {below : List Frame} {meth : Method} {c : Code} {Γ : Gm} {A : Nat → Prop} {g : Gs} {v1 : Nat} {v2 : Nat} {v3 : Int32} {q : Gs} {fin : Gs} (C : Cx p s m args meth c yX1_gather cX1_gather 4 none Γ A) (hv1 : kd Γ v1 = some 2) (hv2 : kd Γ v2 = some 5) (hf : iter (fun st : Int32 × Gs => bX1_gather_7 st.2 v1 v2 st.1) (v3, g) = some q) (hq : (fun x => x = fin) q) : Wk p l e { frames := 4, cells := 0, slots := 0, locals := 87 } s m args below meth c Γ A fin none 7 4 [(0, .ref (ad Γ 101)), (1, .ref (ad Γ v1)), (2, .ref (ad Γ v2)), (3, .int v3)] [] g := by
  intro H locs ls hw hS hl
  refine iter_walk (P := (fun st : Int32 × Gs => Wk p l e { frames := 4, cells := 0, slots := 0, locals := 87 } s m args below meth c Γ A fin none 7 4 [(0, .ref (ad Γ 101)), (1, .ref (ad Γ v1)), (2, .ref (ad Γ v2)), (3, .int st.1)] [] st.2)) (K := (fun x => x = fin)) (fun st q hq1 h1 h2 => ?_) hf hq H locs ls hw hS hl
  exact wX1_gather_7 (g := st.2) (v3 := st.1) C hv1 hv2 hq1 ⟨h1, h2⟩

noncomputable def fX1_gather (g : Gs) (v1 : Nat) (v2 : Nat) : Option Gs :=
  (some (ug g 101 (si (g 101) 1 0))).bind fun g7 => iter (fun st : Int32 × Gs => bX1_gather_7 st.2 v1 v2 st.1) (0, g7)
set_option maxRecDepth 100000 in
set_option maxHeartbeats 4000000 in
theorem wX1_gather_e {p : Program} {l : Launch} {e : Env} {s : State} {m : MethodId} {args : Array Value} {below : List Frame} {meth : Method} {c : Code} {Γ : Gm} {A : Nat → Prop} {g : Gs} {v1 : Nat} {v2 : Nat} {q : Gs} {fin : Gs} (C : Cx p s m args meth c yX1_gather cX1_gather 4 none Γ A) (hv1 : kd Γ v1 = some 2) (hv2 : kd Γ v2 = some 5) (hf : fX1_gather g v1 v2 = some q) (hq : (fun x => x = fin) q) : Wk p l e { frames := 4, cells := 0, slots := 0, locals := 87 } s m args below meth c Γ A fin none 0 4 [(0, .ref (ad Γ 101)), (1, .ref (ad Γ v1)), (2, .ref (ad Γ v2))] [] g := by
  intro H locs ls hw hS hl
  unfold fX1_gather at hf
  obtain ⟨hx, hb, hml, hr, hown, htw, hlocks, hE⟩ := id C
  have hown : s.vm.findClass RX1 = some m.cls := hown
  refine lv_aload_n hx hb dX1_gather_0 rfl (lv_at hl 0 rfl) ?_
  refine lv_iconst (v := 0) hx hb dX1_gather_1 (by decide) ?_
  obtain ⟨g7, hg7, hf⟩ := bd hf
  have hg7 := Option.some.inj hg7
  refine wo_putG (C := RX1) (T := TX1) (N := 3) (v := .int 0) (ty := .int) hx hb htw uwX1 tyX1 tyX1_ok nmX1 hown hE hw hS (wf_101 hE) rfl rfl 1 (by decide) (htw _ mw413) (fun _ h9 => h9) rfl (tyX1_ok 1 (by decide)) rfl rfl (Nat.le_of_ble_eq_true rfl) (st1_1 rfl) hg7 dX1_gather_2 (fun H locs hw hS => ?_)
  refine lv_iconst (v := 0) hx hb dX1_gather_5 (by decide) ?_
  refine lv_istore_n (lv' := [(3, .int 0), (0, .ref (ad Γ 101)), (1, .ref (ad Γ v1)), (2, .ref (ad Γ v2))]) hx hb dX1_gather_6 rfl hl (by decide) rfl (fun ls hl => ?_)
  exact lwX1_gather_7 C hv1 hv2 hf hq H locs ls hw hS (lv_sub hl [1, 2, 3, 0] rfl)

theorem kX1_gather {l : Launch} {Γ : Gm} {A : Nat → Prop} {g : Gs} {v1 : Nat} {v2 : Nat} {fin : Gs} (hv1 : kd Γ v1 = some 2) (hv2 : kd Γ v2 = some 5) (hf : fX1_gather g v1 v2 = some fin) : Kt l yX1_gather cX1_gather 4 none 4 87 Γ A g fin [.ref (ad Γ 101), .ref (ad Γ v1), .ref (ad Γ v2)] none :=
  kt_of (by decide) (Nat.le_of_ble_eq_true rfl) (fun p e s m args below meth c C => wX1_gather_e C hv1 hv2 hf rfl)
noncomputable def fX1_hasFit (g : Gs) (v1 : Int32) : Option Int32 :=
  if v1 < 0 then some (0) else if (gi (g 101) 1) ≤ v1 then some (0) else some (1)
set_option maxRecDepth 100000 in
set_option maxHeartbeats 4000000 in
theorem wX1_hasFit_e {p : Program} {l : Launch} {e : Env} {s : State} {m : MethodId} {args : Array Value} {below : List Frame} {meth : Method} {c : Code} {Γ : Gm} {A : Nat → Prop} {g : Gs} {v1 : Int32} {q : Int32} {fin : Int32} (C : Cx p s m args meth c yX1_hasFit cX1_hasFit 2 (some .boolean) Γ A) (hf : fX1_hasFit g v1 = some q) (hq : (fun x => x = fin) q) : Wk p l e { frames := 0, cells := 0, slots := 0, locals := 0 } s m args below meth c Γ A g (some (.int fin)) 0 2 [(0, .ref (ad Γ 101)), (1, .int v1)] [] g := by
  intro H locs ls hw hS hl
  unfold fX1_hasFit at hf
  obtain ⟨hx, hb, hml, hr, hown, htw, hlocks, hE⟩ := id C
  have hown : s.vm.findClass RX1 = some m.cls := hown
  refine lv_iload_n hx hb dX1_hasFit_0 rfl (lv_at hl 1 rfl) ?_
  refine lv_if_lt (tgt := 16) hx hb dX1_hasFit_1 (by decide) (fun c2 => ?_) (fun c2 => ?_)
  · have hf := ifp c2 hf
    refine lv_iconst (v := 0) hx hb dX1_hasFit_16 (by decide) ?_
    obtain rfl := Option.some.inj hf
    subst hq
    exact rt_z C (Or.inl rfl) hw hS dX1_hasFit_17
  · have hf := ifn c2 hf
    refine lv_iload_n hx hb dX1_hasFit_4 rfl (lv_at hl 1 rfl) ?_
    refine lv_aload_n hx hb dX1_hasFit_5 rfl (lv_at hl 0 rfl) ?_
    refine va_get (ci := 1) (v := .int (gi (g 101) 1)) (C := RX1) (T := TX1) (N := 3) hx hb htw uwX1 hown hE.1 (hw _ _ (wf_101 hE)) 0 rfl rfl 1 (by decide) (htw _ mw413) (fun _ h9 => h9) rfl dX1_hasFit_6 ?_
    refine lv_icmp_ge (tgt := 16) hx hb dX1_hasFit_9 (by decide) (fun c1 => ?_) (fun c1 => ?_)
    · have hf := ifp c1 hf
      refine lv_iconst (v := 0) hx hb dX1_hasFit_16 (by decide) ?_
      obtain rfl := Option.some.inj hf
      subst hq
      exact rt_z C (Or.inl rfl) hw hS dX1_hasFit_17
    · have hf := ifn c1 hf
      refine lv_iconst (v := 1) hx hb dX1_hasFit_12 (by decide) ?_
      refine lv_goto (tgt := 17) hx hb dX1_hasFit_13 (by decide) ?_
      obtain rfl := Option.some.inj hf
      subst hq
      exact rt_z C (Or.inr rfl) hw hS dX1_hasFit_17

theorem kX1_hasFit {l : Launch} {Γ : Gm} {A : Nat → Prop} {g : Gs} {v1 : Int32} {fin : Int32} (hf : fX1_hasFit g v1 = some fin) : Kt l yX1_hasFit cX1_hasFit 2 (some .boolean) 0 0 Γ A g g [.ref (ad Γ 101), .int v1] (some (.int fin)) :=
  kt_of (by decide) (Nat.le_of_ble_eq_true rfl) (fun p e s m args below meth c C => wX1_hasFit_e C hf rfl)
noncomputable def bX1_sureKind_39 (g : Gs) : Option Int32 :=
  if (gi (g 101) 1) = 0 then some ((-1)) else (fX9_kindOfCode (ga (g 101) 0 (Int32.toNatClampNeg 0))).bind fun z1 => some (z1)
set_option maxRecDepth 100000 in
set_option maxHeartbeats 4000000 in
theorem wX1_sureKind_39 {p : Program} {l : Launch} {e : Env} {s : State} {m : MethodId} {args : Array Value} {below : List Frame} {meth : Method} {c : Code} {Γ : Gm} {A : Nat → Prop} {g : Gs} {q : Int32} {fin : Int32} (C : Cx p s m args meth c yX1_sureKind cX1_sureKind 2 (some .int) Γ A) (hf : bX1_sureKind_39 g = some q) (hq : (fun x => x = fin) q) : Wk p l e { frames := 1, cells := 0, slots := 0, locals := 20 } s m args below meth c Γ A g (some (.int fin)) 39 2 [(0, .ref (ad Γ 101))] [] g := by
  intro H locs ls hw hS hl
  unfold bX1_sureKind_39 at hf
  obtain ⟨hx, hb, hml, hr, hown, htw, hlocks, hE⟩ := id C
  have hown : s.vm.findClass RX1 = some m.cls := hown
  refine lv_aload_n hx hb dX1_sureKind_39 rfl (lv_at hl 0 rfl) ?_
  refine va_get (ci := 1) (v := .int (gi (g 101) 1)) (C := RX1) (T := TX1) (N := 3) hx hb htw uwX1 hown hE.1 (hw _ _ (wf_101 hE)) 0 rfl rfl 1 (by decide) (htw _ mw413) (fun _ h9 => h9) rfl dX1_sureKind_40 ?_
  refine lv_if_ne (tgt := 50) hx hb dX1_sureKind_43 (by decide) (fun c2 => ?_) (fun c2 => ?_)
  · have hf := ifn c2 hf
    refine lv_aload_n hx hb dX1_sureKind_50 rfl (lv_at hl 0 rfl) ?_
    refine va_get (ci := 1) (v := .ref (aa Γ 101 0)) (C := RX1) (T := TX1) (N := 3) hx hb htw uwX1 hown hE.1 (hw _ _ (wf_101 hE)) 0 rfl rfl 0 (by decide) (htw _ mw411) (fun _ h9 => h9) rfl dX1_sureKind_51 ?_
    refine lv_iconst (v := 0) hx hb dX1_sureKind_54 (by decide) ?_
    refine va_iald hx hb hE.1 (hw _ _ (wf_101 hE)) 1 0 rfl rfl (inR_in (i := 0) (n := 120) (by decide)) dX1_sureKind_55 ?_
    obtain ⟨z1, hz1, hf⟩ := bd hf
    refine cl_SN (rest := []) (kX9_kindOfCode (l := l) (Γ := Γ) (A := A) (G := g) hz1) ⟨hx, hb, hml, hown, htw⟩ hE hw hS (nw18 hE.2.2.1) mw1021 mw118 mw1022 pdX9_kindOfCode ⟨Nat.le_of_ble_eq_true rfl, Nat.le_of_ble_eq_true rfl⟩ rfl rfl hl.1 (Nat.le_of_ble_eq_true rfl) dX1_sureKind_56 (fun H locs hw hS => ?_)
    obtain rfl := Option.some.inj hf
    subst hq
    exact rt_i C hw hS dX1_sureKind_59
  · have hf := ifp c2 hf
    refine lv_iconst (v := (-1)) hx hb dX1_sureKind_46 (by decide) ?_
    refine lv_goto (tgt := 59) hx hb dX1_sureKind_47 (by decide) ?_
    obtain rfl := Option.some.inj hf
    subst hq
    exact rt_i C hw hS dX1_sureKind_59

noncomputable def bX1_sureKind_2 (g : Gs) (v1 : Int32) : Option (Int32 ⊕ Int32) :=
  if (gi (g 101) 1) ≤ v1 then out1 (bX1_sureKind_39 g) else gd (inR v1 120) ((fX9_kindOfCode (ga (g 101) 0 (Int32.toNatClampNeg v1))).bind fun z5 => (fX9_kindOfCode (ga (g 101) 0 (Int32.toNatClampNeg 0))).bind fun z6 => if z5 = z6 then some (.inl (v1 + 1)) else some (.inr ((-1))))
set_option maxRecDepth 100000 in
set_option maxHeartbeats 4000000 in
theorem wX1_sureKind_2 {p : Program} {l : Launch} {e : Env} {s : State} {m : MethodId} {args : Array Value} {below : List Frame} {meth : Method} {c : Code} {Γ : Gm} {A : Nat → Prop} {g : Gs} {v1 : Int32} {q : (Int32 ⊕ Int32)} {fin : Int32} (C : Cx p s m args meth c yX1_sureKind cX1_sureKind 2 (some .int) Γ A) (hf : bX1_sureKind_2 g v1 = some q) (hq : (KC (fun st : Int32 => Wk p l e { frames := 1, cells := 0, slots := 0, locals := 20 } s m args below meth c Γ A g (some (.int fin)) 2 2 [(0, .ref (ad Γ 101)), (1, .int st)] [] g) (fun x => x = fin)) q) : Wk p l e { frames := 1, cells := 0, slots := 0, locals := 20 } s m args below meth c Γ A g (some (.int fin)) 2 2 [(0, .ref (ad Γ 101)), (1, .int v1)] [] g := by
  intro H locs ls hw hS hl
  unfold bX1_sureKind_2 at hf
  obtain ⟨hx, hb, hml, hr, hown, htw, hlocks, hE⟩ := id C
  have hown : s.vm.findClass RX1 = some m.cls := hown
  refine lv_iload_n hx hb dX1_sureKind_2 rfl (lv_at hl 1 rfl) ?_
  refine lv_aload_n hx hb dX1_sureKind_3 rfl (lv_at hl 0 rfl) ?_
  refine va_get (ci := 1) (v := .int (gi (g 101) 1)) (C := RX1) (T := TX1) (N := 3) hx hb htw uwX1 hown hE.1 (hw _ _ (wf_101 hE)) 0 rfl rfl 1 (by decide) (htw _ mw413) (fun _ h9 => h9) rfl dX1_sureKind_4 ?_
  refine lv_icmp_ge (tgt := 39) hx hb dX1_sureKind_7 (by decide) (fun c8 => ?_) (fun c8 => ?_)
  · have hf := ifp c8 hf
    obtain ⟨q3, hfq3, eq3⟩ := out1_some hf
    subst eq3
    have hf := hfq3
    have hq := hq.2 _ rfl
    exact wX1_sureKind_39 C hf hq H locs ls hw hS (lv_sub hl [0] rfl)
  · have hf := ifn c8 hf
    refine lv_aload_n hx hb dX1_sureKind_10 rfl (lv_at hl 0 rfl) ?_
    refine va_get (ci := 1) (v := .ref (aa Γ 101 0)) (C := RX1) (T := TX1) (N := 3) hx hb htw uwX1 hown hE.1 (hw _ _ (wf_101 hE)) 0 rfl rfl 0 (by decide) (htw _ mw411) (fun _ h9 => h9) rfl dX1_sureKind_11 ?_
    refine lv_iload_n hx hb dX1_sureKind_14 rfl (lv_at hl 1 rfl) ?_
    obtain ⟨g4, hf⟩ := gd_some hf
    refine va_iald hx hb hE.1 (hw _ _ (wf_101 hE)) 1 0 rfl rfl (inR_in g4) dX1_sureKind_15 ?_
    obtain ⟨z5, hz5, hf⟩ := bd hf
    refine cl_SN (rest := []) (kX9_kindOfCode (l := l) (Γ := Γ) (A := A) (G := g) hz5) ⟨hx, hb, hml, hown, htw⟩ hE hw hS (nw18 hE.2.2.1) mw1021 mw118 mw1022 pdX9_kindOfCode ⟨Nat.le_of_ble_eq_true rfl, Nat.le_of_ble_eq_true rfl⟩ rfl rfl hl.1 (Nat.le_of_ble_eq_true rfl) dX1_sureKind_16 (fun H locs hw hS => ?_)
    refine lv_aload_n hx hb dX1_sureKind_19 rfl (lv_at hl 0 rfl) ?_
    refine va_get (ci := 1) (v := .ref (aa Γ 101 0)) (C := RX1) (T := TX1) (N := 3) hx hb htw uwX1 hown hE.1 (hw _ _ (wf_101 hE)) 0 rfl rfl 0 (by decide) (htw _ mw411) (fun _ h9 => h9) rfl dX1_sureKind_20 ?_
    refine lv_iconst (v := 0) hx hb dX1_sureKind_23 (by decide) ?_
    refine va_iald hx hb hE.1 (hw _ _ (wf_101 hE)) 1 0 rfl rfl (inR_in (i := 0) (n := 120) (by decide)) dX1_sureKind_24 ?_
    obtain ⟨z6, hz6, hf⟩ := bd hf
    refine cl_SN (rest := [.int z5]) (kX9_kindOfCode (l := l) (Γ := Γ) (A := A) (G := g) hz6) ⟨hx, hb, hml, hown, htw⟩ hE hw hS (nw18 hE.2.2.1) mw1021 mw118 mw1022 pdX9_kindOfCode ⟨Nat.le_of_ble_eq_true rfl, Nat.le_of_ble_eq_true rfl⟩ rfl rfl hl.1 (Nat.le_of_ble_eq_true rfl) dX1_sureKind_25 (fun H locs hw hS => ?_)
    refine lv_icmp_eq (tgt := 33) hx hb dX1_sureKind_28 (by decide) (fun c7 => ?_) (fun c7 => ?_)
    · have hf := ifp c7 hf
      refine lv_iinc (v := v1 + 1) (lv' := [(1, .int (v1 + 1)), (0, .ref (ad Γ 101))]) hx hb dX1_sureKind_33 hl (k := 1) rfl (by rfl) (by decide) rfl (fun ls hl => ?_)
      refine lv_goto (tgt := 2) hx hb dX1_sureKind_36 (by decide) ?_
      obtain rfl := Option.some.inj hf
      exact hq.1 _ rfl H locs ls hw hS (lv_sub hl [1, 0] rfl)
    · have hf := ifn c7 hf
      refine lv_iconst (v := (-1)) hx hb dX1_sureKind_31 (by decide) ?_
      obtain rfl := Option.some.inj hf
      have hq := hq.2 _ rfl
      subst hq
      exact rt_i C hw hS dX1_sureKind_32

set_option maxRecDepth 100000 in
set_option maxHeartbeats 4000000 in
theorem lwX1_sureKind_2 {p : Program} {l : Launch} {e : Env} {s : State} {m : MethodId} {args : Array Value} {below : List Frame} {meth : Method} {c : Code} {Γ : Gm} {A : Nat → Prop} {g : Gs} {v1 : Int32} {q : Int32} {fin : Int32} (C : Cx p s m args meth c yX1_sureKind cX1_sureKind 2 (some .int) Γ A) (hf : iter (fun st : Int32 => bX1_sureKind_2 g st) v1 = some q) (hq : (fun x => x = fin) q) : Wk p l e { frames := 1, cells := 0, slots := 0, locals := 20 } s m args below meth c Γ A g (some (.int fin)) 2 2 [(0, .ref (ad Γ 101)), (1, .int v1)] [] g := by
  intro H locs ls hw hS hl
  refine iter_walk (P := (fun st : Int32 => Wk p l e { frames := 1, cells := 0, slots := 0, locals := 20 } s m args below meth c Γ A g (some (.int fin)) 2 2 [(0, .ref (ad Γ 101)), (1, .int st)] [] g)) (K := (fun x => x = fin)) (fun st q hq1 h1 h2 => ?_) hf hq H locs ls hw hS hl
  exact wX1_sureKind_2 (v1 := st) C hq1 ⟨h1, h2⟩

noncomputable def fX1_sureKind (g : Gs) : Option Int32 :=
  iter (fun st : Int32 => bX1_sureKind_2 g st) 1
set_option maxRecDepth 100000 in
set_option maxHeartbeats 4000000 in
theorem wX1_sureKind_e {p : Program} {l : Launch} {e : Env} {s : State} {m : MethodId} {args : Array Value} {below : List Frame} {meth : Method} {c : Code} {Γ : Gm} {A : Nat → Prop} {g : Gs} {q : Int32} {fin : Int32} (C : Cx p s m args meth c yX1_sureKind cX1_sureKind 2 (some .int) Γ A) (hf : fX1_sureKind g = some q) (hq : (fun x => x = fin) q) : Wk p l e { frames := 1, cells := 0, slots := 0, locals := 20 } s m args below meth c Γ A g (some (.int fin)) 0 2 [(0, .ref (ad Γ 101))] [] g := by
  intro H locs ls hw hS hl
  unfold fX1_sureKind at hf
  obtain ⟨hx, hb, hml, hr, hown, htw, hlocks, hE⟩ := id C
  have hown : s.vm.findClass RX1 = some m.cls := hown
  refine lv_iconst (v := 1) hx hb dX1_sureKind_0 (by decide) ?_
  refine lv_istore_n (lv' := [(1, .int 1), (0, .ref (ad Γ 101))]) hx hb dX1_sureKind_1 rfl hl (by decide) rfl (fun ls hl => ?_)
  exact lwX1_sureKind_2 C hf hq H locs ls hw hS (lv_sub hl [1, 0] rfl)

theorem kX1_sureKind {l : Launch} {Γ : Gm} {A : Nat → Prop} {g : Gs} {fin : Int32} (hf : fX1_sureKind g = some fin) : Kt l yX1_sureKind cX1_sureKind 2 (some .int) 1 20 Γ A g g [.ref (ad Γ 101)] (some (.int fin)) :=
  kt_of (by decide) (Nat.le_of_ble_eq_true rfl) (fun p e s m args below meth c C => wX1_sureKind_e C hf rfl)
noncomputable def bX1_sureWeight_39 (g : Gs) : Option Int32 :=
  if (gi (g 101) 1) = 0 then some ((-1)) else (fX9_weightOfCode (ga (g 101) 0 (Int32.toNatClampNeg 0))).bind fun z1 => some (z1)
set_option maxRecDepth 100000 in
set_option maxHeartbeats 4000000 in
theorem wX1_sureWeight_39 {p : Program} {l : Launch} {e : Env} {s : State} {m : MethodId} {args : Array Value} {below : List Frame} {meth : Method} {c : Code} {Γ : Gm} {A : Nat → Prop} {g : Gs} {q : Int32} {fin : Int32} (C : Cx p s m args meth c yX1_sureWeight cX1_sureWeight 2 (some .int) Γ A) (hf : bX1_sureWeight_39 g = some q) (hq : (fun x => x = fin) q) : Wk p l e { frames := 1, cells := 0, slots := 0, locals := 20 } s m args below meth c Γ A g (some (.int fin)) 39 2 [(0, .ref (ad Γ 101))] [] g := by
  intro H locs ls hw hS hl
  unfold bX1_sureWeight_39 at hf
  obtain ⟨hx, hb, hml, hr, hown, htw, hlocks, hE⟩ := id C
  have hown : s.vm.findClass RX1 = some m.cls := hown
  refine lv_aload_n hx hb dX1_sureWeight_39 rfl (lv_at hl 0 rfl) ?_
  refine va_get (ci := 1) (v := .int (gi (g 101) 1)) (C := RX1) (T := TX1) (N := 3) hx hb htw uwX1 hown hE.1 (hw _ _ (wf_101 hE)) 0 rfl rfl 1 (by decide) (htw _ mw413) (fun _ h9 => h9) rfl dX1_sureWeight_40 ?_
  refine lv_if_ne (tgt := 50) hx hb dX1_sureWeight_43 (by decide) (fun c2 => ?_) (fun c2 => ?_)
  · have hf := ifn c2 hf
    refine lv_aload_n hx hb dX1_sureWeight_50 rfl (lv_at hl 0 rfl) ?_
    refine va_get (ci := 1) (v := .ref (aa Γ 101 0)) (C := RX1) (T := TX1) (N := 3) hx hb htw uwX1 hown hE.1 (hw _ _ (wf_101 hE)) 0 rfl rfl 0 (by decide) (htw _ mw411) (fun _ h9 => h9) rfl dX1_sureWeight_51 ?_
    refine lv_iconst (v := 0) hx hb dX1_sureWeight_54 (by decide) ?_
    refine va_iald hx hb hE.1 (hw _ _ (wf_101 hE)) 1 0 rfl rfl (inR_in (i := 0) (n := 120) (by decide)) dX1_sureWeight_55 ?_
    obtain ⟨z1, hz1, hf⟩ := bd hf
    refine cl_SN (rest := []) (kX9_weightOfCode (l := l) (Γ := Γ) (A := A) (G := g) hz1) ⟨hx, hb, hml, hown, htw⟩ hE hw hS (nw19 hE.2.2.1) mw1018 mw118 mw1019 pdX9_weightOfCode ⟨Nat.le_of_ble_eq_true rfl, Nat.le_of_ble_eq_true rfl⟩ rfl rfl hl.1 (Nat.le_of_ble_eq_true rfl) dX1_sureWeight_56 (fun H locs hw hS => ?_)
    obtain rfl := Option.some.inj hf
    subst hq
    exact rt_i C hw hS dX1_sureWeight_59
  · have hf := ifp c2 hf
    refine lv_iconst (v := (-1)) hx hb dX1_sureWeight_46 (by decide) ?_
    refine lv_goto (tgt := 59) hx hb dX1_sureWeight_47 (by decide) ?_
    obtain rfl := Option.some.inj hf
    subst hq
    exact rt_i C hw hS dX1_sureWeight_59

noncomputable def bX1_sureWeight_2 (g : Gs) (v1 : Int32) : Option (Int32 ⊕ Int32) :=
  if (gi (g 101) 1) ≤ v1 then out1 (bX1_sureWeight_39 g) else gd (inR v1 120) ((fX9_weightOfCode (ga (g 101) 0 (Int32.toNatClampNeg v1))).bind fun z5 => (fX9_weightOfCode (ga (g 101) 0 (Int32.toNatClampNeg 0))).bind fun z6 => if z5 = z6 then some (.inl (v1 + 1)) else some (.inr ((-1))))
set_option maxRecDepth 100000 in
set_option maxHeartbeats 4000000 in
theorem wX1_sureWeight_2 {p : Program} {l : Launch} {e : Env} {s : State} {m : MethodId} {args : Array Value} {below : List Frame} {meth : Method} {c : Code} {Γ : Gm} {A : Nat → Prop} {g : Gs} {v1 : Int32} {q : (Int32 ⊕ Int32)} {fin : Int32} (C : Cx p s m args meth c yX1_sureWeight cX1_sureWeight 2 (some .int) Γ A) (hf : bX1_sureWeight_2 g v1 = some q) (hq : (KC (fun st : Int32 => Wk p l e { frames := 1, cells := 0, slots := 0, locals := 20 } s m args below meth c Γ A g (some (.int fin)) 2 2 [(0, .ref (ad Γ 101)), (1, .int st)] [] g) (fun x => x = fin)) q) : Wk p l e { frames := 1, cells := 0, slots := 0, locals := 20 } s m args below meth c Γ A g (some (.int fin)) 2 2 [(0, .ref (ad Γ 101)), (1, .int v1)] [] g := by
  intro H locs ls hw hS hl
  unfold bX1_sureWeight_2 at hf
  obtain ⟨hx, hb, hml, hr, hown, htw, hlocks, hE⟩ := id C
  have hown : s.vm.findClass RX1 = some m.cls := hown
  refine lv_iload_n hx hb dX1_sureWeight_2 rfl (lv_at hl 1 rfl) ?_
  refine lv_aload_n hx hb dX1_sureWeight_3 rfl (lv_at hl 0 rfl) ?_
  refine va_get (ci := 1) (v := .int (gi (g 101) 1)) (C := RX1) (T := TX1) (N := 3) hx hb htw uwX1 hown hE.1 (hw _ _ (wf_101 hE)) 0 rfl rfl 1 (by decide) (htw _ mw413) (fun _ h9 => h9) rfl dX1_sureWeight_4 ?_
  refine lv_icmp_ge (tgt := 39) hx hb dX1_sureWeight_7 (by decide) (fun c8 => ?_) (fun c8 => ?_)
  · have hf := ifp c8 hf
    obtain ⟨q3, hfq3, eq3⟩ := out1_some hf
    subst eq3
    have hf := hfq3
    have hq := hq.2 _ rfl
    exact wX1_sureWeight_39 C hf hq H locs ls hw hS (lv_sub hl [0] rfl)
  · have hf := ifn c8 hf
    refine lv_aload_n hx hb dX1_sureWeight_10 rfl (lv_at hl 0 rfl) ?_
    refine va_get (ci := 1) (v := .ref (aa Γ 101 0)) (C := RX1) (T := TX1) (N := 3) hx hb htw uwX1 hown hE.1 (hw _ _ (wf_101 hE)) 0 rfl rfl 0 (by decide) (htw _ mw411) (fun _ h9 => h9) rfl dX1_sureWeight_11 ?_
    refine lv_iload_n hx hb dX1_sureWeight_14 rfl (lv_at hl 1 rfl) ?_
    obtain ⟨g4, hf⟩ := gd_some hf
    refine va_iald hx hb hE.1 (hw _ _ (wf_101 hE)) 1 0 rfl rfl (inR_in g4) dX1_sureWeight_15 ?_
    obtain ⟨z5, hz5, hf⟩ := bd hf
    refine cl_SN (rest := []) (kX9_weightOfCode (l := l) (Γ := Γ) (A := A) (G := g) hz5) ⟨hx, hb, hml, hown, htw⟩ hE hw hS (nw19 hE.2.2.1) mw1018 mw118 mw1019 pdX9_weightOfCode ⟨Nat.le_of_ble_eq_true rfl, Nat.le_of_ble_eq_true rfl⟩ rfl rfl hl.1 (Nat.le_of_ble_eq_true rfl) dX1_sureWeight_16 (fun H locs hw hS => ?_)
    refine lv_aload_n hx hb dX1_sureWeight_19 rfl (lv_at hl 0 rfl) ?_
    refine va_get (ci := 1) (v := .ref (aa Γ 101 0)) (C := RX1) (T := TX1) (N := 3) hx hb htw uwX1 hown hE.1 (hw _ _ (wf_101 hE)) 0 rfl rfl 0 (by decide) (htw _ mw411) (fun _ h9 => h9) rfl dX1_sureWeight_20 ?_
    refine lv_iconst (v := 0) hx hb dX1_sureWeight_23 (by decide) ?_
    refine va_iald hx hb hE.1 (hw _ _ (wf_101 hE)) 1 0 rfl rfl (inR_in (i := 0) (n := 120) (by decide)) dX1_sureWeight_24 ?_
    obtain ⟨z6, hz6, hf⟩ := bd hf
    refine cl_SN (rest := [.int z5]) (kX9_weightOfCode (l := l) (Γ := Γ) (A := A) (G := g) hz6) ⟨hx, hb, hml, hown, htw⟩ hE hw hS (nw19 hE.2.2.1) mw1018 mw118 mw1019 pdX9_weightOfCode ⟨Nat.le_of_ble_eq_true rfl, Nat.le_of_ble_eq_true rfl⟩ rfl rfl hl.1 (Nat.le_of_ble_eq_true rfl) dX1_sureWeight_25 (fun H locs hw hS => ?_)
    refine lv_icmp_eq (tgt := 33) hx hb dX1_sureWeight_28 (by decide) (fun c7 => ?_) (fun c7 => ?_)
    · have hf := ifp c7 hf
      refine lv_iinc (v := v1 + 1) (lv' := [(1, .int (v1 + 1)), (0, .ref (ad Γ 101))]) hx hb dX1_sureWeight_33 hl (k := 1) rfl (by rfl) (by decide) rfl (fun ls hl => ?_)
      refine lv_goto (tgt := 2) hx hb dX1_sureWeight_36 (by decide) ?_
      obtain rfl := Option.some.inj hf
      exact hq.1 _ rfl H locs ls hw hS (lv_sub hl [1, 0] rfl)
    · have hf := ifn c7 hf
      refine lv_iconst (v := (-1)) hx hb dX1_sureWeight_31 (by decide) ?_
      obtain rfl := Option.some.inj hf
      have hq := hq.2 _ rfl
      subst hq
      exact rt_i C hw hS dX1_sureWeight_32

set_option maxRecDepth 100000 in
set_option maxHeartbeats 4000000 in
theorem lwX1_sureWeight_2 {p : Program} {l : Launch} {e : Env} {s : State} {m : MethodId} {args : Array Value} {below : List Frame} {meth : Method} {c : Code} {Γ : Gm} {A : Nat → Prop} {g : Gs} {v1 : Int32} {q : Int32} {fin : Int32} (C : Cx p s m args meth c yX1_sureWeight cX1_sureWeight 2 (some .int) Γ A) (hf : iter (fun st : Int32 => bX1_sureWeight_2 g st) v1 = some q) (hq : (fun x => x = fin) q) : Wk p l e { frames := 1, cells := 0, slots := 0, locals := 20 } s m args below meth c Γ A g (some (.int fin)) 2 2 [(0, .ref (ad Γ 101)), (1, .int v1)] [] g := by
  intro H locs ls hw hS hl
  refine iter_walk (P := (fun st : Int32 => Wk p l e { frames := 1, cells := 0, slots := 0, locals := 20 } s m args below meth c Γ A g (some (.int fin)) 2 2 [(0, .ref (ad Γ 101)), (1, .int st)] [] g)) (K := (fun x => x = fin)) (fun st q hq1 h1 h2 => ?_) hf hq H locs ls hw hS hl
  exact wX1_sureWeight_2 (v1 := st) C hq1 ⟨h1, h2⟩

noncomputable def fX1_sureWeight (g : Gs) : Option Int32 :=
  iter (fun st : Int32 => bX1_sureWeight_2 g st) 1
set_option maxRecDepth 100000 in
set_option maxHeartbeats 4000000 in
theorem wX1_sureWeight_e {p : Program} {l : Launch} {e : Env} {s : State} {m : MethodId} {args : Array Value} {below : List Frame} {meth : Method} {c : Code} {Γ : Gm} {A : Nat → Prop} {g : Gs} {q : Int32} {fin : Int32} (C : Cx p s m args meth c yX1_sureWeight cX1_sureWeight 2 (some .int) Γ A) (hf : fX1_sureWeight g = some q) (hq : (fun x => x = fin) q) : Wk p l e { frames := 1, cells := 0, slots := 0, locals := 20 } s m args below meth c Γ A g (some (.int fin)) 0 2 [(0, .ref (ad Γ 101))] [] g := by
  intro H locs ls hw hS hl
  unfold fX1_sureWeight at hf
  obtain ⟨hx, hb, hml, hr, hown, htw, hlocks, hE⟩ := id C
  have hown : s.vm.findClass RX1 = some m.cls := hown
  refine lv_iconst (v := 1) hx hb dX1_sureWeight_0 (by decide) ?_
  refine lv_istore_n (lv' := [(1, .int 1), (0, .ref (ad Γ 101))]) hx hb dX1_sureWeight_1 rfl hl (by decide) rfl (fun ls hl => ?_)
  exact lwX1_sureWeight_2 C hf hq H locs ls hw hS (lv_sub hl [1, 0] rfl)

theorem kX1_sureWeight {l : Launch} {Γ : Gm} {A : Nat → Prop} {g : Gs} {fin : Int32} (hf : fX1_sureWeight g = some fin) : Kt l yX1_sureWeight cX1_sureWeight 2 (some .int) 1 20 Γ A g g [.ref (ad Γ 101)] (some (.int fin)) :=
  kt_of (by decide) (Nat.le_of_ble_eq_true rfl) (fun p e s m args below meth c C => wX1_sureWeight_e C hf rfl)
noncomputable def bX1_fittingSecrets_72 (g : Gs) (v1 : Nat) (v2 : Int32) (v3 : Int32) : Option ((Int32 × Int32) ⊕ Int32) :=
  some (.inl (v2, v3 + 1))
set_option maxRecDepth 100000 in
set_option maxHeartbeats 4000000 in
theorem wX1_fittingSecrets_72 {p : Program} {l : Launch} {e : Env} {s : State} {m : MethodId} {args : Array Value} {below : List Frame} {meth : Method} {c : Code} {Γ : Gm} {A : Nat → Prop} {g : Gs} {v1 : Nat} {v2 : Int32} {v3 : Int32} {q : ((Int32 × Int32) ⊕ Int32)} {fin : Int32} (C : Cx p s m args meth c yX1_fittingSecrets cX1_fittingSecrets 6 (some .int) Γ A) (hv1 : kd Γ v1 = some 2) (hf : bX1_fittingSecrets_72 g v1 v2 v3 = some q) (hq : (KC (fun st : Int32 × Int32 => Wk p l e { frames := 0, cells := 0, slots := 0, locals := 0 } s m args below meth c Γ A g (some (.int fin)) 4 6 [(0, .ref (ad Γ 101)), (1, .ref (ad Γ v1)), (2, .int st.1), (3, .int st.2)] [] g) (fun x => x = fin)) q) : Wk p l e { frames := 0, cells := 0, slots := 0, locals := 0 } s m args below meth c Γ A g (some (.int fin)) 72 6 [(0, .ref (ad Γ 101)), (1, .ref (ad Γ v1)), (2, .int v2), (3, .int v3)] [] g := by
  intro H locs ls hw hS hl
  unfold bX1_fittingSecrets_72 at hf
  obtain ⟨hx, hb, hml, hr, hown, htw, hlocks, hE⟩ := id C
  have hown : s.vm.findClass RX1 = some m.cls := hown
  refine lv_iinc (v := v3 + 1) (lv' := [(3, .int (v3 + 1)), (0, .ref (ad Γ 101)), (1, .ref (ad Γ v1)), (2, .int v2)]) hx hb dX1_fittingSecrets_72 hl (k := 3) rfl (by rfl) (by decide) rfl (fun ls hl => ?_)
  refine lv_goto (tgt := 4) hx hb dX1_fittingSecrets_75 (by decide) ?_
  obtain rfl := Option.some.inj hf
  exact hq.1 _ rfl H locs ls hw hS (lv_sub hl [1, 2, 3, 0] rfl)

noncomputable def bX1_fittingSecrets_64 (g : Gs) (v1 : Nat) (v3 : Int32) (v4 : Int32) (v5 : Int32) (s0 : Int32) (s1 : Int32) : Option ((Int32 × Int32) ⊕ ((Int32 × Int32) ⊕ Int32)) :=
  some (.inl (s1 ||| s0, v5 + 1))
set_option maxRecDepth 100000 in
set_option maxHeartbeats 4000000 in
theorem wX1_fittingSecrets_64 {p : Program} {l : Launch} {e : Env} {s : State} {m : MethodId} {args : Array Value} {below : List Frame} {meth : Method} {c : Code} {Γ : Gm} {A : Nat → Prop} {g : Gs} {v1 : Nat} {v3 : Int32} {v4 : Int32} {v5 : Int32} {s0 : Int32} {s1 : Int32} {q : ((Int32 × Int32) ⊕ ((Int32 × Int32) ⊕ Int32))} {fin : Int32} (C : Cx p s m args meth c yX1_fittingSecrets cX1_fittingSecrets 6 (some .int) Γ A) (hv1 : kd Γ v1 = some 2) (hf : bX1_fittingSecrets_64 g v1 v3 v4 v5 s0 s1 = some q) (hq : (KC (fun st : Int32 × Int32 => Wk p l e { frames := 0, cells := 0, slots := 0, locals := 0 } s m args below meth c Γ A g (some (.int fin)) 35 6 [(0, .ref (ad Γ 101)), (1, .ref (ad Γ v1)), (2, .int st.1), (3, .int v3), (4, .int v4), (5, .int st.2)] [] g) (KC (fun st : Int32 × Int32 => Wk p l e { frames := 0, cells := 0, slots := 0, locals := 0 } s m args below meth c Γ A g (some (.int fin)) 4 6 [(0, .ref (ad Γ 101)), (1, .ref (ad Γ v1)), (2, .int st.1), (3, .int st.2)] [] g) (fun x => x = fin))) q) : Wk p l e { frames := 0, cells := 0, slots := 0, locals := 0 } s m args below meth c Γ A g (some (.int fin)) 64 6 [(0, .ref (ad Γ 101)), (1, .ref (ad Γ v1)), (3, .int v3), (4, .int v4), (5, .int v5)] [.int s0, .int s1] g := by
  intro H locs ls hw hS hl
  unfold bX1_fittingSecrets_64 at hf
  obtain ⟨hx, hb, hml, hr, hown, htw, hlocks, hE⟩ := id C
  have hown : s.vm.findClass RX1 = some m.cls := hown
  refine lv_ior hx hb dX1_fittingSecrets_64 ?_
  refine lv_istore_n (lv' := [(2, .int (s1 ||| s0)), (0, .ref (ad Γ 101)), (1, .ref (ad Γ v1)), (3, .int v3), (4, .int v4), (5, .int v5)]) hx hb dX1_fittingSecrets_65 rfl hl (by decide) rfl (fun ls hl => ?_)
  refine lv_iinc (v := v5 + 1) (lv' := [(5, .int (v5 + 1)), (2, .int (s1 ||| s0)), (0, .ref (ad Γ 101)), (1, .ref (ad Γ v1)), (3, .int v3), (4, .int v4)]) hx hb dX1_fittingSecrets_66 hl (k := 5) rfl (by rfl) (by decide) rfl (fun ls hl => ?_)
  refine lv_goto (tgt := 35) hx hb dX1_fittingSecrets_69 (by decide) ?_
  obtain rfl := Option.some.inj hf
  exact hq.1 _ rfl H locs ls hw hS (lv_sub hl [2, 3, 1, 4, 5, 0] rfl)

noncomputable def bX1_fittingSecrets_35 (g : Gs) (v1 : Nat) (v2 : Int32) (v3 : Int32) (v4 : Int32) (v5 : Int32) : Option ((Int32 × Int32) ⊕ ((Int32 × Int32) ⊕ Int32)) :=
  if (gi (g 101) 1) ≤ v5 then out1 (bX1_fittingSecrets_72 g v1 v2 v3) else gd (inR v5 120) (if (ga (g 101) 0 (Int32.toNatClampNeg v5)) = v4 then bX1_fittingSecrets_64 g v1 v3 v4 v5 ((1 : Int32) <<< (v3 &&& 31)) v2 else bX1_fittingSecrets_64 g v1 v3 v4 v5 0 v2)
set_option maxRecDepth 100000 in
set_option maxHeartbeats 4000000 in
theorem wX1_fittingSecrets_35 {p : Program} {l : Launch} {e : Env} {s : State} {m : MethodId} {args : Array Value} {below : List Frame} {meth : Method} {c : Code} {Γ : Gm} {A : Nat → Prop} {g : Gs} {v1 : Nat} {v2 : Int32} {v3 : Int32} {v4 : Int32} {v5 : Int32} {q : ((Int32 × Int32) ⊕ ((Int32 × Int32) ⊕ Int32))} {fin : Int32} (C : Cx p s m args meth c yX1_fittingSecrets cX1_fittingSecrets 6 (some .int) Γ A) (hv1 : kd Γ v1 = some 2) (hf : bX1_fittingSecrets_35 g v1 v2 v3 v4 v5 = some q) (hq : (KC (fun st : Int32 × Int32 => Wk p l e { frames := 0, cells := 0, slots := 0, locals := 0 } s m args below meth c Γ A g (some (.int fin)) 35 6 [(0, .ref (ad Γ 101)), (1, .ref (ad Γ v1)), (2, .int st.1), (3, .int v3), (4, .int v4), (5, .int st.2)] [] g) (KC (fun st : Int32 × Int32 => Wk p l e { frames := 0, cells := 0, slots := 0, locals := 0 } s m args below meth c Γ A g (some (.int fin)) 4 6 [(0, .ref (ad Γ 101)), (1, .ref (ad Γ v1)), (2, .int st.1), (3, .int st.2)] [] g) (fun x => x = fin))) q) : Wk p l e { frames := 0, cells := 0, slots := 0, locals := 0 } s m args below meth c Γ A g (some (.int fin)) 35 6 [(0, .ref (ad Γ 101)), (1, .ref (ad Γ v1)), (2, .int v2), (3, .int v3), (4, .int v4), (5, .int v5)] [] g := by
  intro H locs ls hw hS hl
  unfold bX1_fittingSecrets_35 at hf
  obtain ⟨hx, hb, hml, hr, hown, htw, hlocks, hE⟩ := id C
  have hown : s.vm.findClass RX1 = some m.cls := hown
  refine lv_iload hx hb dX1_fittingSecrets_35 (lv_at hl 5 rfl) ?_
  refine lv_aload_n hx hb dX1_fittingSecrets_37 rfl (lv_at hl 0 rfl) ?_
  refine va_get (ci := 1) (v := .int (gi (g 101) 1)) (C := RX1) (T := TX1) (N := 3) hx hb htw uwX1 hown hE.1 (hw _ _ (wf_101 hE)) 0 rfl rfl 1 (by decide) (htw _ mw413) (fun _ h9 => h9) rfl dX1_fittingSecrets_38 ?_
  refine lv_icmp_ge (tgt := 72) hx hb dX1_fittingSecrets_41 (by decide) (fun c4 => ?_) (fun c4 => ?_)
  · have hf := ifp c4 hf
    obtain ⟨q1, hfq1, eq1⟩ := out1_some hf
    subst eq1
    have hf := hfq1
    have hq := hq.2 _ rfl
    exact wX1_fittingSecrets_72 C hv1 hf hq H locs ls hw hS (lv_sub hl [0, 1, 2, 3] rfl)
  · have hf := ifn c4 hf
    refine lv_iload_n hx hb dX1_fittingSecrets_44 rfl (lv_at hl 2 rfl) ?_
    refine lv_aload_n hx hb dX1_fittingSecrets_45 rfl (lv_at hl 0 rfl) ?_
    refine va_get (ci := 1) (v := .ref (aa Γ 101 0)) (C := RX1) (T := TX1) (N := 3) hx hb htw uwX1 hown hE.1 (hw _ _ (wf_101 hE)) 0 rfl rfl 0 (by decide) (htw _ mw411) (fun _ h9 => h9) rfl dX1_fittingSecrets_46 ?_
    refine lv_iload hx hb dX1_fittingSecrets_49 (lv_at hl 5 rfl) ?_
    obtain ⟨g2, hf⟩ := gd_some hf
    refine va_iald hx hb hE.1 (hw _ _ (wf_101 hE)) 1 0 rfl rfl (inR_in g2) dX1_fittingSecrets_51 ?_
    refine lv_iload hx hb dX1_fittingSecrets_52 (lv_at hl 4 rfl) ?_
    refine lv_icmp_ne (tgt := 63) hx hb dX1_fittingSecrets_54 (by decide) (fun c3 => ?_) (fun c3 => ?_)
    · have hf := ifn c3 hf
      refine lv_iconst (v := 0) hx hb dX1_fittingSecrets_63 (by decide) ?_
      exact wX1_fittingSecrets_64 C hv1 hf hq H locs ls hw hS (lv_sub hl [0, 1, 3, 4, 5] rfl)
    · have hf := ifp c3 hf
      refine lv_iconst (v := 1) hx hb dX1_fittingSecrets_57 (by decide) ?_
      refine lv_iload_n hx hb dX1_fittingSecrets_58 rfl (lv_at hl 3 rfl) ?_
      refine lv_ishl hx hb dX1_fittingSecrets_59 ?_
      refine lv_goto (tgt := 64) hx hb dX1_fittingSecrets_60 (by decide) ?_
      exact wX1_fittingSecrets_64 C hv1 hf hq H locs ls hw hS (lv_sub hl [0, 1, 3, 4, 5] rfl)

set_option maxRecDepth 100000 in
set_option maxHeartbeats 4000000 in
theorem lwX1_fittingSecrets_35 {p : Program} {l : Launch} {e : Env} {s : State} {m : MethodId} {args : Array Value} {below : List Frame} {meth : Method} {c : Code} {Γ : Gm} {A : Nat → Prop} {g : Gs} {v1 : Nat} {v2 : Int32} {v3 : Int32} {v4 : Int32} {v5 : Int32} {q : ((Int32 × Int32) ⊕ Int32)} {fin : Int32} (C : Cx p s m args meth c yX1_fittingSecrets cX1_fittingSecrets 6 (some .int) Γ A) (hv1 : kd Γ v1 = some 2) (hf : iter (fun st : Int32 × Int32 => bX1_fittingSecrets_35 g v1 st.1 v3 v4 st.2) (v2, v5) = some q) (hq : (KC (fun st : Int32 × Int32 => Wk p l e { frames := 0, cells := 0, slots := 0, locals := 0 } s m args below meth c Γ A g (some (.int fin)) 4 6 [(0, .ref (ad Γ 101)), (1, .ref (ad Γ v1)), (2, .int st.1), (3, .int st.2)] [] g) (fun x => x = fin)) q) : Wk p l e { frames := 0, cells := 0, slots := 0, locals := 0 } s m args below meth c Γ A g (some (.int fin)) 35 6 [(0, .ref (ad Γ 101)), (1, .ref (ad Γ v1)), (2, .int v2), (3, .int v3), (4, .int v4), (5, .int v5)] [] g := by
  intro H locs ls hw hS hl
  refine iter_walk (P := (fun st : Int32 × Int32 => Wk p l e { frames := 0, cells := 0, slots := 0, locals := 0 } s m args below meth c Γ A g (some (.int fin)) 35 6 [(0, .ref (ad Γ 101)), (1, .ref (ad Γ v1)), (2, .int st.1), (3, .int v3), (4, .int v4), (5, .int st.2)] [] g)) (K := (KC (fun st : Int32 × Int32 => Wk p l e { frames := 0, cells := 0, slots := 0, locals := 0 } s m args below meth c Γ A g (some (.int fin)) 4 6 [(0, .ref (ad Γ 101)), (1, .ref (ad Γ v1)), (2, .int st.1), (3, .int st.2)] [] g) (fun x => x = fin))) (fun st q hq1 h1 h2 => ?_) hf hq H locs ls hw hS hl
  exact wX1_fittingSecrets_35 (v2 := st.1) (v5 := st.2) C hv1 hq1 ⟨h1, h2⟩

noncomputable def bX1_fittingSecrets_4 (g : Gs) (v1 : Nat) (v2 : Int32) (v3 : Int32) : Option ((Int32 × Int32) ⊕ Int32) :=
  if (gi (g v1) 1) ≤ v3 then some (.inr (v2)) else gd (inR v3 10) (gd (inR v3 10) ((some (((30 * (ga (g v1) 6 (Int32.toNatClampNeg v3))) + (ga (g v1) 7 (Int32.toNatClampNeg v3))) - 1)).bind fun x7 => iter (fun st : Int32 × Int32 => bX1_fittingSecrets_35 g v1 st.1 v3 x7 st.2) (v2, 0)))
set_option maxRecDepth 100000 in
set_option maxHeartbeats 4000000 in
theorem wX1_fittingSecrets_4 {p : Program} {l : Launch} {e : Env} {s : State} {m : MethodId} {args : Array Value} {below : List Frame} {meth : Method} {c : Code} {Γ : Gm} {A : Nat → Prop} {g : Gs} {v1 : Nat} {v2 : Int32} {v3 : Int32} {q : ((Int32 × Int32) ⊕ Int32)} {fin : Int32} (C : Cx p s m args meth c yX1_fittingSecrets cX1_fittingSecrets 6 (some .int) Γ A) (hv1 : kd Γ v1 = some 2) (hf : bX1_fittingSecrets_4 g v1 v2 v3 = some q) (hq : (KC (fun st : Int32 × Int32 => Wk p l e { frames := 0, cells := 0, slots := 0, locals := 0 } s m args below meth c Γ A g (some (.int fin)) 4 6 [(0, .ref (ad Γ 101)), (1, .ref (ad Γ v1)), (2, .int st.1), (3, .int st.2)] [] g) (fun x => x = fin)) q) : Wk p l e { frames := 0, cells := 0, slots := 0, locals := 0 } s m args below meth c Γ A g (some (.int fin)) 4 6 [(0, .ref (ad Γ 101)), (1, .ref (ad Γ v1)), (2, .int v2), (3, .int v3)] [] g := by
  intro H locs ls hw hS hl
  unfold bX1_fittingSecrets_4 at hf
  obtain ⟨hx, hb, hml, hr, hown, htw, hlocks, hE⟩ := id C
  have hown : s.vm.findClass RX1 = some m.cls := hown
  refine lv_iload_n hx hb dX1_fittingSecrets_4 rfl (lv_at hl 3 rfl) ?_
  refine lv_aload_n hx hb dX1_fittingSecrets_5 rfl (lv_at hl 1 rfl) ?_
  refine va_get (ci := 2) (v := .int (gi (g v1) 1)) (C := RX2) (T := TX2) (N := 11) hx hb htw uwX2 hown hE.1 (hw _ _ hv1) 0 rfl rfl 1 (by decide) (htw _ mw168) (fun _ h9 => h9) rfl dX1_fittingSecrets_6 ?_
  refine lv_icmp_ge (tgt := 78) hx hb dX1_fittingSecrets_9 (by decide) (fun c8 => ?_) (fun c8 => ?_)
  · have hf := ifp c8 hf
    refine lv_iload_n hx hb dX1_fittingSecrets_78 rfl (lv_at hl 2 rfl) ?_
    obtain rfl := Option.some.inj hf
    have hq := hq.2 _ rfl
    subst hq
    exact rt_i C hw hS dX1_fittingSecrets_79
  · have hf := ifn c8 hf
    refine lv_bipush (v := 30) hx hb dX1_fittingSecrets_12 (by decide) ?_
    refine lv_aload_n hx hb dX1_fittingSecrets_14 rfl (lv_at hl 1 rfl) ?_
    refine va_get (ci := 2) (v := .ref (aa Γ v1 6)) (C := RX2) (T := TX2) (N := 11) hx hb htw uwX2 hown hE.1 (hw _ _ hv1) 0 rfl rfl 6 (by decide) (htw _ mw182) (fun _ h9 => h9) rfl dX1_fittingSecrets_15 ?_
    refine lv_iload_n hx hb dX1_fittingSecrets_18 rfl (lv_at hl 3 rfl) ?_
    obtain ⟨g5, hf⟩ := gd_some hf
    refine va_iald hx hb hE.1 (hw _ _ hv1) 4 0 rfl rfl (inR_in g5) dX1_fittingSecrets_19 ?_
    refine lv_imul hx hb dX1_fittingSecrets_20 ?_
    refine lv_aload_n hx hb dX1_fittingSecrets_21 rfl (lv_at hl 1 rfl) ?_
    refine va_get (ci := 2) (v := .ref (aa Γ v1 7)) (C := RX2) (T := TX2) (N := 11) hx hb htw uwX2 hown hE.1 (hw _ _ hv1) 0 rfl rfl 7 (by decide) (htw _ mw186) (fun _ h9 => h9) rfl dX1_fittingSecrets_22 ?_
    refine lv_iload_n hx hb dX1_fittingSecrets_25 rfl (lv_at hl 3 rfl) ?_
    obtain ⟨g6, hf⟩ := gd_some hf
    refine va_iald hx hb hE.1 (hw _ _ hv1) 5 0 rfl rfl (inR_in g6) dX1_fittingSecrets_26 ?_
    refine lv_iadd hx hb dX1_fittingSecrets_27 ?_
    refine lv_iconst (v := 1) hx hb dX1_fittingSecrets_28 (by decide) ?_
    refine lv_isub hx hb dX1_fittingSecrets_29 ?_
    obtain ⟨x7, hx7, hf⟩ := bd hf
    have hx7 := Option.some.inj hx7
    refine tp1i hx7 ?_
    refine lv_istore (lv' := [(4, .int x7), (0, .ref (ad Γ 101)), (1, .ref (ad Γ v1)), (2, .int v2), (3, .int v3)]) hx hb dX1_fittingSecrets_30 hl (by decide) rfl (fun ls hl => ?_)
    refine lv_iconst (v := 0) hx hb dX1_fittingSecrets_32 (by decide) ?_
    refine lv_istore (lv' := [(5, .int 0), (4, .int x7), (0, .ref (ad Γ 101)), (1, .ref (ad Γ v1)), (2, .int v2), (3, .int v3)]) hx hb dX1_fittingSecrets_33 hl (by decide) rfl (fun ls hl => ?_)
    exact lwX1_fittingSecrets_35 C hv1 hf hq H locs ls hw hS (lv_sub hl [2, 3, 4, 5, 1, 0] rfl)

set_option maxRecDepth 100000 in
set_option maxHeartbeats 4000000 in
theorem lwX1_fittingSecrets_4 {p : Program} {l : Launch} {e : Env} {s : State} {m : MethodId} {args : Array Value} {below : List Frame} {meth : Method} {c : Code} {Γ : Gm} {A : Nat → Prop} {g : Gs} {v1 : Nat} {v2 : Int32} {v3 : Int32} {q : Int32} {fin : Int32} (C : Cx p s m args meth c yX1_fittingSecrets cX1_fittingSecrets 6 (some .int) Γ A) (hv1 : kd Γ v1 = some 2) (hf : iter (fun st : Int32 × Int32 => bX1_fittingSecrets_4 g v1 st.1 st.2) (v2, v3) = some q) (hq : (fun x => x = fin) q) : Wk p l e { frames := 0, cells := 0, slots := 0, locals := 0 } s m args below meth c Γ A g (some (.int fin)) 4 6 [(0, .ref (ad Γ 101)), (1, .ref (ad Γ v1)), (2, .int v2), (3, .int v3)] [] g := by
  intro H locs ls hw hS hl
  refine iter_walk (P := (fun st : Int32 × Int32 => Wk p l e { frames := 0, cells := 0, slots := 0, locals := 0 } s m args below meth c Γ A g (some (.int fin)) 4 6 [(0, .ref (ad Γ 101)), (1, .ref (ad Γ v1)), (2, .int st.1), (3, .int st.2)] [] g)) (K := (fun x => x = fin)) (fun st q hq1 h1 h2 => ?_) hf hq H locs ls hw hS hl
  exact wX1_fittingSecrets_4 (v2 := st.1) (v3 := st.2) C hv1 hq1 ⟨h1, h2⟩

noncomputable def fX1_fittingSecrets (g : Gs) (v1 : Nat) : Option Int32 :=
  iter (fun st : Int32 × Int32 => bX1_fittingSecrets_4 g v1 st.1 st.2) (0, 0)
set_option maxRecDepth 100000 in
set_option maxHeartbeats 4000000 in
theorem wX1_fittingSecrets_e {p : Program} {l : Launch} {e : Env} {s : State} {m : MethodId} {args : Array Value} {below : List Frame} {meth : Method} {c : Code} {Γ : Gm} {A : Nat → Prop} {g : Gs} {v1 : Nat} {q : Int32} {fin : Int32} (C : Cx p s m args meth c yX1_fittingSecrets cX1_fittingSecrets 6 (some .int) Γ A) (hv1 : kd Γ v1 = some 2) (hf : fX1_fittingSecrets g v1 = some q) (hq : (fun x => x = fin) q) : Wk p l e { frames := 0, cells := 0, slots := 0, locals := 0 } s m args below meth c Γ A g (some (.int fin)) 0 6 [(0, .ref (ad Γ 101)), (1, .ref (ad Γ v1))] [] g := by
  intro H locs ls hw hS hl
  unfold fX1_fittingSecrets at hf
  obtain ⟨hx, hb, hml, hr, hown, htw, hlocks, hE⟩ := id C
  have hown : s.vm.findClass RX1 = some m.cls := hown
  refine lv_iconst (v := 0) hx hb dX1_fittingSecrets_0 (by decide) ?_
  refine lv_istore_n (lv' := [(2, .int 0), (0, .ref (ad Γ 101)), (1, .ref (ad Γ v1))]) hx hb dX1_fittingSecrets_1 rfl hl (by decide) rfl (fun ls hl => ?_)
  refine lv_iconst (v := 0) hx hb dX1_fittingSecrets_2 (by decide) ?_
  refine lv_istore_n (lv' := [(3, .int 0), (2, .int 0), (0, .ref (ad Γ 101)), (1, .ref (ad Γ v1))]) hx hb dX1_fittingSecrets_3 rfl hl (by decide) rfl (fun ls hl => ?_)
  exact lwX1_fittingSecrets_4 C hv1 hf hq H locs ls hw hS (lv_sub hl [2, 3, 1, 0] rfl)

theorem kX1_fittingSecrets {l : Launch} {Γ : Gm} {A : Nat → Prop} {g : Gs} {v1 : Nat} {fin : Int32} (hv1 : kd Γ v1 = some 2) (hf : fX1_fittingSecrets g v1 = some fin) : Kt l yX1_fittingSecrets cX1_fittingSecrets 6 (some .int) 0 0 Γ A g g [.ref (ad Γ 101), .ref (ad Γ v1)] (some (.int fin)) :=
  kt_of (by decide) (Nat.le_of_ble_eq_true rfl) (fun p e s m args below meth c C => wX1_fittingSecrets_e C hv1 hf rfl)
noncomputable def bX1_mostAlike_71 (g : Gs) (v1 : Nat) (v2 : Int32) (v3 : Int32) (v4 : Int32) : Option ((Int32 × Int32 × Gs) ⊕ (Gs × Int32)) :=
  some (.inl (v3, v4 + 1, g))
set_option maxRecDepth 100000 in
set_option maxHeartbeats 4000000 in
theorem wX1_mostAlike_71 {p : Program} {l : Launch} {e : Env} {s : State} {m : MethodId} {args : Array Value} {below : List Frame} {meth : Method} {c : Code} {Γ : Gm} {A : Nat → Prop} {g : Gs} {v1 : Nat} {v2 : Int32} {v3 : Int32} {v4 : Int32} {q : ((Int32 × Int32 × Gs) ⊕ (Gs × Int32))} {fin : Gs × Int32} (C : Cx p s m args meth c yX1_mostAlike cX1_mostAlike 6 (some .int) Γ A) (hv1 : kd Γ v1 = some 2) (hf : bX1_mostAlike_71 g v1 v2 v3 v4 = some q) (hq : (KC (fun st : Int32 × Int32 × Gs => Wk p l e { frames := 3, cells := 0, slots := 0, locals := 64 } s m args below meth c Γ A fin.1 (some (.int fin.2)) 13 6 [(0, .ref (ad Γ 101)), (1, .ref (ad Γ v1)), (2, .int v2), (3, .int st.1), (4, .int st.2.1)] [] st.2.2) (fun x => x = fin)) q) : Wk p l e { frames := 3, cells := 0, slots := 0, locals := 64 } s m args below meth c Γ A fin.1 (some (.int fin.2)) 71 6 [(0, .ref (ad Γ 101)), (1, .ref (ad Γ v1)), (2, .int v2), (3, .int v3), (4, .int v4)] [] g := by
  intro H locs ls hw hS hl
  unfold bX1_mostAlike_71 at hf
  obtain ⟨hx, hb, hml, hr, hown, htw, hlocks, hE⟩ := id C
  have hown : s.vm.findClass RX1 = some m.cls := hown
  refine lv_iinc (v := v4 + 1) (lv' := [(4, .int (v4 + 1)), (0, .ref (ad Γ 101)), (1, .ref (ad Γ v1)), (2, .int v2), (3, .int v3)]) hx hb dX1_mostAlike_71 hl (k := 4) rfl (by rfl) (by decide) rfl (fun ls hl => ?_)
  refine lv_goto (tgt := 13) hx hb dX1_mostAlike_74 (by decide) ?_
  obtain rfl := Option.some.inj hf
  exact hq.1 _ rfl H locs ls hw hS (lv_sub hl [1, 2, 3, 4, 0] rfl)

noncomputable def bX1_mostAlike_13 (g : Gs) (v1 : Nat) (v2 : Int32) (v3 : Int32) (v4 : Int32) : Option ((Int32 × Int32 × Gs) ⊕ (Gs × Int32)) :=
  if (gi (g 101) 1) ≤ v4 then some (.inr ((g, v3))) else gd (inR v4 120) ((fX2_hoursTold (g v1) (ga (g 101) 0 (Int32.toNatClampNeg v4)) v2).bind fun z2 => if z2 < 0 then bX1_mostAlike_71 g v1 v2 v3 v4 else if 60 < z2 then bX1_mostAlike_71 g v1 v2 v3 v4 else gd (inR z2 61) (gd (inR z2 61) ((some (ug g 101 (sa (g 101) 2 (upd (ga (g 101) 2) (Int32.toNatClampNeg z2) ((ga (g 101) 2 (Int32.toNatClampNeg z2)) + 1))))).bind fun g5 => gd (inR z2 61) ((some (ga (g5 101) 2 (Int32.toNatClampNeg z2))).bind fun x7 => (some (mxi v3 x7)).bind fun x8 => bX1_mostAlike_71 g5 v1 v2 x8 v4))))
set_option maxRecDepth 100000 in
set_option maxHeartbeats 4000000 in
theorem wX1_mostAlike_13 {p : Program} {l : Launch} {e : Env} {s : State} {m : MethodId} {args : Array Value} {below : List Frame} {meth : Method} {c : Code} {Γ : Gm} {A : Nat → Prop} {g : Gs} {v1 : Nat} {v2 : Int32} {v3 : Int32} {v4 : Int32} {q : ((Int32 × Int32 × Gs) ⊕ (Gs × Int32))} {fin : Gs × Int32} (C : Cx p s m args meth c yX1_mostAlike cX1_mostAlike 6 (some .int) Γ A) (hv1 : kd Γ v1 = some 2) (hf : bX1_mostAlike_13 g v1 v2 v3 v4 = some q) (hq : (KC (fun st : Int32 × Int32 × Gs => Wk p l e { frames := 3, cells := 0, slots := 0, locals := 64 } s m args below meth c Γ A fin.1 (some (.int fin.2)) 13 6 [(0, .ref (ad Γ 101)), (1, .ref (ad Γ v1)), (2, .int v2), (3, .int st.1), (4, .int st.2.1)] [] st.2.2) (fun x => x = fin)) q) : Wk p l e { frames := 3, cells := 0, slots := 0, locals := 64 } s m args below meth c Γ A fin.1 (some (.int fin.2)) 13 6 [(0, .ref (ad Γ 101)), (1, .ref (ad Γ v1)), (2, .int v2), (3, .int v3), (4, .int v4)] [] g := by
  intro H locs ls hw hS hl
  unfold bX1_mostAlike_13 at hf
  obtain ⟨hx, hb, hml, hr, hown, htw, hlocks, hE⟩ := id C
  have hown : s.vm.findClass RX1 = some m.cls := hown
  refine lv_iload hx hb dX1_mostAlike_13 (lv_at hl 4 rfl) ?_
  refine lv_aload_n hx hb dX1_mostAlike_15 rfl (lv_at hl 0 rfl) ?_
  refine va_get (ci := 1) (v := .int (gi (g 101) 1)) (C := RX1) (T := TX1) (N := 3) hx hb htw uwX1 hown hE.1 (hw _ _ (wf_101 hE)) 0 rfl rfl 1 (by decide) (htw _ mw413) (fun _ h9 => h9) rfl dX1_mostAlike_16 ?_
  refine lv_icmp_ge (tgt := 77) hx hb dX1_mostAlike_19 (by decide) (fun c11 => ?_) (fun c11 => ?_)
  · have hf := ifp c11 hf
    refine lv_iload_n hx hb dX1_mostAlike_77 rfl (lv_at hl 3 rfl) ?_
    obtain rfl := Option.some.inj hf
    have hq := hq.2 _ rfl
    subst hq
    exact rt_i C hw hS dX1_mostAlike_78
  · have hf := ifn c11 hf
    refine lv_aload_n hx hb dX1_mostAlike_22 rfl (lv_at hl 1 rfl) ?_
    refine lv_aload_n hx hb dX1_mostAlike_23 rfl (lv_at hl 0 rfl) ?_
    refine va_get (ci := 1) (v := .ref (aa Γ 101 0)) (C := RX1) (T := TX1) (N := 3) hx hb htw uwX1 hown hE.1 (hw _ _ (wf_101 hE)) 0 rfl rfl 0 (by decide) (htw _ mw411) (fun _ h9 => h9) rfl dX1_mostAlike_24 ?_
    refine lv_iload hx hb dX1_mostAlike_27 (lv_at hl 4 rfl) ?_
    obtain ⟨g1, hf⟩ := gd_some hf
    refine va_iald hx hb hE.1 (hw _ _ (wf_101 hE)) 1 0 rfl rfl (inR_in g1) dX1_mostAlike_29 ?_
    refine lv_iload_n hx hb dX1_mostAlike_30 rfl (lv_at hl 2 rfl) ?_
    obtain ⟨z2, hz2, hf⟩ := bd hf
    refine cl_Vs (rest := []) (kgX2_hoursTold (l := l) (Γ := Γ) (A := A) (G := g) (o := v1) hv1 hz2) ⟨hx, hb, hml, hown, htw⟩ hE hw hS (hw _ _ hv1) (q0 := 0) rfl rfl mw1013 mw1014 mw1015 mw120 mw1016 pdX2_hoursTold ⟨Nat.le_of_ble_eq_true rfl, Nat.le_of_ble_eq_true rfl⟩ rfl rfl hl.1 (Nat.le_of_ble_eq_true rfl) dX1_mostAlike_31 (fun H locs hw hS => ?_)
    refine lv_istore (lv' := [(5, .int z2), (0, .ref (ad Γ 101)), (1, .ref (ad Γ v1)), (2, .int v2), (3, .int v3), (4, .int v4)]) hx hb dX1_mostAlike_34 hl (by decide) rfl (fun ls hl => ?_)
    refine lv_iload hx hb dX1_mostAlike_36 (lv_at hl 0 rfl) ?_
    refine lv_if_lt (tgt := 71) hx hb dX1_mostAlike_38 (by decide) (fun c10 => ?_) (fun c10 => ?_)
    · have hf := ifp c10 hf
      exact wX1_mostAlike_71 C hv1 hf hq H locs ls hw hS (lv_sub hl [1, 2, 3, 4, 5] rfl)
    · have hf := ifn c10 hf
      refine lv_iload hx hb dX1_mostAlike_41 (lv_at hl 0 rfl) ?_
      refine lv_bipush (v := 60) hx hb dX1_mostAlike_43 (by decide) ?_
      refine lv_icmp_gt (tgt := 71) hx hb dX1_mostAlike_45 (by decide) (fun c9 => ?_) (fun c9 => ?_)
      · have hf := ifp c9 hf
        exact wX1_mostAlike_71 C hv1 hf hq H locs ls hw hS (lv_sub hl [1, 2, 3, 4, 5] rfl)
      · have hf := ifn c9 hf
        refine lv_aload_n hx hb dX1_mostAlike_48 rfl (lv_at hl 1 rfl) ?_
        refine va_get (ci := 1) (v := .ref (aa Γ 101 2)) (C := RX1) (T := TX1) (N := 3) hx hb htw uwX1 hown hE.1 (hw _ _ (wf_101 hE)) 0 rfl rfl 2 (by decide) (htw _ mw415) (fun _ h9 => h9) rfl dX1_mostAlike_49 ?_
        refine lv_iload hx hb dX1_mostAlike_52 (lv_at hl 0 rfl) ?_
        refine lv_dup2_11 hx hb dX1_mostAlike_54 rfl rfl ?_
        obtain ⟨g3, hf⟩ := gd_some hf
        refine va_iald hx hb hE.1 (hw _ _ (wf_101 hE)) 2 0 rfl rfl (inR_in g3) dX1_mostAlike_55 ?_
        refine lv_iconst (v := 1) hx hb dX1_mostAlike_56 (by decide) ?_
        refine lv_iadd hx hb dX1_mostAlike_57 ?_
        obtain ⟨g4, hf⟩ := gd_some hf
        obtain ⟨g5, hg5, hf⟩ := bd hf
        have hg5 := Option.some.inj hg5
        refine wo_iastG hx hb hE hw hS (wf_101 hE) (q0 := 2) rfl (inR_in g4) (sa1_2 rfl) hg5 dX1_mostAlike_58 (fun H locs hw hS => ?_)
        refine lv_iload_n hx hb dX1_mostAlike_59 rfl (lv_at hl 4 rfl) ?_
        refine lv_aload_n hx hb dX1_mostAlike_60 rfl (lv_at hl 1 rfl) ?_
        refine va_get (ci := 1) (v := .ref (aa Γ 101 2)) (C := RX1) (T := TX1) (N := 3) hx hb htw uwX1 hown hE.1 (hw _ _ (wf_101 hE)) 0 rfl rfl 2 (by decide) (htw _ mw415) (fun _ h9 => h9) rfl dX1_mostAlike_61 ?_
        refine lv_iload hx hb dX1_mostAlike_64 (lv_at hl 0 rfl) ?_
        obtain ⟨g6, hf⟩ := gd_some hf
        refine va_iald hx hb hE.1 (hw _ _ (wf_101 hE)) 2 0 rfl rfl (inR_in g6) dX1_mostAlike_66 ?_
        obtain ⟨x7, hx7, hf⟩ := bd hf
        have hx7 := Option.some.inj hx7
        refine tp1i hx7 ?_
        refine va_mmax hx hb (hml.trans hl.1.symm) hown (htw _ mw1050) (htw _ mw225) (htw _ mw122) (htw _ mw226) (Nat.le_of_ble_eq_true rfl) (Nat.le_of_ble_eq_true rfl) (Nat.le_refl _) (Nat.le_refl _) dX1_mostAlike_67 ?_
        obtain ⟨x8, hx8, hf⟩ := bd hf
        have hx8 := Option.some.inj hx8
        refine tp1i hx8 ?_
        refine lv_istore_n (lv' := [(3, .int x8), (5, .int z2), (0, .ref (ad Γ 101)), (1, .ref (ad Γ v1)), (2, .int v2), (4, .int v4)]) hx hb dX1_mostAlike_70 rfl hl (by decide) rfl (fun ls hl => ?_)
        exact wX1_mostAlike_71 C hv1 hf hq H locs ls hw hS (lv_sub hl [2, 3, 4, 0, 5] rfl)

set_option maxRecDepth 100000 in
set_option maxHeartbeats 4000000 in
theorem lwX1_mostAlike_13 {p : Program} {l : Launch} {e : Env} {s : State} {m : MethodId} {args : Array Value} {below : List Frame} {meth : Method} {c : Code} {Γ : Gm} {A : Nat → Prop} {g : Gs} {v1 : Nat} {v2 : Int32} {v3 : Int32} {v4 : Int32} {q : (Gs × Int32)} {fin : Gs × Int32} (C : Cx p s m args meth c yX1_mostAlike cX1_mostAlike 6 (some .int) Γ A) (hv1 : kd Γ v1 = some 2) (hf : iter (fun st : Int32 × Int32 × Gs => bX1_mostAlike_13 st.2.2 v1 v2 st.1 st.2.1) (v3, v4, g) = some q) (hq : (fun x => x = fin) q) : Wk p l e { frames := 3, cells := 0, slots := 0, locals := 64 } s m args below meth c Γ A fin.1 (some (.int fin.2)) 13 6 [(0, .ref (ad Γ 101)), (1, .ref (ad Γ v1)), (2, .int v2), (3, .int v3), (4, .int v4)] [] g := by
  intro H locs ls hw hS hl
  refine iter_walk (P := (fun st : Int32 × Int32 × Gs => Wk p l e { frames := 3, cells := 0, slots := 0, locals := 64 } s m args below meth c Γ A fin.1 (some (.int fin.2)) 13 6 [(0, .ref (ad Γ 101)), (1, .ref (ad Γ v1)), (2, .int v2), (3, .int st.1), (4, .int st.2.1)] [] st.2.2)) (K := (fun x => x = fin)) (fun st q hq1 h1 h2 => ?_) hf hq H locs ls hw hS hl
  exact wX1_mostAlike_13 (g := st.2.2) (v3 := st.1) (v4 := st.2.1) C hv1 hq1 ⟨h1, h2⟩

noncomputable def fX1_mostAlike (g : Gs) (v1 : Nat) (v2 : Int32) : Option (Gs × Int32) :=
  (some (ug g 101 (sa (g 101) 2 (fl 61 0 (ga (g 101) 2))))).bind fun g12 => iter (fun st : Int32 × Int32 × Gs => bX1_mostAlike_13 st.2.2 v1 v2 st.1 st.2.1) (0, 0, g12)
set_option maxRecDepth 100000 in
set_option maxHeartbeats 4000000 in
theorem wX1_mostAlike_e {p : Program} {l : Launch} {e : Env} {s : State} {m : MethodId} {args : Array Value} {below : List Frame} {meth : Method} {c : Code} {Γ : Gm} {A : Nat → Prop} {g : Gs} {v1 : Nat} {v2 : Int32} {q : (Gs × Int32)} {fin : Gs × Int32} (C : Cx p s m args meth c yX1_mostAlike cX1_mostAlike 6 (some .int) Γ A) (hv1 : kd Γ v1 = some 2) (hf : fX1_mostAlike g v1 v2 = some q) (hq : (fun x => x = fin) q) : Wk p l e { frames := 3, cells := 0, slots := 0, locals := 64 } s m args below meth c Γ A fin.1 (some (.int fin.2)) 0 6 [(0, .ref (ad Γ 101)), (1, .ref (ad Γ v1)), (2, .int v2)] [] g := by
  intro H locs ls hw hS hl
  unfold fX1_mostAlike at hf
  obtain ⟨hx, hb, hml, hr, hown, htw, hlocks, hE⟩ := id C
  have hown : s.vm.findClass RX1 = some m.cls := hown
  refine lv_aload_n hx hb dX1_mostAlike_0 rfl (lv_at hl 0 rfl) ?_
  refine va_get (ci := 1) (v := .ref (aa Γ 101 2)) (C := RX1) (T := TX1) (N := 3) hx hb htw uwX1 hown hE.1 (hw _ _ (wf_101 hE)) 0 rfl rfl 2 (by decide) (htw _ mw415) (fun _ h9 => h9) rfl dX1_mostAlike_1 ?_
  refine lv_iconst (v := 0) hx hb dX1_mostAlike_4 (by decide) ?_
  obtain ⟨g12, hg12, hf⟩ := bd hf
  have hg12 := Option.some.inj hg12
  refine cl_Sv (rest := []) (kfill (l := l) (A := A) (G := g) (r := (g 101)) (v := 0) (k := 2) (q0 := 2) (wf_101 hE) (Nat.lt_of_lt_of_le (Nat.lt_succ_self 61) (Nat.le_of_ble_eq_true rfl)) (fun _ => rfl) (fun _ _ => sa1_2 rfl)) ⟨hx, hb, hml, hown, htw⟩ hE (wo_gs hw) hS mw1049 mw605 mw135 mw606 pdJ7_fill_53178 ⟨Nat.le_of_ble_eq_true rfl, Nat.le_of_ble_eq_true rfl⟩ rfl rfl hl.1 (Nat.le_of_ble_eq_true rfl) dX1_mostAlike_5 (fun H locs hw hS => ?_)
  rw [hg12] at hw
  refine lv_iconst (v := 0) hx hb dX1_mostAlike_8 (by decide) ?_
  refine lv_istore_n (lv' := [(3, .int 0), (0, .ref (ad Γ 101)), (1, .ref (ad Γ v1)), (2, .int v2)]) hx hb dX1_mostAlike_9 rfl hl (by decide) rfl (fun ls hl => ?_)
  refine lv_iconst (v := 0) hx hb dX1_mostAlike_10 (by decide) ?_
  refine lv_istore (lv' := [(4, .int 0), (3, .int 0), (0, .ref (ad Γ 101)), (1, .ref (ad Γ v1)), (2, .int v2)]) hx hb dX1_mostAlike_11 hl (by decide) rfl (fun ls hl => ?_)
  exact lwX1_mostAlike_13 C hv1 hf hq H locs ls hw hS (lv_sub hl [2, 3, 4, 1, 0] rfl)

theorem kX1_mostAlike {l : Launch} {Γ : Gm} {A : Nat → Prop} {g : Gs} {v1 : Nat} {v2 : Int32} {fin : Gs × Int32} (hv1 : kd Γ v1 = some 2) (hf : fX1_mostAlike g v1 v2 = some fin) : Kt l yX1_mostAlike cX1_mostAlike 6 (some .int) 3 64 Γ A g fin.1 [.ref (ad Γ 101), .ref (ad Γ v1), .int v2] (some (.int fin.2)) :=
  kt_of (by decide) (Nat.le_of_ble_eq_true rfl) (fun p e s m args below meth c C => wX1_mostAlike_e C hv1 hf rfl)
