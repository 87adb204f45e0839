noncomputable def bX4_spells_39 (r : Rec) (v1 : Nat) (v2 : Int32) : Option (Int32 ⊕ Int32) :=
  (fJ0_length_8abf5 v1).bind fun z1 => if z1 ≤ v2 then some (.inr (1)) else gd (inR ((gi r 3) + v2) 600) ((fJ0_charAt_5068e v1 v2).bind fun z3 => if (ga r 0 (Int32.toNatClampNeg ((gi r 3) + v2))) = z3 then some (.inl (v2 + 1)) else some (.inr (0)))
set_option maxRecDepth 100000 in
set_option maxHeartbeats 4000000 in
theorem wX4_spells_39 {p : Program} {l : Launch} {e : Env} {s : State} {m : MethodId} {args : Array Value} {below : List Frame} {meth : Method} {c : Code} {Γ : Gm} {A : Nat → Prop} {G : Gs} {o : Nat} {r : Rec} {v1 : Nat} {v2 : Int32} {q : (Int32 ⊕ Int32)} {fin : Int32} (C : Cx p s m args meth c yX4_spells cX4_spells 3 (some .boolean) Γ A) (hk : kd Γ o = some 4) (hv1 : v1 < 17) (hf : bX4_spells_39 r v1 v2 = some q) (hq : (KC (fun st : Int32 => Wk p l e { frames := 4, cells := 0, slots := 0, locals := 85 } s m args below meth c Γ A (ug G o r) (some (.int fin)) 39 3 [(0, .ref (ad Γ o)), (1, .ref (kK Γ v1)), (2, .int st)] [] (ug G o r)) (fun x => x = fin)) q) : Wk p l e { frames := 4, cells := 0, slots := 0, locals := 85 } s m args below meth c Γ A (ug G o r) (some (.int fin)) 39 3 [(0, .ref (ad Γ o)), (1, .ref (kK Γ v1)), (2, .int v2)] [] (ug G o r) := by
  intro H locs ls hw hS hl
  unfold bX4_spells_39 at hf
  obtain ⟨hx, hb, hml, hr, hown, htw, hlocks, hE⟩ := id C
  have hown : s.vm.findClass RX4 = some m.cls := hown
  refine lv_iload_n hx hb dX4_spells_39 rfl (lv_at hl 2 rfl) ?_
  refine lv_aload_n hx hb dX4_spells_40 rfl (lv_at hl 1 rfl) ?_
  obtain ⟨z1, hz1, hf⟩ := bd hf
  refine cl_T (rest := [.int v2]) hv1 (kJ0_length_8abf5 (l := l) (Γ := Γ) (A := A) (G := (ug G o r)) hv1 hz1) ⟨hx, hb, hml, hown, htw⟩ hE hw hS mw530 mw531 mw532 mw131 mw533 pdJ0_length_8abf5 ⟨Nat.le_of_ble_eq_true rfl, Nat.le_of_ble_eq_true rfl⟩ rfl rfl hl.1 (Nat.le_of_ble_eq_true rfl) dX4_spells_41 (fun H locs hw hS => ?_)
  refine lv_icmp_ge (tgt := 74) hx hb dX4_spells_44 (by decide) (fun c5 => ?_) (fun c5 => ?_)
  · have hf := ifp c5 hf
    refine lv_iconst (v := 1) hx hb dX4_spells_74 (by decide) ?_
    obtain rfl := Option.some.inj hf
    have hq := hq.2 _ rfl
    subst hq
    exact rt_z C (Or.inr rfl) hw hS dX4_spells_75
  · have hf := ifn c5 hf
    refine lv_aload_n hx hb dX4_spells_47 rfl (lv_at hl 0 rfl) ?_
    refine va_get (ci := 4) (v := .ref (aa Γ o 0)) (C := RX4) (T := TX4) (N := 14) hx hb htw uwX4 hown hE.1 (wo_me hw hk) 0 rfl rfl 0 (by decide) (htw _ mw283) (fun _ h9 => h9) rfl dX4_spells_48 ?_
    refine lv_aload_n hx hb dX4_spells_51 rfl (lv_at hl 0 rfl) ?_
    refine va_get (ci := 4) (v := .int (gi r 3)) (C := RX4) (T := TX4) (N := 14) hx hb htw uwX4 hown hE.1 (wo_me hw hk) 0 rfl rfl 3 (by decide) (htw _ mw286) (fun _ h9 => h9) rfl dX4_spells_52 ?_
    refine lv_iload_n hx hb dX4_spells_55 rfl (lv_at hl 2 rfl) ?_
    refine lv_iadd hx hb dX4_spells_56 ?_
    obtain ⟨g2, hf⟩ := gd_some hf
    refine va_bald hx hb hE.1 (wo_me hw hk) 1 1 rfl rfl (inR_in g2) dX4_spells_57 ?_
    refine lv_aload_n hx hb dX4_spells_58 rfl (lv_at hl 1 rfl) ?_
    refine lv_iload_n hx hb dX4_spells_59 rfl (lv_at hl 2 rfl) ?_
    obtain ⟨z3, hz3, hf⟩ := bd hf
    refine cl_T (rest := [.int (ga r 0 (Int32.toNatClampNeg ((gi r 3) + v2)))]) hv1 (kJ0_charAt_5068e (l := l) (Γ := Γ) (A := A) (G := (ug G o r)) hv1 hz3) ⟨hx, hb, hml, hown, htw⟩ hE hw hS mw540 mw541 mw542 mw131 mw543 pdJ0_charAt_5068e ⟨Nat.le_of_ble_eq_true rfl, Nat.le_of_ble_eq_true rfl⟩ rfl rfl hl.1 (Nat.le_of_ble_eq_true rfl) dX4_spells_60 (fun H locs hw hS => ?_)
    refine lv_icmp_eq (tgt := 68) hx hb dX4_spells_63 (by decide) (fun c4 => ?_) (fun c4 => ?_)
    · have hf := ifp c4 hf
      refine lv_iinc (v := v2 + 1) (lv' := [(2, .int (v2 + 1)), (0, .ref (ad Γ o)), (1, .ref (kK Γ v1))]) hx hb dX4_spells_68 hl (k := 2) rfl (by rfl) (by decide) rfl (fun ls hl => ?_)
      refine lv_goto (tgt := 39) hx hb dX4_spells_71 (by decide) ?_
      obtain rfl := Option.some.inj hf
      exact hq.1 _ rfl H locs ls hw hS (lv_sub hl [1, 2, 0] rfl)
    · have hf := ifn c4 hf
      refine lv_iconst (v := 0) hx hb dX4_spells_66 (by decide) ?_
      obtain rfl := Option.some.inj hf
      have hq := hq.2 _ rfl
      subst hq
      exact rt_z C (Or.inl rfl) hw hS dX4_spells_67

set_option maxRecDepth 100000 in
set_option maxHeartbeats 4000000 in
theorem lwX4_spells_39 {p : Program} {l : Launch} {e : Env} {s : State} {m : MethodId} {args : Array Value} {below : List Frame} {meth : Method} {c : Code} {Γ : Gm} {A : Nat → Prop} {G : Gs} {o : Nat} {r : Rec} {v1 : Nat} {v2 : Int32} {q : Int32} {fin : Int32} (C : Cx p s m args meth c yX4_spells cX4_spells 3 (some .boolean) Γ A) (hk : kd Γ o = some 4) (hv1 : v1 < 17) (hf : iter (fun st : Int32 => bX4_spells_39 r v1 st) v2 = some q) (hq : (fun x => x = fin) q) : Wk p l e { frames := 4, cells := 0, slots := 0, locals := 85 } s m args below meth c Γ A (ug G o r) (some (.int fin)) 39 3 [(0, .ref (ad Γ o)), (1, .ref (kK Γ v1)), (2, .int v2)] [] (ug G o r) := by
  intro H locs ls hw hS hl
  refine iter_walk (P := (fun st : Int32 => Wk p l e { frames := 4, cells := 0, slots := 0, locals := 85 } s m args below meth c Γ A (ug G o r) (some (.int fin)) 39 3 [(0, .ref (ad Γ o)), (1, .ref (kK Γ v1)), (2, .int st)] [] (ug G o r))) (K := (fun x => x = fin)) (fun st q hq1 h1 h2 => ?_) hf hq H locs ls hw hS hl
  exact wX4_spells_39 (v2 := st) C hk hv1 hq1 ⟨h1, h2⟩

noncomputable def fX4_spells (r : Rec) (v1 : Nat) : Option Int32 :=
  if (gi r 2) = 1 then (fJ0_length_8abf5 v1).bind fun z6 => if ((gi r 4) - (gi r 3)) = z6 then if (gi r 4) ≤ (gi r 1) then iter (fun st : Int32 => bX4_spells_39 r v1 st) 0 else some (0) else some (0) else some (0)
set_option maxRecDepth 100000 in
set_option maxHeartbeats 4000000 in
theorem wX4_spells_e {p : Program} {l : Launch} {e : Env} {s : State} {m : MethodId} {args : Array Value} {below : List Frame} {meth : Method} {c : Code} {Γ : Gm} {A : Nat → Prop} {G : Gs} {o : Nat} {r : Rec} {v1 : Nat} {q : Int32} {fin : Int32} (C : Cx p s m args meth c yX4_spells cX4_spells 3 (some .boolean) Γ A) (hk : kd Γ o = some 4) (hv1 : v1 < 17) (hf : fX4_spells r v1 = some q) (hq : (fun x => x = fin) q) : Wk p l e { frames := 4, cells := 0, slots := 0, locals := 85 } s m args below meth c Γ A (ug G o r) (some (.int fin)) 0 3 [(0, .ref (ad Γ o)), (1, .ref (kK Γ v1))] [] (ug G o r) := by
  intro H locs ls hw hS hl
  unfold fX4_spells at hf
  obtain ⟨hx, hb, hml, hr, hown, htw, hlocks, hE⟩ := id C
  have hown : s.vm.findClass RX4 = some m.cls := hown
  refine lv_aload_n hx hb dX4_spells_0 rfl (lv_at hl 0 rfl) ?_
  refine va_get (ci := 4) (v := .int (gi r 2)) (C := RX4) (T := TX4) (N := 14) hx hb htw uwX4 hown hE.1 (wo_me hw hk) 0 rfl rfl 2 (by decide) (htw _ mw285) (fun _ h9 => h9) rfl dX4_spells_1 ?_
  refine lv_iconst (v := 1) hx hb dX4_spells_4 (by decide) ?_
  refine lv_icmp_ne (tgt := 35) hx hb dX4_spells_5 (by decide) (fun c9 => ?_) (fun c9 => ?_)
  · have hf := ifn c9 hf
    refine lv_iconst (v := 0) hx hb dX4_spells_35 (by decide) ?_
    obtain rfl := Option.some.inj hf
    subst hq
    exact rt_z C (Or.inl rfl) hw hS dX4_spells_36
  · have hf := ifp c9 hf
    refine lv_aload_n hx hb dX4_spells_8 rfl (lv_at hl 0 rfl) ?_
    refine va_get (ci := 4) (v := .int (gi r 4)) (C := RX4) (T := TX4) (N := 14) hx hb htw uwX4 hown hE.1 (wo_me hw hk) 0 rfl rfl 4 (by decide) (htw _ mw287) (fun _ h9 => h9) rfl dX4_spells_9 ?_
    refine lv_aload_n hx hb dX4_spells_12 rfl (lv_at hl 0 rfl) ?_
    refine va_get (ci := 4) (v := .int (gi r 3)) (C := RX4) (T := TX4) (N := 14) hx hb htw uwX4 hown hE.1 (wo_me hw hk) 0 rfl rfl 3 (by decide) (htw _ mw286) (fun _ h9 => h9) rfl dX4_spells_13 ?_
    refine lv_isub hx hb dX4_spells_16 ?_
    refine lv_aload_n hx hb dX4_spells_17 rfl (lv_at hl 1 rfl) ?_
    obtain ⟨z6, hz6, hf⟩ := bd hf
    refine cl_T (rest := [.int ((gi r 4) - (gi r 3))]) hv1 (kJ0_length_8abf5 (l := l) (Γ := Γ) (A := A) (G := (ug G o r)) hv1 hz6) ⟨hx, hb, hml, hown, htw⟩ hE hw hS mw530 mw531 mw532 mw131 mw533 pdJ0_length_8abf5 ⟨Nat.le_of_ble_eq_true rfl, Nat.le_of_ble_eq_true rfl⟩ rfl rfl hl.1 (Nat.le_of_ble_eq_true rfl) dX4_spells_18 (fun H locs hw hS => ?_)
    refine lv_icmp_ne (tgt := 35) hx hb dX4_spells_21 (by decide) (fun c8 => ?_) (fun c8 => ?_)
    · have hf := ifn c8 hf
      refine lv_iconst (v := 0) hx hb dX4_spells_35 (by decide) ?_
      obtain rfl := Option.some.inj hf
      subst hq
      exact rt_z C (Or.inl rfl) hw hS dX4_spells_36
    · have hf := ifp c8 hf
      refine lv_aload_n hx hb dX4_spells_24 rfl (lv_at hl 0 rfl) ?_
      refine va_get (ci := 4) (v := .int (gi r 4)) (C := RX4) (T := TX4) (N := 14) hx hb htw uwX4 hown hE.1 (wo_me hw hk) 0 rfl rfl 4 (by decide) (htw _ mw287) (fun _ h9 => h9) rfl dX4_spells_25 ?_
      refine lv_aload_n hx hb dX4_spells_28 rfl (lv_at hl 0 rfl) ?_
      refine va_get (ci := 4) (v := .int (gi r 1)) (C := RX4) (T := TX4) (N := 14) hx hb htw uwX4 hown hE.1 (wo_me hw hk) 0 rfl rfl 1 (by decide) (htw _ mw284) (fun _ h9 => h9) rfl dX4_spells_29 ?_
      refine lv_icmp_le (tgt := 37) hx hb dX4_spells_32 (by decide) (fun c7 => ?_) (fun c7 => ?_)
      · have hf := ifp c7 hf
        refine lv_iconst (v := 0) hx hb dX4_spells_37 (by decide) ?_
        refine lv_istore_n (lv' := [(2, .int 0), (0, .ref (ad Γ o)), (1, .ref (kK Γ v1))]) hx hb dX4_spells_38 rfl hl (by decide) rfl (fun ls hl => ?_)
        exact lwX4_spells_39 C hk hv1 hf hq H locs ls hw hS (lv_sub hl [1, 2, 0] rfl)
      · have hf := ifn c7 hf
        refine lv_iconst (v := 0) hx hb dX4_spells_35 (by decide) ?_
        obtain rfl := Option.some.inj hf
        subst hq
        exact rt_z C (Or.inl rfl) hw hS dX4_spells_36

theorem kX4_spells {l : Launch} {Γ : Gm} {A : Nat → Prop} {G : Gs} {o : Nat} {r : Rec} {v1 : Nat} {fin : Int32} (hk : kd Γ o = some 4) (hv1 : v1 < 17) (hf : fX4_spells r v1 = some fin) : Kt l yX4_spells cX4_spells 3 (some .boolean) 4 85 Γ A (ug G o r) (ug G o r) [.ref (ad Γ o), .ref (kK Γ v1)] (some (.int fin)) :=
  kt_of (by decide) (Nat.le_of_ble_eq_true rfl) (fun p e s m args below meth c C => wX4_spells_e C hk hv1 hf rfl)
theorem kgX4_spells {l : Launch} {Γ : Gm} {A : Nat → Prop} {G : Gs} {o : Nat} {v1 : Nat} {fin : Int32} (hk : kd Γ o = some 4) (hv1 : v1 < 17) (hf : fX4_spells (G o) v1 = some fin) : Kt l yX4_spells cX4_spells 3 (some .boolean) 4 85 Γ A G G [.ref (ad Γ o), .ref (kK Γ v1)] (some (.int fin)) := by
  have h := kX4_spells (l := l) (A := A) (G := G) (r := G o) hk hv1 hf
  rw [ug_self] at h
  exact h
noncomputable def bX4_verbOf_17 (r : Rec) (v1 : Int32) (v2 : Int32) : Option (Int32 ⊕ Int32) :=
  gd (inR (v1 + 1) (sLn 0)) (if (sDt 0 (Int32.toNatClampNeg (v1 + 1))) ≤ v2 then some (.inr ((-1))) else (fX4_wordOf v2).bind fun z2 => gd (decide (z2 < 17)) ((fX4_spells r z2).bind fun z4 => if z4 = 0 then some (.inl (v2 + 1)) else some (.inr (v2))))
set_option maxRecDepth 100000 in
set_option maxHeartbeats 4000000 in
theorem wX4_verbOf_17 {p : Program} {l : Launch} {e : Env} {s : State} {m : MethodId} {args : Array Value} {below : List Frame} {meth : Method} {c : Code} {Γ : Gm} {A : Nat → Prop} {G : Gs} {o : Nat} {r : Rec} {v1 : Int32} {v2 : Int32} {q : (Int32 ⊕ Int32)} {fin : Int32} (C : Cx p s m args meth c yX4_verbOf cX4_verbOf 3 (some .int) Γ A) (hk : kd Γ o = some 4) (hf : bX4_verbOf_17 r v1 v2 = some q) (hq : (KC (fun st : Int32 => Wk p l e { frames := 5, cells := 0, slots := 0, locals := 107 } s m args below meth c Γ A (ug G o r) (some (.int fin)) 17 3 [(0, .ref (ad Γ o)), (1, .int v1), (2, .int st)] [] (ug G o r)) (fun x => x = fin)) q) : Wk p l e { frames := 5, cells := 0, slots := 0, locals := 107 } s m args below meth c Γ A (ug G o r) (some (.int fin)) 17 3 [(0, .ref (ad Γ o)), (1, .int v1), (2, .int v2)] [] (ug G o r) := by
  intro H locs ls hw hS hl
  unfold bX4_verbOf_17 at hf
  obtain ⟨hx, hb, hml, hr, hown, htw, hlocks, hE⟩ := id C
  have hown : s.vm.findClass RX4 = some m.cls := hown
  refine lv_iload_n hx hb dX4_verbOf_17 rfl (lv_at hl 2 rfl) ?_
  refine va_getsN (C := "TarnishTurns") hx hb (hE.2.2.2.2.1 0 (by decide)).1 hS hown (va_Nw.use rfl (hE.2.2.2.2.2.2.2.2.1 0 (by decide))) (fun _ h9 => h9) dX4_verbOf_18 ?_
  refine lv_iload_n hx hb dX4_verbOf_21 rfl (lv_at hl 1 rfl) ?_
  refine lv_iconst (v := 1) hx hb dX4_verbOf_22 (by decide) ?_
  refine lv_iadd hx hb dX4_verbOf_23 ?_
  obtain ⟨g1, hf⟩ := gd_some hf
  refine va_ti (v := .int (sDt 0 (Int32.toNatClampNeg (v1 + 1)))) hx hb (hE.2.2.2.2.1 0 (by decide)).2 hS (inR_in g1) rfl dX4_verbOf_24 ?_
  refine lv_icmp_ge (tgt := 47) hx hb dX4_verbOf_25 (by decide) (fun c6 => ?_) (fun c6 => ?_)
  · have hf := ifp c6 hf
    refine lv_iconst (v := (-1)) hx hb dX4_verbOf_47 (by decide) ?_
    obtain rfl := Option.some.inj hf
    have hq := hq.2 _ rfl
    subst hq
    exact rt_i C hw hS dX4_verbOf_48
  · have hf := ifn c6 hf
    refine lv_aload_n hx hb dX4_verbOf_28 rfl (lv_at hl 0 rfl) ?_
    refine lv_iload_n hx hb dX4_verbOf_29 rfl (lv_at hl 2 rfl) ?_
    obtain ⟨z2, hz2, hf⟩ := bd hf
    refine cl_Ss (rest := [.ref (ad Γ o)]) (kX4_wordOf (l := l) (Γ := Γ) (A := A) (G := (ug G o r)) hz2) ⟨hx, hb, hml, hown, htw⟩ hE hw hS mw510 mw511 mw123 mw512 pdX4_wordOf ⟨Nat.le_of_ble_eq_true rfl, Nat.le_of_ble_eq_true rfl⟩ rfl rfl hl.1 (Nat.le_of_ble_eq_true rfl) dX4_verbOf_30 (fun H locs hw hS => ?_)
    obtain ⟨g3, hf⟩ := gd_some hf
    obtain ⟨z4, hz4, hf⟩ := bd hf
    refine cl_Vs (rest := []) (kX4_spells (l := l) (Γ := Γ) (A := A) (G := G) (o := o) hk (of_decide_eq_true g3) hz4) ⟨hx, hb, hml, hown, htw⟩ hE hw hS (wo_me hw hk) (q0 := 0) rfl rfl mw526 mw528 mw4 mw123 mw529 pdX4_spells ⟨Nat.le_of_ble_eq_true rfl, Nat.le_of_ble_eq_true rfl⟩ rfl rfl hl.1 (Nat.le_of_ble_eq_true rfl) dX4_verbOf_33 (fun H locs hw hS => ?_)
    refine lv_if_eq (tgt := 41) hx hb dX4_verbOf_36 (by decide) (fun c5 => ?_) (fun c5 => ?_)
    · have hf := ifp c5 hf
      refine lv_iinc (v := v2 + 1) (lv' := [(2, .int (v2 + 1)), (0, .ref (ad Γ o)), (1, .int v1)]) hx hb dX4_verbOf_41 hl (k := 2) rfl (by rfl) (by decide) rfl (fun ls hl => ?_)
      refine lv_goto (tgt := 17) hx hb dX4_verbOf_44 (by decide) ?_
      obtain rfl := Option.some.inj hf
      exact hq.1 _ rfl H locs ls hw hS (lv_sub hl [1, 2, 0] rfl)
    · have hf := ifn c5 hf
      refine lv_iload_n hx hb dX4_verbOf_39 rfl (lv_at hl 2 rfl) ?_
      obtain rfl := Option.some.inj hf
      have hq := hq.2 _ rfl
      subst hq
      exact rt_i C hw hS dX4_verbOf_40

set_option maxRecDepth 100000 in
set_option maxHeartbeats 4000000 in
theorem lwX4_verbOf_17 {p : Program} {l : Launch} {e : Env} {s : State} {m : MethodId} {args : Array Value} {below : List Frame} {meth : Method} {c : Code} {Γ : Gm} {A : Nat → Prop} {G : Gs} {o : Nat} {r : Rec} {v1 : Int32} {v2 : Int32} {q : Int32} {fin : Int32} (C : Cx p s m args meth c yX4_verbOf cX4_verbOf 3 (some .int) Γ A) (hk : kd Γ o = some 4) (hf : iter (fun st : Int32 => bX4_verbOf_17 r v1 st) v2 = some q) (hq : (fun x => x = fin) q) : Wk p l e { frames := 5, cells := 0, slots := 0, locals := 107 } s m args below meth c Γ A (ug G o r) (some (.int fin)) 17 3 [(0, .ref (ad Γ o)), (1, .int v1), (2, .int v2)] [] (ug G o r) := by
  intro H locs ls hw hS hl
  refine iter_walk (P := (fun st : Int32 => Wk p l e { frames := 5, cells := 0, slots := 0, locals := 107 } s m args below meth c Γ A (ug G o r) (some (.int fin)) 17 3 [(0, .ref (ad Γ o)), (1, .int v1), (2, .int st)] [] (ug G o r))) (K := (fun x => x = fin)) (fun st q hq1 h1 h2 => ?_) hf hq H locs ls hw hS hl
  exact wX4_verbOf_17 (v2 := st) C hk hq1 ⟨h1, h2⟩

noncomputable def fX4_verbOf (r : Rec) (v1 : Int32) : Option Int32 :=
  if v1 < 0 then some ((-1)) else if v1 < 4 then gd (inR v1 (sLn 0)) ((some (sDt 0 (Int32.toNatClampNeg v1))).bind fun x8 => iter (fun st : Int32 => bX4_verbOf_17 r v1 st) x8) else some ((-1))
set_option maxRecDepth 100000 in
set_option maxHeartbeats 4000000 in
theorem wX4_verbOf_e {p : Program} {l : Launch} {e : Env} {s : State} {m : MethodId} {args : Array Value} {below : List Frame} {meth : Method} {c : Code} {Γ : Gm} {A : Nat → Prop} {G : Gs} {o : Nat} {r : Rec} {v1 : Int32} {q : Int32} {fin : Int32} (C : Cx p s m args meth c yX4_verbOf cX4_verbOf 3 (some .int) Γ A) (hk : kd Γ o = some 4) (hf : fX4_verbOf r v1 = some q) (hq : (fun x => x = fin) q) : Wk p l e { frames := 5, cells := 0, slots := 0, locals := 107 } s m args below meth c Γ A (ug G o r) (some (.int fin)) 0 3 [(0, .ref (ad Γ o)), (1, .int v1)] [] (ug G o r) := by
  intro H locs ls hw hS hl
  unfold fX4_verbOf at hf
  obtain ⟨hx, hb, hml, hr, hown, htw, hlocks, hE⟩ := id C
  have hown : s.vm.findClass RX4 = some m.cls := hown
  refine lv_iload_n hx hb dX4_verbOf_0 rfl (lv_at hl 1 rfl) ?_
  refine lv_if_lt (tgt := 9) hx hb dX4_verbOf_1 (by decide) (fun c10 => ?_) (fun c10 => ?_)
  · have hf := ifp c10 hf
    refine lv_iconst (v := (-1)) hx hb dX4_verbOf_9 (by decide) ?_
    obtain rfl := Option.some.inj hf
    subst hq
    exact rt_i C hw hS dX4_verbOf_10
  · have hf := ifn c10 hf
    refine lv_iload_n hx hb dX4_verbOf_4 rfl (lv_at hl 1 rfl) ?_
    refine lv_iconst (v := 4) hx hb dX4_verbOf_5 (by decide) ?_
    refine lv_icmp_lt (tgt := 11) hx hb dX4_verbOf_6 (by decide) (fun c9 => ?_) (fun c9 => ?_)
    · have hf := ifp c9 hf
      refine va_getsN (C := "TarnishTurns") hx hb (hE.2.2.2.2.1 0 (by decide)).1 hS hown (va_Nw.use rfl (hE.2.2.2.2.2.2.2.2.1 0 (by decide))) (fun _ h9 => h9) dX4_verbOf_11 ?_
      refine lv_iload_n hx hb dX4_verbOf_14 rfl (lv_at hl 1 rfl) ?_
      obtain ⟨g7, hf⟩ := gd_some hf
      refine va_ti (v := .int (sDt 0 (Int32.toNatClampNeg v1))) hx hb (hE.2.2.2.2.1 0 (by decide)).2 hS (inR_in g7) rfl dX4_verbOf_15 ?_
      obtain ⟨x8, hx8, hf⟩ := bd hf
      have hx8 := Option.some.inj hx8
      refine tp1i hx8 ?_
      refine lv_istore_n (lv' := [(2, .int x8), (0, .ref (ad Γ o)), (1, .int v1)]) hx hb dX4_verbOf_16 rfl hl (by decide) rfl (fun ls hl => ?_)
      exact lwX4_verbOf_17 C hk hf hq H locs ls hw hS (lv_sub hl [1, 2, 0] rfl)
    · have hf := ifn c9 hf
      refine lv_iconst (v := (-1)) hx hb dX4_verbOf_9 (by decide) ?_
      obtain rfl := Option.some.inj hf
      subst hq
      exact rt_i C hw hS dX4_verbOf_10

theorem kX4_verbOf {l : Launch} {Γ : Gm} {A : Nat → Prop} {G : Gs} {o : Nat} {r : Rec} {v1 : Int32} {fin : Int32} (hk : kd Γ o = some 4) (hf : fX4_verbOf r v1 = some fin) : Kt l yX4_verbOf cX4_verbOf 3 (some .int) 5 107 Γ A (ug G o r) (ug G o r) [.ref (ad Γ o), .int v1] (some (.int fin)) :=
  kt_of (by decide) (Nat.le_of_ble_eq_true rfl) (fun p e s m args below meth c C => wX4_verbOf_e C hk hf rfl)
theorem kgX4_verbOf {l : Launch} {Γ : Gm} {A : Nat → Prop} {G : Gs} {o : Nat} {v1 : Int32} {fin : Int32} (hk : kd Γ o = some 4) (hf : fX4_verbOf (G o) v1 = some fin) : Kt l yX4_verbOf cX4_verbOf 3 (some .int) 5 107 Γ A G G [.ref (ad Γ o), .int v1] (some (.int fin)) := by
  have h := kX4_verbOf (l := l) (A := A) (G := G) (r := G o) hk hf
  rw [ug_self] at h
  exact h
noncomputable def fX4_kindOf (r : Rec) : Option Int32 :=
  (fX4_spells r 13).bind fun z1 => if z1 = 0 then (fX4_spells r 14).bind fun z2 => if z2 = 0 then (fX4_spells r 15).bind fun z3 => if z3 = 0 then (fX4_spells r 16).bind fun z4 => if z4 = 0 then some ((-1)) else some (3) else some (2) else some (1) else some (0)
set_option maxRecDepth 100000 in
set_option maxHeartbeats 4000000 in
theorem wX4_kindOf_e {p : Program} {l : Launch} {e : Env} {s : State} {m : MethodId} {args : Array Value} {below : List Frame} {meth : Method} {c : Code} {Γ : Gm} {A : Nat → Prop} {G : Gs} {o : Nat} {r : Rec} {q : Int32} {fin : Int32} (C : Cx p s m args meth c yX4_kindOf cX4_kindOf 1 (some .int) Γ A) (hk : kd Γ o = some 4) (hf : fX4_kindOf r = some q) (hq : (fun x => x = fin) q) : Wk p l e { frames := 5, cells := 0, slots := 0, locals := 107 } s m args below meth c Γ A (ug G o r) (some (.int fin)) 0 1 [(0, .ref (ad Γ o))] [] (ug G o r) := by
  intro H locs ls hw hS hl
  unfold fX4_kindOf at hf
  obtain ⟨hx, hb, hml, hr, hown, htw, hlocks, hE⟩ := id C
  have hown : s.vm.findClass RX4 = some m.cls := hown
  refine lv_aload_n hx hb dX4_kindOf_0 rfl (lv_at hl 0 rfl) ?_
  refine va_ldcS hx hb hown (hE.2.2.2.2.2.2.2.1 13 (by decide)) dX4_kindOf_1 ?_
  obtain ⟨z1, hz1, hf⟩ := bd hf
  refine cl_Vs (rest := []) (kX4_spells (l := l) (Γ := Γ) (A := A) (G := G) (o := o) hk (by decide) hz1) ⟨hx, hb, hml, hown, htw⟩ hE hw hS (wo_me hw hk) (q0 := 0) rfl rfl mw526 mw528 mw4 mw123 mw529 pdX4_spells ⟨Nat.le_of_ble_eq_true rfl, Nat.le_of_ble_eq_true rfl⟩ rfl rfl hl.1 (Nat.le_of_ble_eq_true rfl) dX4_kindOf_3 (fun H locs hw hS => ?_)
  refine lv_if_eq (tgt := 11) hx hb dX4_kindOf_6 (by decide) (fun c8 => ?_) (fun c8 => ?_)
  · have hf := ifp c8 hf
    refine lv_aload_n hx hb dX4_kindOf_11 rfl (lv_at hl 0 rfl) ?_
    refine va_ldcS hx hb hown (hE.2.2.2.2.2.2.2.1 14 (by decide)) dX4_kindOf_12 ?_
    obtain ⟨z2, hz2, hf⟩ := bd hf
    refine cl_Vs (rest := []) (kX4_spells (l := l) (Γ := Γ) (A := A) (G := G) (o := o) hk (by decide) hz2) ⟨hx, hb, hml, hown, htw⟩ hE hw hS (wo_me hw hk) (q0 := 0) rfl rfl mw526 mw528 mw4 mw123 mw529 pdX4_spells ⟨Nat.le_of_ble_eq_true rfl, Nat.le_of_ble_eq_true rfl⟩ rfl rfl hl.1 (Nat.le_of_ble_eq_true rfl) dX4_kindOf_14 (fun H locs hw hS => ?_)
    refine lv_if_eq (tgt := 22) hx hb dX4_kindOf_17 (by decide) (fun c7 => ?_) (fun c7 => ?_)
    · have hf := ifp c7 hf
      refine lv_aload_n hx hb dX4_kindOf_22 rfl (lv_at hl 0 rfl) ?_
      refine va_ldcS hx hb hown (hE.2.2.2.2.2.2.2.1 15 (by decide)) dX4_kindOf_23 ?_
      obtain ⟨z3, hz3, hf⟩ := bd hf
      refine cl_Vs (rest := []) (kX4_spells (l := l) (Γ := Γ) (A := A) (G := G) (o := o) hk (by decide) hz3) ⟨hx, hb, hml, hown, htw⟩ hE hw hS (wo_me hw hk) (q0 := 0) rfl rfl mw526 mw528 mw4 mw123 mw529 pdX4_spells ⟨Nat.le_of_ble_eq_true rfl, Nat.le_of_ble_eq_true rfl⟩ rfl rfl hl.1 (Nat.le_of_ble_eq_true rfl) dX4_kindOf_25 (fun H locs hw hS => ?_)
      refine lv_if_eq (tgt := 33) hx hb dX4_kindOf_28 (by decide) (fun c6 => ?_) (fun c6 => ?_)
      · have hf := ifp c6 hf
        refine lv_aload_n hx hb dX4_kindOf_33 rfl (lv_at hl 0 rfl) ?_
        refine va_ldcS hx hb hown (hE.2.2.2.2.2.2.2.1 16 (by decide)) dX4_kindOf_34 ?_
        obtain ⟨z4, hz4, hf⟩ := bd hf
        refine cl_Vs (rest := []) (kX4_spells (l := l) (Γ := Γ) (A := A) (G := G) (o := o) hk (by decide) hz4) ⟨hx, hb, hml, hown, htw⟩ hE hw hS (wo_me hw hk) (q0 := 0) rfl rfl mw526 mw528 mw4 mw123 mw529 pdX4_spells ⟨Nat.le_of_ble_eq_true rfl, Nat.le_of_ble_eq_true rfl⟩ rfl rfl hl.1 (Nat.le_of_ble_eq_true rfl) dX4_kindOf_36 (fun H locs hw hS => ?_)
        refine lv_if_eq (tgt := 46) hx hb dX4_kindOf_39 (by decide) (fun c5 => ?_) (fun c5 => ?_)
        · have hf := ifp c5 hf
          refine lv_iconst (v := (-1)) hx hb dX4_kindOf_46 (by decide) ?_
          obtain rfl := Option.some.inj hf
          subst hq
          exact rt_i C hw hS dX4_kindOf_47
        · have hf := ifn c5 hf
          refine lv_iconst (v := 3) hx hb dX4_kindOf_42 (by decide) ?_
          refine lv_goto (tgt := 47) hx hb dX4_kindOf_43 (by decide) ?_
          obtain rfl := Option.some.inj hf
          subst hq
          exact rt_i C hw hS dX4_kindOf_47
      · have hf := ifn c6 hf
        refine lv_iconst (v := 2) hx hb dX4_kindOf_31 (by decide) ?_
        obtain rfl := Option.some.inj hf
        subst hq
        exact rt_i C hw hS dX4_kindOf_32
    · have hf := ifn c7 hf
      refine lv_iconst (v := 1) hx hb dX4_kindOf_20 (by decide) ?_
      obtain rfl := Option.some.inj hf
      subst hq
      exact rt_i C hw hS dX4_kindOf_21
  · have hf := ifn c8 hf
    refine lv_iconst (v := 0) hx hb dX4_kindOf_9 (by decide) ?_
    obtain rfl := Option.some.inj hf
    subst hq
    exact rt_i C hw hS dX4_kindOf_10

theorem kX4_kindOf {l : Launch} {Γ : Gm} {A : Nat → Prop} {G : Gs} {o : Nat} {r : Rec} {fin : Int32} (hk : kd Γ o = some 4) (hf : fX4_kindOf r = some fin) : Kt l yX4_kindOf cX4_kindOf 1 (some .int) 5 107 Γ A (ug G o r) (ug G o r) [.ref (ad Γ o)] (some (.int fin)) :=
  kt_of (by decide) (Nat.le_of_ble_eq_true rfl) (fun p e s m args below meth c C => wX4_kindOf_e C hk hf rfl)
theorem kgX4_kindOf {l : Launch} {Γ : Gm} {A : Nat → Prop} {G : Gs} {o : Nat} {fin : Int32} (hk : kd Γ o = some 4) (hf : fX4_kindOf (G o) = some fin) : Kt l yX4_kindOf cX4_kindOf 1 (some .int) 5 107 Γ A G G [.ref (ad Γ o)] (some (.int fin)) := by
  have h := kX4_kindOf (l := l) (A := A) (G := G) (r := G o) hk hf
  rw [ug_self] at h
  exact h
noncomputable def bX4_tokenNumber_7 (r : Rec) (v1 : Int32) (v2 : Int32) : Option ((Int32 × Int32) ⊕ Int32) :=
  if (gi r 4) ≤ v2 then some (.inr (v1)) else if (gi r 1) ≤ v2 then some (.inr (v1)) else gd (inR v2 600) ((some ((v1 * 10) + ((ga r 0 (Int32.toNatClampNeg v2)) - 48))).bind fun x2 => some (.inl (x2, v2 + 1)))
set_option maxRecDepth 100000 in
set_option maxHeartbeats 4000000 in
theorem wX4_tokenNumber_7 {p : Program} {l : Launch} {e : Env} {s : State} {m : MethodId} {args : Array Value} {below : List Frame} {meth : Method} {c : Code} {Γ : Gm} {A : Nat → Prop} {G : Gs} {o : Nat} {r : Rec} {v1 : Int32} {v2 : Int32} {q : ((Int32 × Int32) ⊕ Int32)} {fin : Int32} (C : Cx p s m args meth c yX4_tokenNumber cX4_tokenNumber 3 (some .int) Γ A) (hk : kd Γ o = some 4) (hf : bX4_tokenNumber_7 r v1 v2 = some q) (hq : (KC (fun st : Int32 × Int32 => Wk p l e { frames := 0, cells := 0, slots := 0, locals := 0 } s m args below meth c Γ A (ug G o r) (some (.int fin)) 7 3 [(0, .ref (ad Γ o)), (1, .int st.1), (2, .int st.2)] [] (ug G o r)) (fun x => x = fin)) q) : Wk p l e { frames := 0, cells := 0, slots := 0, locals := 0 } s m args below meth c Γ A (ug G o r) (some (.int fin)) 7 3 [(0, .ref (ad Γ o)), (1, .int v1), (2, .int v2)] [] (ug G o r) := by
  intro H locs ls hw hS hl
  unfold bX4_tokenNumber_7 at hf
  obtain ⟨hx, hb, hml, hr, hown, htw, hlocks, hE⟩ := id C
  have hown : s.vm.findClass RX4 = some m.cls := hown
  refine lv_iload_n hx hb dX4_tokenNumber_7 rfl (lv_at hl 2 rfl) ?_
  refine lv_aload_n hx hb dX4_tokenNumber_8 rfl (lv_at hl 0 rfl) ?_
  refine va_get (ci := 4) (v := .int (gi r 4)) (C := RX4) (T := TX4) (N := 14) hx hb htw uwX4 hown hE.1 (wo_me hw hk) 0 rfl rfl 4 (by decide) (htw _ mw287) (fun _ h9 => h9) rfl dX4_tokenNumber_9 ?_
  refine lv_icmp_ge (tgt := 44) hx hb dX4_tokenNumber_12 (by decide) (fun c4 => ?_) (fun c4 => ?_)
  · have hf := ifp c4 hf
    refine lv_iload_n hx hb dX4_tokenNumber_44 rfl (lv_at hl 1 rfl) ?_
    obtain rfl := Option.some.inj hf
    have hq := hq.2 _ rfl
    subst hq
    exact rt_i C hw hS dX4_tokenNumber_45
  · have hf := ifn c4 hf
    refine lv_iload_n hx hb dX4_tokenNumber_15 rfl (lv_at hl 2 rfl) ?_
    refine lv_aload_n hx hb dX4_tokenNumber_16 rfl (lv_at hl 0 rfl) ?_
    refine va_get (ci := 4) (v := .int (gi r 1)) (C := RX4) (T := TX4) (N := 14) hx hb htw uwX4 hown hE.1 (wo_me hw hk) 0 rfl rfl 1 (by decide) (htw _ mw284) (fun _ h9 => h9) rfl dX4_tokenNumber_17 ?_
    refine lv_icmp_ge (tgt := 44) hx hb dX4_tokenNumber_20 (by decide) (fun c3 => ?_) (fun c3 => ?_)
    · have hf := ifp c3 hf
      refine lv_iload_n hx hb dX4_tokenNumber_44 rfl (lv_at hl 1 rfl) ?_
      obtain rfl := Option.some.inj hf
      have hq := hq.2 _ rfl
      subst hq
      exact rt_i C hw hS dX4_tokenNumber_45
    · have hf := ifn c3 hf
      refine lv_iload_n hx hb dX4_tokenNumber_23 rfl (lv_at hl 1 rfl) ?_
      refine lv_bipush (v := 10) hx hb dX4_tokenNumber_24 (by decide) ?_
      refine lv_imul hx hb dX4_tokenNumber_26 ?_
      refine lv_aload_n hx hb dX4_tokenNumber_27 rfl (lv_at hl 0 rfl) ?_
      refine va_get (ci := 4) (v := .ref (aa Γ o 0)) (C := RX4) (T := TX4) (N := 14) hx hb htw uwX4 hown hE.1 (wo_me hw hk) 0 rfl rfl 0 (by decide) (htw _ mw283) (fun _ h9 => h9) rfl dX4_tokenNumber_28 ?_
      refine lv_iload_n hx hb dX4_tokenNumber_31 rfl (lv_at hl 2 rfl) ?_
      obtain ⟨g1, hf⟩ := gd_some hf
      refine va_bald hx hb hE.1 (wo_me hw hk) 1 1 rfl rfl (inR_in g1) dX4_tokenNumber_32 ?_
      refine lv_bipush (v := 48) hx hb dX4_tokenNumber_33 (by decide) ?_
      refine lv_isub hx hb dX4_tokenNumber_35 ?_
      refine lv_iadd hx hb dX4_tokenNumber_36 ?_
      obtain ⟨x2, hx2, hf⟩ := bd hf
      have hx2 := Option.some.inj hx2
      refine tp1i hx2 ?_
      refine lv_istore_n (lv' := [(1, .int x2), (0, .ref (ad Γ o)), (2, .int v2)]) hx hb dX4_tokenNumber_37 rfl hl (by decide) rfl (fun ls hl => ?_)
      refine lv_iinc (v := v2 + 1) (lv' := [(2, .int (v2 + 1)), (1, .int x2), (0, .ref (ad Γ o))]) hx hb dX4_tokenNumber_38 hl (k := 2) rfl (by rfl) (by decide) rfl (fun ls hl => ?_)
      refine lv_goto (tgt := 7) hx hb dX4_tokenNumber_41 (by decide) ?_
      obtain rfl := Option.some.inj hf
      exact hq.1 _ rfl H locs ls hw hS (lv_sub hl [2, 1, 0] rfl)

set_option maxRecDepth 100000 in
set_option maxHeartbeats 4000000 in
theorem lwX4_tokenNumber_7 {p : Program} {l : Launch} {e : Env} {s : State} {m : MethodId} {args : Array Value} {below : List Frame} {meth : Method} {c : Code} {Γ : Gm} {A : Nat → Prop} {G : Gs} {o : Nat} {r : Rec} {v1 : Int32} {v2 : Int32} {q : Int32} {fin : Int32} (C : Cx p s m args meth c yX4_tokenNumber cX4_tokenNumber 3 (some .int) Γ A) (hk : kd Γ o = some 4) (hf : iter (fun st : Int32 × Int32 => bX4_tokenNumber_7 r st.1 st.2) (v1, v2) = some q) (hq : (fun x => x = fin) q) : Wk p l e { frames := 0, cells := 0, slots := 0, locals := 0 } s m args below meth c Γ A (ug G o r) (some (.int fin)) 7 3 [(0, .ref (ad Γ o)), (1, .int v1), (2, .int v2)] [] (ug G o r) := by
  intro H locs ls hw hS hl
  refine iter_walk (P := (fun st : Int32 × Int32 => Wk p l e { frames := 0, cells := 0, slots := 0, locals := 0 } s m args below meth c Γ A (ug G o r) (some (.int fin)) 7 3 [(0, .ref (ad Γ o)), (1, .int st.1), (2, .int st.2)] [] (ug G o r))) (K := (fun x => x = fin)) (fun st q hq1 h1 h2 => ?_) hf hq H locs ls hw hS hl
  exact wX4_tokenNumber_7 (v1 := st.1) (v2 := st.2) C hk hq1 ⟨h1, h2⟩

noncomputable def fX4_tokenNumber (r : Rec) : Option Int32 :=
  iter (fun st : Int32 × Int32 => bX4_tokenNumber_7 r st.1 st.2) (0, gi r 3)
set_option maxRecDepth 100000 in
set_option maxHeartbeats 4000000 in
theorem wX4_tokenNumber_e {p : Program} {l : Launch} {e : Env} {s : State} {m : MethodId} {args : Array Value} {below : List Frame} {meth : Method} {c : Code} {Γ : Gm} {A : Nat → Prop} {G : Gs} {o : Nat} {r : Rec} {q : Int32} {fin : Int32} (C : Cx p s m args meth c yX4_tokenNumber cX4_tokenNumber 3 (some .int) Γ A) (hk : kd Γ o = some 4) (hf : fX4_tokenNumber r = some q) (hq : (fun x => x = fin) q) : Wk p l e { frames := 0, cells := 0, slots := 0, locals := 0 } s m args below meth c Γ A (ug G o r) (some (.int fin)) 0 3 [(0, .ref (ad Γ o))] [] (ug G o r) := by
  intro H locs ls hw hS hl
  unfold fX4_tokenNumber at hf
  obtain ⟨hx, hb, hml, hr, hown, htw, hlocks, hE⟩ := id C
  have hown : s.vm.findClass RX4 = some m.cls := hown
  refine lv_iconst (v := 0) hx hb dX4_tokenNumber_0 (by decide) ?_
  refine lv_istore_n (lv' := [(1, .int 0), (0, .ref (ad Γ o))]) hx hb dX4_tokenNumber_1 rfl hl (by decide) rfl (fun ls hl => ?_)
  refine lv_aload_n hx hb dX4_tokenNumber_2 rfl (lv_at hl 1 rfl) ?_
  refine va_get (ci := 4) (v := .int (gi r 3)) (C := RX4) (T := TX4) (N := 14) hx hb htw uwX4 hown hE.1 (wo_me hw hk) 0 rfl rfl 3 (by decide) (htw _ mw286) (fun _ h9 => h9) rfl dX4_tokenNumber_3 ?_
  refine lv_istore_n (lv' := [(2, .int (gi r 3)), (1, .int 0), (0, .ref (ad Γ o))]) hx hb dX4_tokenNumber_6 rfl hl (by decide) rfl (fun ls hl => ?_)
  exact lwX4_tokenNumber_7 C hk hf hq H locs ls hw hS (lv_sub hl [2, 1, 0] rfl)

theorem kX4_tokenNumber {l : Launch} {Γ : Gm} {A : Nat → Prop} {G : Gs} {o : Nat} {r : Rec} {fin : Int32} (hk : kd Γ o = some 4) (hf : fX4_tokenNumber r = some fin) : Kt l yX4_tokenNumber cX4_tokenNumber 3 (some .int) 0 0 Γ A (ug G o r) (ug G o r) [.ref (ad Γ o)] (some (.int fin)) :=
  kt_of (by decide) (Nat.le_of_ble_eq_true rfl) (fun p e s m args below meth c C => wX4_tokenNumber_e C hk hf rfl)
theorem kgX4_tokenNumber {l : Launch} {Γ : Gm} {A : Nat → Prop} {G : Gs} {o : Nat} {fin : Int32} (hk : kd Γ o = some 4) (hf : fX4_tokenNumber (G o) = some fin) : Kt l yX4_tokenNumber cX4_tokenNumber 3 (some .int) 0 0 Γ A G G [.ref (ad Γ o)] (some (.int fin)) := by
  have h := kX4_tokenNumber (l := l) (A := A) (G := G) (r := G o) hk hf
  rw [ug_self] at h
  exact h
noncomputable def bX4_readNumbers_76 (r : Rec) (v1 : Int32) (v2 : Int32) : Option ((Int32 × Rec) ⊕ (Rec × Int32)) :=
  some (.inl (v2 + 1, r))
set_option maxRecDepth 100000 in
set_option maxHeartbeats 4000000 in
theorem wX4_readNumbers_76 {p : Program} {l : Launch} {e : Env} {s : State} {m : MethodId} {args : Array Value} {below : List Frame} {meth : Method} {c : Code} {Γ : Gm} {A : Nat → Prop} {G : Gs} {o : Nat} {r : Rec} {v1 : Int32} {v2 : Int32} {q : ((Int32 × Rec) ⊕ (Rec × Int32))} {fin : Rec × Int32} (C : Cx p s m args meth c yX4_readNumbers cX4_readNumbers 4 (some .boolean) Γ A) (hk : kd Γ o = some 4) (hf : bX4_readNumbers_76 r v1 v2 = some q) (hq : (KC (fun st : Int32 × Rec => Wk p l e { frames := 2, cells := 0, slots := 0, locals := 41 } s m args below meth c Γ A (ug G o fin.1) (some (.int fin.2)) 2 4 [(0, .ref (ad Γ o)), (1, .int v1), (2, .int st.1)] [] (ug G o st.2)) (fun x => x = fin)) q) : Wk p l e { frames := 2, cells := 0, slots := 0, locals := 41 } s m args below meth c Γ A (ug G o fin.1) (some (.int fin.2)) 76 4 [(0, .ref (ad Γ o)), (1, .int v1), (2, .int v2)] [] (ug G o r) := by
  intro H locs ls hw hS hl
  unfold bX4_readNumbers_76 at hf
  obtain ⟨hx, hb, hml, hr, hown, htw, hlocks, hE⟩ := id C
  have hown : s.vm.findClass RX4 = some m.cls := hown
  refine lv_iinc (v := v2 + 1) (lv' := [(2, .int (v2 + 1)), (0, .ref (ad Γ o)), (1, .int v1)]) hx hb dX4_readNumbers_76 hl (k := 2) rfl (by rfl) (by decide) rfl (fun ls hl => ?_)
  refine lv_goto (tgt := 2) hx hb dX4_readNumbers_79 (by decide) ?_
  obtain rfl := Option.some.inj hf
  exact hq.1 _ rfl H locs ls hw hS (lv_sub hl [1, 2, 0] rfl)

noncomputable def bX4_readNumbers_2 (r : Rec) (v1 : Int32) (v2 : Int32) : Option ((Int32 × Rec) ⊕ (Rec × Int32)) :=
  if 3 ≤ v2 then some (.inr ((r, 1))) else gd (inR (((gi r 5) * 3) + v2) 360) ((some (sa r 9 (upd (ga r 9) (Int32.toNatClampNeg (((gi r 5) * 3) + v2)) (-1)))).bind fun r2 => gd (inR (((gi r 5) * 3) + v2) 360) ((some (sa r2 10 (upd (ga r2 10) (Int32.toNatClampNeg (((gi r 5) * 3) + v2)) (-1)))).bind fun r4 => gd (inR v1 (sLn 1)) (if v2 < (sDt 1 (Int32.toNatClampNeg v1)) then if (gi r4 2) = 2 then (fX4_tokenNumber r4).bind fun z6 => gd (inR (((gi r 5) * 3) + v2) 360) ((some (sa r4 9 (upd (ga r4 9) (Int32.toNatClampNeg (((gi r 5) * 3) + v2)) z6))).bind fun r8 => gd (inR (((gi r 5) * 3) + v2) 360) ((some (sa r8 10 (upd (ga r8 10) (Int32.toNatClampNeg (((gi r 5) * 3) + v2)) (gi r8 3)))).bind fun r10 => (fX4_nextToken r10).bind fun z11 => bX4_readNumbers_76 z11 v1 v2)) else some (.inr ((r4, 0))) else bX4_readNumbers_76 r4 v1 v2)))
set_option maxRecDepth 100000 in
set_option maxHeartbeats 4000000 in
theorem wX4_readNumbers_2 {p : Program} {l : Launch} {e : Env} {s : State} {m : MethodId} {args : Array Value} {below : List Frame} {meth : Method} {c : Code} {Γ : Gm} {A : Nat → Prop} {G : Gs} {o : Nat} {r : Rec} {v1 : Int32} {v2 : Int32} {q : ((Int32 × Rec) ⊕ (Rec × Int32))} {fin : Rec × Int32} (C : Cx p s m args meth c yX4_readNumbers cX4_readNumbers 4 (some .boolean) Γ A) (hk : kd Γ o = some 4) (hf : bX4_readNumbers_2 r v1 v2 = some q) (hq : (KC (fun st : Int32 × Rec => Wk p l e { frames := 2, cells := 0, slots := 0, locals := 41 } s m args below meth c Γ A (ug G o fin.1) (some (.int fin.2)) 2 4 [(0, .ref (ad Γ o)), (1, .int v1), (2, .int st.1)] [] (ug G o st.2)) (fun x => x = fin)) q) : Wk p l e { frames := 2, cells := 0, slots := 0, locals := 41 } s m args below meth c Γ A (ug G o fin.1) (some (.int fin.2)) 2 4 [(0, .ref (ad Γ o)), (1, .int v1), (2, .int v2)] [] (ug G o r) := by
  intro H locs ls hw hS hl
  unfold bX4_readNumbers_2 at hf
  obtain ⟨hx, hb, hml, hr, hown, htw, hlocks, hE⟩ := id C
  have hown : s.vm.findClass RX4 = some m.cls := hown
  refine lv_iload_n hx hb dX4_readNumbers_2 rfl (lv_at hl 2 rfl) ?_
  refine lv_iconst (v := 3) hx hb dX4_readNumbers_3 (by decide) ?_
  refine lv_icmp_ge (tgt := 82) hx hb dX4_readNumbers_4 (by decide) (fun c14 => ?_) (fun c14 => ?_)
  · have hf := ifp c14 hf
    refine lv_iconst (v := 1) hx hb dX4_readNumbers_82 (by decide) ?_
    obtain rfl := Option.some.inj hf
    have hq := hq.2 _ rfl
    subst hq
    exact rt_z C (Or.inr rfl) hw hS dX4_readNumbers_83
  · have hf := ifn c14 hf
    refine lv_aload_n hx hb dX4_readNumbers_7 rfl (lv_at hl 0 rfl) ?_
    refine va_get (ci := 4) (v := .int (gi r 5)) (C := RX4) (T := TX4) (N := 14) hx hb htw uwX4 hown hE.1 (wo_me hw hk) 0 rfl rfl 5 (by decide) (htw _ mw288) (fun _ h9 => h9) rfl dX4_readNumbers_8 ?_
    refine lv_iconst (v := 3) hx hb dX4_readNumbers_11 (by decide) ?_
    refine lv_imul hx hb dX4_readNumbers_12 ?_
    refine lv_iload_n hx hb dX4_readNumbers_13 rfl (lv_at hl 2 rfl) ?_
    refine lv_iadd hx hb dX4_readNumbers_14 ?_
    refine lv_istore_n (lv' := [(3, .int (((gi r 5) * 3) + v2)), (0, .ref (ad Γ o)), (1, .int v1), (2, .int v2)]) hx hb dX4_readNumbers_15 rfl hl (by decide) rfl (fun ls hl => ?_)
    refine lv_aload_n hx hb dX4_readNumbers_16 rfl (lv_at hl 1 rfl) ?_
    refine va_get (ci := 4) (v := .ref (aa Γ o 9)) (C := RX4) (T := TX4) (N := 14) hx hb htw uwX4 hown hE.1 (wo_me hw hk) 0 rfl rfl 9 (by decide) (htw _ mw292) (fun _ h9 => h9) rfl dX4_readNumbers_17 ?_
    refine lv_iload_n hx hb dX4_readNumbers_20 rfl (lv_at hl 0 rfl) ?_
    refine lv_iconst (v := (-1)) hx hb dX4_readNumbers_21 (by decide) ?_
    obtain ⟨g1, hf⟩ := gd_some hf
    obtain ⟨r2, hr2, hf⟩ := bd hf
    have hr2 := Option.some.inj hr2
    refine wo_iast hx hb hE hw hS hk (q0 := 5) rfl (inR_in g1) (sa4_9 hr2) dX4_readNumbers_22 (fun H locs hw hS => ?_)
    refine lv_aload_n hx hb dX4_readNumbers_23 rfl (lv_at hl 1 rfl) ?_
    refine va_get (ci := 4) (v := .ref (aa Γ o 10)) (C := RX4) (T := TX4) (N := 14) hx hb htw uwX4 hown hE.1 (wo_me hw hk) 0 rfl rfl 10 (by decide) (htw _ mw293) (fun _ h9 => h9) rfl dX4_readNumbers_24 ?_
    refine lv_iload_n hx hb dX4_readNumbers_27 rfl (lv_at hl 0 rfl) ?_
    refine lv_iconst (v := (-1)) hx hb dX4_readNumbers_28 (by decide) ?_
    obtain ⟨g3, hf⟩ := gd_some hf
    obtain ⟨r4, hr4, hf⟩ := bd hf
    have hr4 := Option.some.inj hr4
    refine wo_iast hx hb hE hw hS hk (q0 := 6) rfl (inR_in g3) (sa4_10 hr4) dX4_readNumbers_29 (fun H locs hw hS => ?_)
    refine lv_iload_n hx hb dX4_readNumbers_30 rfl (lv_at hl 3 rfl) ?_
    refine va_getsN (C := "TarnishTurns") hx hb (hE.2.2.2.2.1 1 (by decide)).1 hS hown (va_Nw.use rfl (hE.2.2.2.2.2.2.2.2.1 1 (by decide))) (fun _ h9 => h9) dX4_readNumbers_31 ?_
    refine lv_iload_n hx hb dX4_readNumbers_34 rfl (lv_at hl 2 rfl) ?_
    obtain ⟨g5, hf⟩ := gd_some hf
    refine va_ti (v := .int (sDt 1 (Int32.toNatClampNeg v1))) hx hb (hE.2.2.2.2.1 1 (by decide)).2 hS (inR_in g5) rfl dX4_readNumbers_35 ?_
    refine lv_icmp_lt (tgt := 42) hx hb dX4_readNumbers_36 (by decide) (fun c13 => ?_) (fun c13 => ?_)
    · have hf := ifp c13 hf
      refine lv_aload_n hx hb dX4_readNumbers_42 rfl (lv_at hl 1 rfl) ?_
      refine va_get (ci := 4) (v := .int (gi r4 2)) (C := RX4) (T := TX4) (N := 14) hx hb htw uwX4 hown hE.1 (wo_me hw hk) 0 rfl rfl 2 (by decide) (htw _ mw285) (fun _ h9 => h9) rfl dX4_readNumbers_43 ?_
      refine lv_iconst (v := 2) hx hb dX4_readNumbers_46 (by decide) ?_
      refine lv_icmp_eq (tgt := 52) hx hb dX4_readNumbers_47 (by decide) (fun c12 => ?_) (fun c12 => ?_)
      · have hf := ifp c12 hf
        refine lv_aload_n hx hb dX4_readNumbers_52 rfl (lv_at hl 1 rfl) ?_
        refine va_get (ci := 4) (v := .ref (aa Γ o 9)) (C := RX4) (T := TX4) (N := 14) hx hb htw uwX4 hown hE.1 (wo_me hw hk) 0 rfl rfl 9 (by decide) (htw _ mw292) (fun _ h9 => h9) rfl dX4_readNumbers_53 ?_
        refine lv_iload_n hx hb dX4_readNumbers_56 rfl (lv_at hl 0 rfl) ?_
        refine lv_aload_n hx hb dX4_readNumbers_57 rfl (lv_at hl 1 rfl) ?_
        obtain ⟨z6, hz6, hf⟩ := bd hf
        refine cl_Vs (rest := [.int (((gi r 5) * 3) + v2), .ref (aa Γ o 9)]) (kX4_tokenNumber (l := l) (Γ := Γ) (A := A) (G := G) (o := o) hk hz6) ⟨hx, hb, hml, hown, htw⟩ hE hw hS (wo_me hw hk) (q0 := 0) rfl rfl mw592 mw594 mw7 mw123 mw595 pdX4_tokenNumber ⟨Nat.le_of_ble_eq_true rfl, Nat.le_of_ble_eq_true rfl⟩ rfl rfl hl.1 (Nat.le_of_ble_eq_true rfl) dX4_readNumbers_58 (fun H locs hw hS => ?_)
        obtain ⟨g7, hf⟩ := gd_some hf
        obtain ⟨r8, hr8, hf⟩ := bd hf
        have hr8 := Option.some.inj hr8
        refine wo_iast hx hb hE hw hS hk (q0 := 5) rfl (inR_in g7) (sa4_9 hr8) dX4_readNumbers_61 (fun H locs hw hS => ?_)
        refine lv_aload_n hx hb dX4_readNumbers_62 rfl (lv_at hl 1 rfl) ?_
        refine va_get (ci := 4) (v := .ref (aa Γ o 10)) (C := RX4) (T := TX4) (N := 14) hx hb htw uwX4 hown hE.1 (wo_me hw hk) 0 rfl rfl 10 (by decide) (htw _ mw293) (fun _ h9 => h9) rfl dX4_readNumbers_63 ?_
        refine lv_iload_n hx hb dX4_readNumbers_66 rfl (lv_at hl 0 rfl) ?_
        refine lv_aload_n hx hb dX4_readNumbers_67 rfl (lv_at hl 1 rfl) ?_
        refine va_get (ci := 4) (v := .int (gi r8 3)) (C := RX4) (T := TX4) (N := 14) hx hb htw uwX4 hown hE.1 (wo_me hw hk) 0 rfl rfl 3 (by decide) (htw _ mw286) (fun _ h9 => h9) rfl dX4_readNumbers_68 ?_
        obtain ⟨g9, hf⟩ := gd_some hf
        obtain ⟨r10, hr10, hf⟩ := bd hf
        have hr10 := Option.some.inj hr10
        refine wo_iast hx hb hE hw hS hk (q0 := 6) rfl (inR_in g9) (sa4_10 hr10) dX4_readNumbers_71 (fun H locs hw hS => ?_)
        refine lv_aload_n hx hb dX4_readNumbers_72 rfl (lv_at hl 1 rfl) ?_
        obtain ⟨z11, hz11, hf⟩ := bd hf
        refine cl_Vv (rest := []) (kX4_nextToken (l := l) (Γ := Γ) (A := A) (G := G) (o := o) hk hz11) ⟨hx, hb, hml, hown, htw⟩ hE hw hS (wo_me hw hk) (q0 := 0) rfl rfl mw487 mw489 mw1 mw123 mw490 pdX4_nextToken ⟨Nat.le_of_ble_eq_true rfl, Nat.le_of_ble_eq_true rfl⟩ rfl rfl hl.1 (Nat.le_of_ble_eq_true rfl) dX4_readNumbers_73 (fun H locs hw hS => ?_)
        exact wX4_readNumbers_76 C hk hf hq H locs ls hw hS (lv_sub hl [1, 2, 3] rfl)
      · have hf := ifn c12 hf
        refine lv_iconst (v := 0) hx hb dX4_readNumbers_50 (by decide) ?_
        obtain rfl := Option.some.inj hf
        have hq := hq.2 _ rfl
        subst hq
        exact rt_z C (Or.inl rfl) hw hS dX4_readNumbers_51
    · have hf := ifn c13 hf
      refine lv_goto (tgt := 76) hx hb dX4_readNumbers_39 (by decide) ?_
      exact wX4_readNumbers_76 C hk hf hq H locs ls hw hS (lv_sub hl [1, 2, 3] rfl)

set_option maxRecDepth 100000 in
set_option maxHeartbeats 4000000 in
theorem lwX4_readNumbers_2 {p : Program} {l : Launch} {e : Env} {s : State} {m : MethodId} {args : Array Value} {below : List Frame} {meth : Method} {c : Code} {Γ : Gm} {A : Nat → Prop} {G : Gs} {o : Nat} {r : Rec} {v1 : Int32} {v2 : Int32} {q : (Rec × Int32)} {fin : Rec × Int32} (C : Cx p s m args meth c yX4_readNumbers cX4_readNumbers 4 (some .boolean) Γ A) (hk : kd Γ o = some 4) (hf : iter (fun st : Int32 × Rec => bX4_readNumbers_2 st.2 v1 st.1) (v2, r) = some q) (hq : (fun x => x = fin) q) : Wk p l e { frames := 2, cells := 0, slots := 0, locals := 41 } s m args below meth c Γ A (ug G o fin.1) (some (.int fin.2)) 2 4 [(0, .ref (ad Γ o)), (1, .int v1), (2, .int v2)] [] (ug G o r) := by
  intro H locs ls hw hS hl
  refine iter_walk (P := (fun st : Int32 × Rec => Wk p l e { frames := 2, cells := 0, slots := 0, locals := 41 } s m args below meth c Γ A (ug G o fin.1) (some (.int fin.2)) 2 4 [(0, .ref (ad Γ o)), (1, .int v1), (2, .int st.1)] [] (ug G o st.2))) (K := (fun x => x = fin)) (fun st q hq1 h1 h2 => ?_) hf hq H locs ls hw hS hl
  exact wX4_readNumbers_2 (r := st.2) (v2 := st.1) C hk hq1 ⟨h1, h2⟩

noncomputable def fX4_readNumbers (r : Rec) (v1 : Int32) : Option (Rec × Int32) :=
  iter (fun st : Int32 × Rec => bX4_readNumbers_2 st.2 v1 st.1) (0, r)
set_option maxRecDepth 100000 in
set_option maxHeartbeats 4000000 in
theorem wX4_readNumbers_e {p : Program} {l : Launch} {e : Env} {s : State} {m : MethodId} {args : Array Value} {below : List Frame} {meth : Method} {c : Code} {Γ : Gm} {A : Nat → Prop} {G : Gs} {o : Nat} {r : Rec} {v1 : Int32} {q : (Rec × Int32)} {fin : Rec × Int32} (C : Cx p s m args meth c yX4_readNumbers cX4_readNumbers 4 (some .boolean) Γ A) (hk : kd Γ o = some 4) (hf : fX4_readNumbers r v1 = some q) (hq : (fun x => x = fin) q) : Wk p l e { frames := 2, cells := 0, slots := 0, locals := 41 } s m args below meth c Γ A (ug G o fin.1) (some (.int fin.2)) 0 4 [(0, .ref (ad Γ o)), (1, .int v1)] [] (ug G o r) := by
  intro H locs ls hw hS hl
  unfold fX4_readNumbers at hf
  obtain ⟨hx, hb, hml, hr, hown, htw, hlocks, hE⟩ := id C
  have hown : s.vm.findClass RX4 = some m.cls := hown
  refine lv_iconst (v := 0) hx hb dX4_readNumbers_0 (by decide) ?_
  refine lv_istore_n (lv' := [(2, .int 0), (0, .ref (ad Γ o)), (1, .int v1)]) hx hb dX4_readNumbers_1 rfl hl (by decide) rfl (fun ls hl => ?_)
  exact lwX4_readNumbers_2 C hk hf hq H locs ls hw hS (lv_sub hl [1, 2, 0] rfl)

theorem kX4_readNumbers {l : Launch} {Γ : Gm} {A : Nat → Prop} {G : Gs} {o : Nat} {r : Rec} {v1 : Int32} {fin : Rec × Int32} (hk : kd Γ o = some 4) (hf : fX4_readNumbers r v1 = some fin) : Kt l yX4_readNumbers cX4_readNumbers 4 (some .boolean) 2 41 Γ A (ug G o r) (ug G o fin.1) [.ref (ad Γ o), .int v1] (some (.int fin.2)) :=
  kt_of (by decide) (Nat.le_of_ble_eq_true rfl) (fun p e s m args below meth c C => wX4_readNumbers_e C hk hf rfl)
theorem kgX4_readNumbers {l : Launch} {Γ : Gm} {A : Nat → Prop} {G : Gs} {o : Nat} {v1 : Int32} {fin : Rec × Int32} (hk : kd Γ o = some 4) (hf : fX4_readNumbers (G o) v1 = some fin) : Kt l yX4_readNumbers cX4_readNumbers 4 (some .boolean) 2 41 Γ A G (ug G o fin.1) [.ref (ad Γ o), .int v1] (some (.int fin.2)) := by
  have h := kX4_readNumbers (l := l) (A := A) (G := G) (r := G o) hk hf
  rw [ug_self] at h
  exact h
noncomputable def bX4_readLine_100 (r : Rec) (v2 : Int32) : Option (Rec × Int32) :=
  (fX4_readNumbers r v2).bind fun z1 => if z1.2 = 0 then some ((z1.1, 0)) else if (gi z1.1 2) = 3 then (fX4_nextToken z1.1).bind fun z2 => (some (si z2 5 ((gi z2 5) + 1))).bind fun r3 => some ((r3, 1)) else some ((z1.1, 0))
set_option maxRecDepth 100000 in
set_option maxHeartbeats 4000000 in
theorem wX4_readLine_100 {p : Program} {l : Launch} {e : Env} {s : State} {m : MethodId} {args : Array Value} {below : List Frame} {meth : Method} {c : Code} {Γ : Gm} {A : Nat → Prop} {G : Gs} {o : Nat} {r : Rec} {v2 : Int32} {q : (Rec × Int32)} {fin : Rec × Int32} (C : Cx p s m args meth c yX4_readLine cX4_readLine 3 (some .boolean) Γ A) (hk : kd Γ o = some 4) (hf : bX4_readLine_100 r v2 = some q) (hq : (fun x => x = fin) q) : Wk p l e { frames := 6, cells := 0, slots := 0, locals := 129 } s m args below meth c Γ A (ug G o fin.1) (some (.int fin.2)) 100 3 [(0, .ref (ad Γ o)), (2, .int v2)] [] (ug G o r) := by
  intro H locs ls hw hS hl
  unfold bX4_readLine_100 at hf
  obtain ⟨hx, hb, hml, hr, hown, htw, hlocks, hE⟩ := id C
  have hown : s.vm.findClass RX4 = some m.cls := hown
  refine lv_aload_n hx hb dX4_readLine_100 rfl (lv_at hl 0 rfl) ?_
  refine lv_iload_n hx hb dX4_readLine_101 rfl (lv_at hl 1 rfl) ?_
  obtain ⟨z1, hz1, hf⟩ := bd hf
  refine cl_Vs (rest := []) (kX4_readNumbers (l := l) (Γ := Γ) (A := A) (G := G) (o := o) hk hz1) ⟨hx, hb, hml, hown, htw⟩ hE hw hS (wo_me hw hk) (q0 := 0) rfl rfl mw586 mw588 mw6 mw123 mw589 pdX4_readNumbers ⟨Nat.le_of_ble_eq_true rfl, Nat.le_of_ble_eq_true rfl⟩ rfl rfl hl.1 (Nat.le_of_ble_eq_true rfl) dX4_readLine_102 (fun H locs hw hS => ?_)
  refine lv_if_eq (tgt := 116) hx hb dX4_readLine_105 (by decide) (fun c5 => ?_) (fun c5 => ?_)
  · have hf := ifp c5 hf
    refine lv_iconst (v := 0) hx hb dX4_readLine_116 (by decide) ?_
    obtain rfl := Option.some.inj hf
    subst hq
    exact rt_z C (Or.inl rfl) hw hS dX4_readLine_117
  · have hf := ifn c5 hf
    refine lv_aload_n hx hb dX4_readLine_108 rfl (lv_at hl 0 rfl) ?_
    refine va_get (ci := 4) (v := .int (gi z1.1 2)) (C := RX4) (T := TX4) (N := 14) hx hb htw uwX4 hown hE.1 (wo_me hw hk) 0 rfl rfl 2 (by decide) (htw _ mw285) (fun _ h9 => h9) rfl dX4_readLine_109 ?_
    refine lv_iconst (v := 3) hx hb dX4_readLine_112 (by decide) ?_
    refine lv_icmp_eq (tgt := 118) hx hb dX4_readLine_113 (by decide) (fun c4 => ?_) (fun c4 => ?_)
    · have hf := ifp c4 hf
      refine lv_aload_n hx hb dX4_readLine_118 rfl (lv_at hl 0 rfl) ?_
      obtain ⟨z2, hz2, hf⟩ := bd hf
      refine cl_Vv (rest := []) (kX4_nextToken (l := l) (Γ := Γ) (A := A) (G := G) (o := o) hk hz2) ⟨hx, hb, hml, hown, htw⟩ hE hw hS (wo_me hw hk) (q0 := 0) rfl rfl mw487 mw489 mw1 mw123 mw490 pdX4_nextToken ⟨Nat.le_of_ble_eq_true rfl, Nat.le_of_ble_eq_true rfl⟩ rfl rfl hl.1 (Nat.le_of_ble_eq_true rfl) dX4_readLine_119 (fun H locs hw hS => ?_)
      refine lv_aload_n hx hb dX4_readLine_122 rfl (lv_at hl 0 rfl) ?_
      refine lv_dup hx hb dX4_readLine_123 rfl ?_
      refine va_get (ci := 4) (v := .int (gi z2 5)) (C := RX4) (T := TX4) (N := 14) hx hb htw uwX4 hown hE.1 (wo_me hw hk) 0 rfl rfl 5 (by decide) (htw _ mw288) (fun _ h9 => h9) rfl dX4_readLine_124 ?_
      refine lv_iconst (v := 1) hx hb dX4_readLine_127 (by decide) ?_
      refine lv_iadd hx hb dX4_readLine_128 ?_
      obtain ⟨r3, hr3, hf⟩ := bd hf
      have hr3 := Option.some.inj hr3
      refine wo_put (C := RX4) (T := TX4) (N := 14) (v := .int ((gi z2 5) + 1)) (ty := .int) hx hb htw uwX4 tyX4 tyX4_ok nmX4 hown hE hw hS hk rfl rfl 5 (by decide) (htw _ mw288) (fun _ h9 => h9) rfl (tyX4_ok 5 (by decide)) rfl rfl (Nat.le_of_ble_eq_true rfl) (st4_5 hr3) dX4_readLine_129 (fun H locs hw hS => ?_)
      refine lv_iconst (v := 1) hx hb dX4_readLine_132 (by decide) ?_
      obtain rfl := Option.some.inj hf
      subst hq
      exact rt_z C (Or.inr rfl) hw hS dX4_readLine_133
    · have hf := ifn c4 hf
      refine lv_iconst (v := 0) hx hb dX4_readLine_116 (by decide) ?_
      obtain rfl := Option.some.inj hf
      subst hq
      exact rt_z C (Or.inl rfl) hw hS dX4_readLine_117

noncomputable def bX4_readLine_68 (r : Rec) (v2 : Int32) : Option (Rec × Int32) :=
  (fX4_kindOf r).bind fun z6 => gd (inR (gi r 5) 120) ((some (sa r 7 (upd (ga r 7) (Int32.toNatClampNeg (gi r 5)) z6))).bind fun r8 => gd (inR (gi r8 5) 120) (if (ga r8 7 (Int32.toNatClampNeg (gi r8 5))) = (-1) then some ((r8, 0)) else (fX4_nextToken r8).bind fun z10 => bX4_readLine_100 z10 v2))
set_option maxRecDepth 100000 in
set_option maxHeartbeats 4000000 in
theorem wX4_readLine_68 {p : Program} {l : Launch} {e : Env} {s : State} {m : MethodId} {args : Array Value} {below : List Frame} {meth : Method} {c : Code} {Γ : Gm} {A : Nat → Prop} {G : Gs} {o : Nat} {r : Rec} {v2 : Int32} {q : (Rec × Int32)} {fin : Rec × Int32} (C : Cx p s m args meth c yX4_readLine cX4_readLine 3 (some .boolean) Γ A) (hk : kd Γ o = some 4) (hf : bX4_readLine_68 r v2 = some q) (hq : (fun x => x = fin) q) : Wk p l e { frames := 6, cells := 0, slots := 0, locals := 129 } s m args below meth c Γ A (ug G o fin.1) (some (.int fin.2)) 68 3 [(0, .ref (ad Γ o)), (2, .int v2)] [] (ug G o r) := by
  intro H locs ls hw hS hl
  unfold bX4_readLine_68 at hf
  obtain ⟨hx, hb, hml, hr, hown, htw, hlocks, hE⟩ := id C
  have hown : s.vm.findClass RX4 = some m.cls := hown
  refine lv_aload_n hx hb dX4_readLine_68 rfl (lv_at hl 0 rfl) ?_
  refine va_get (ci := 4) (v := .ref (aa Γ o 7)) (C := RX4) (T := TX4) (N := 14) hx hb htw uwX4 hown hE.1 (wo_me hw hk) 0 rfl rfl 7 (by decide) (htw _ mw290) (fun _ h9 => h9) rfl dX4_readLine_69 ?_
  refine lv_aload_n hx hb dX4_readLine_72 rfl (lv_at hl 0 rfl) ?_
  refine va_get (ci := 4) (v := .int (gi r 5)) (C := RX4) (T := TX4) (N := 14) hx hb htw uwX4 hown hE.1 (wo_me hw hk) 0 rfl rfl 5 (by decide) (htw _ mw288) (fun _ h9 => h9) rfl dX4_readLine_73 ?_
  refine lv_aload_n hx hb dX4_readLine_76 rfl (lv_at hl 0 rfl) ?_
  obtain ⟨z6, hz6, hf⟩ := bd hf
  refine cl_Vs (rest := [.int (gi r 5), .ref (aa Γ o 7)]) (kX4_kindOf (l := l) (Γ := Γ) (A := A) (G := G) (o := o) hk hz6) ⟨hx, hb, hml, hown, htw⟩ hE hw hS (wo_me hw hk) (q0 := 0) rfl rfl mw578 mw580 mw5 mw123 mw581 pdX4_kindOf ⟨Nat.le_of_ble_eq_true rfl, Nat.le_of_ble_eq_true rfl⟩ rfl rfl hl.1 (Nat.le_of_ble_eq_true rfl) dX4_readLine_77 (fun H locs hw hS => ?_)
  obtain ⟨g7, hf⟩ := gd_some hf
  obtain ⟨r8, hr8, hf⟩ := bd hf
  have hr8 := Option.some.inj hr8
  refine wo_iast hx hb hE hw hS hk (q0 := 3) rfl (inR_in g7) (sa4_7 hr8) dX4_readLine_80 (fun H locs hw hS => ?_)
  refine lv_aload_n hx hb dX4_readLine_81 rfl (lv_at hl 0 rfl) ?_
  refine va_get (ci := 4) (v := .ref (aa Γ o 7)) (C := RX4) (T := TX4) (N := 14) hx hb htw uwX4 hown hE.1 (wo_me hw hk) 0 rfl rfl 7 (by decide) (htw _ mw290) (fun _ h9 => h9) rfl dX4_readLine_82 ?_
  refine lv_aload_n hx hb dX4_readLine_85 rfl (lv_at hl 0 rfl) ?_
  refine va_get (ci := 4) (v := .int (gi r8 5)) (C := RX4) (T := TX4) (N := 14) hx hb htw uwX4 hown hE.1 (wo_me hw hk) 0 rfl rfl 5 (by decide) (htw _ mw288) (fun _ h9 => h9) rfl dX4_readLine_86 ?_
  obtain ⟨g9, hf⟩ := gd_some hf
  refine va_iald hx hb hE.1 (wo_me hw hk) 3 0 rfl rfl (inR_in g9) dX4_readLine_89 ?_
  refine lv_iconst (v := (-1)) hx hb dX4_readLine_90 (by decide) ?_
  refine lv_icmp_ne (tgt := 96) hx hb dX4_readLine_91 (by decide) (fun c11 => ?_) (fun c11 => ?_)
  · have hf := ifn c11 hf
    refine lv_aload_n hx hb dX4_readLine_96 rfl (lv_at hl 0 rfl) ?_
    obtain ⟨z10, hz10, hf⟩ := bd hf
    refine cl_Vv (rest := []) (kX4_nextToken (l := l) (Γ := Γ) (A := A) (G := G) (o := o) hk hz10) ⟨hx, hb, hml, hown, htw⟩ hE hw hS (wo_me hw hk) (q0 := 0) rfl rfl mw487 mw489 mw1 mw123 mw490 pdX4_nextToken ⟨Nat.le_of_ble_eq_true rfl, Nat.le_of_ble_eq_true rfl⟩ rfl rfl hl.1 (Nat.le_of_ble_eq_true rfl) dX4_readLine_97 (fun H locs hw hS => ?_)
    exact wX4_readLine_100 C hk hf hq H locs ls hw hS hl
  · have hf := ifp c11 hf
    refine lv_iconst (v := 0) hx hb dX4_readLine_94 (by decide) ?_
    obtain rfl := Option.some.inj hf
    subst hq
    exact rt_z C (Or.inl rfl) hw hS dX4_readLine_95

noncomputable def fX4_readLine (r : Rec) (v1 : Int32) : Option (Rec × Int32) :=
  (fX4_verbOf r v1).bind fun z12 => if z12 = (-1) then some ((r, 0)) else if (gi r 5) < 120 then gd (inR (gi r 5) 120) ((some (sa r 6 (upd (ga r 6) (Int32.toNatClampNeg (gi r 5)) z12))).bind fun r14 => gd (inR (gi r14 5) 120) ((some (sa r14 7 (upd (ga r14 7) (Int32.toNatClampNeg (gi r14 5)) (-1)))).bind fun r16 => gd (inR (gi r16 5) 120) ((some (sa r16 8 (upd (ga r16 8) (Int32.toNatClampNeg (gi r16 5)) (gi r16 3)))).bind fun r18 => (fX4_nextToken r18).bind fun z19 => if z12 = 0 then bX4_readLine_68 z19 z12 else if z12 = 1 then bX4_readLine_68 z19 z12 else bX4_readLine_100 z19 z12))) else some ((r, 0))
set_option maxRecDepth 100000 in
set_option maxHeartbeats 4000000 in
theorem wX4_readLine_e {p : Program} {l : Launch} {e : Env} {s : State} {m : MethodId} {args : Array Value} {below : List Frame} {meth : Method} {c : Code} {Γ : Gm} {A : Nat → Prop} {G : Gs} {o : Nat} {r : Rec} {v1 : Int32} {q : (Rec × Int32)} {fin : Rec × Int32} (C : Cx p s m args meth c yX4_readLine cX4_readLine 3 (some .boolean) Γ A) (hk : kd Γ o = some 4) (hf : fX4_readLine r v1 = some q) (hq : (fun x => x = fin) q) : Wk p l e { frames := 6, cells := 0, slots := 0, locals := 129 } s m args below meth c Γ A (ug G o fin.1) (some (.int fin.2)) 0 3 [(0, .ref (ad Γ o)), (1, .int v1)] [] (ug G o r) := by
  intro H locs ls hw hS hl
  unfold fX4_readLine at hf
  obtain ⟨hx, hb, hml, hr, hown, htw, hlocks, hE⟩ := id C
  have hown : s.vm.findClass RX4 = some m.cls := hown
  refine lv_aload_n hx hb dX4_readLine_0 rfl (lv_at hl 0 rfl) ?_
  refine lv_iload_n hx hb dX4_readLine_1 rfl (lv_at hl 1 rfl) ?_
  obtain ⟨z12, hz12, hf⟩ := bd hf
  refine cl_Vs (rest := []) (kX4_verbOf (l := l) (Γ := Γ) (A := A) (G := G) (o := o) hk hz12) ⟨hx, hb, hml, hown, htw⟩ hE hw hS (wo_me hw hk) (q0 := 0) rfl rfl mw504 mw506 mw3 mw123 mw507 pdX4_verbOf ⟨Nat.le_of_ble_eq_true rfl, Nat.le_of_ble_eq_true rfl⟩ rfl rfl hl.1 (Nat.le_of_ble_eq_true rfl) dX4_readLine_2 (fun H locs hw hS => ?_)
  refine lv_istore_n (lv' := [(2, .int z12), (0, .ref (ad Γ o)), (1, .int v1)]) hx hb dX4_readLine_5 rfl hl (by decide) rfl (fun ls hl => ?_)
  refine lv_iload_n hx hb dX4_readLine_6 rfl (lv_at hl 0 rfl) ?_
  refine lv_iconst (v := (-1)) hx hb dX4_readLine_7 (by decide) ?_
  refine lv_icmp_eq (tgt := 20) hx hb dX4_readLine_8 (by decide) (fun c23 => ?_) (fun c23 => ?_)
  · have hf := ifp c23 hf
    refine lv_iconst (v := 0) hx hb dX4_readLine_20 (by decide) ?_
    obtain rfl := Option.some.inj hf
    subst hq
    exact rt_z C (Or.inl rfl) hw hS dX4_readLine_21
  · have hf := ifn c23 hf
    refine lv_aload_n hx hb dX4_readLine_11 rfl (lv_at hl 1 rfl) ?_
    refine va_get (ci := 4) (v := .int (gi r 5)) (C := RX4) (T := TX4) (N := 14) hx hb htw uwX4 hown hE.1 (wo_me hw hk) 0 rfl rfl 5 (by decide) (htw _ mw288) (fun _ h9 => h9) rfl dX4_readLine_12 ?_
    refine lv_bipush (v := 120) hx hb dX4_readLine_15 (by decide) ?_
    refine lv_icmp_lt (tgt := 22) hx hb dX4_readLine_17 (by decide) (fun c22 => ?_) (fun c22 => ?_)
    · have hf := ifp c22 hf
      refine lv_aload_n hx hb dX4_readLine_22 rfl (lv_at hl 1 rfl) ?_
      refine va_get (ci := 4) (v := .ref (aa Γ o 6)) (C := RX4) (T := TX4) (N := 14) hx hb htw uwX4 hown hE.1 (wo_me hw hk) 0 rfl rfl 6 (by decide) (htw _ mw289) (fun _ h9 => h9) rfl dX4_readLine_23 ?_
      refine lv_aload_n hx hb dX4_readLine_26 rfl (lv_at hl 1 rfl) ?_
      refine va_get (ci := 4) (v := .int (gi r 5)) (C := RX4) (T := TX4) (N := 14) hx hb htw uwX4 hown hE.1 (wo_me hw hk) 0 rfl rfl 5 (by decide) (htw _ mw288) (fun _ h9 => h9) rfl dX4_readLine_27 ?_
      refine lv_iload_n hx hb dX4_readLine_30 rfl (lv_at hl 0 rfl) ?_
      obtain ⟨g13, hf⟩ := gd_some hf
      obtain ⟨r14, hr14, hf⟩ := bd hf
      have hr14 := Option.some.inj hr14
      refine wo_iast hx hb hE hw hS hk (q0 := 2) rfl (inR_in g13) (sa4_6 hr14) dX4_readLine_31 (fun H locs hw hS => ?_)
      refine lv_aload_n hx hb dX4_readLine_32 rfl (lv_at hl 1 rfl) ?_
      refine va_get (ci := 4) (v := .ref (aa Γ o 7)) (C := RX4) (T := TX4) (N := 14) hx hb htw uwX4 hown hE.1 (wo_me hw hk) 0 rfl rfl 7 (by decide) (htw _ mw290) (fun _ h9 => h9) rfl dX4_readLine_33 ?_
      refine lv_aload_n hx hb dX4_readLine_36 rfl (lv_at hl 1 rfl) ?_
      refine va_get (ci := 4) (v := .int (gi r14 5)) (C := RX4) (T := TX4) (N := 14) hx hb htw uwX4 hown hE.1 (wo_me hw hk) 0 rfl rfl 5 (by decide) (htw _ mw288) (fun _ h9 => h9) rfl dX4_readLine_37 ?_
      refine lv_iconst (v := (-1)) hx hb dX4_readLine_40 (by decide) ?_
      obtain ⟨g15, hf⟩ := gd_some hf
      obtain ⟨r16, hr16, hf⟩ := bd hf
      have hr16 := Option.some.inj hr16
      refine wo_iast hx hb hE hw hS hk (q0 := 3) rfl (inR_in g15) (sa4_7 hr16) dX4_readLine_41 (fun H locs hw hS => ?_)
      refine lv_aload_n hx hb dX4_readLine_42 rfl (lv_at hl 1 rfl) ?_
      refine va_get (ci := 4) (v := .ref (aa Γ o 8)) (C := RX4) (T := TX4) (N := 14) hx hb htw uwX4 hown hE.1 (wo_me hw hk) 0 rfl rfl 8 (by decide) (htw _ mw291) (fun _ h9 => h9) rfl dX4_readLine_43 ?_
      refine lv_aload_n hx hb dX4_readLine_46 rfl (lv_at hl 1 rfl) ?_
      refine va_get (ci := 4) (v := .int (gi r16 5)) (C := RX4) (T := TX4) (N := 14) hx hb htw uwX4 hown hE.1 (wo_me hw hk) 0 rfl rfl 5 (by decide) (htw _ mw288) (fun _ h9 => h9) rfl dX4_readLine_47 ?_
      refine lv_aload_n hx hb dX4_readLine_50 rfl (lv_at hl 1 rfl) ?_
      refine va_get (ci := 4) (v := .int (gi r16 3)) (C := RX4) (T := TX4) (N := 14) hx hb htw uwX4 hown hE.1 (wo_me hw hk) 0 rfl rfl 3 (by decide) (htw _ mw286) (fun _ h9 => h9) rfl dX4_readLine_51 ?_
      obtain ⟨g17, hf⟩ := gd_some hf
      obtain ⟨r18, hr18, hf⟩ := bd hf
      have hr18 := Option.some.inj hr18
      refine wo_iast hx hb hE hw hS hk (q0 := 4) rfl (inR_in g17) (sa4_8 hr18) dX4_readLine_54 (fun H locs hw hS => ?_)
      refine lv_aload_n hx hb dX4_readLine_55 rfl (lv_at hl 1 rfl) ?_
      obtain ⟨z19, hz19, hf⟩ := bd hf
      refine cl_Vv (rest := []) (kX4_nextToken (l := l) (Γ := Γ) (A := A) (G := G) (o := o) hk hz19) ⟨hx, hb, hml, hown, htw⟩ hE hw hS (wo_me hw hk) (q0 := 0) rfl rfl mw487 mw489 mw1 mw123 mw490 pdX4_nextToken ⟨Nat.le_of_ble_eq_true rfl, Nat.le_of_ble_eq_true rfl⟩ rfl rfl hl.1 (Nat.le_of_ble_eq_true rfl) dX4_readLine_56 (fun H locs hw hS => ?_)
      refine lv_iload_n hx hb dX4_readLine_59 rfl (lv_at hl 0 rfl) ?_
      refine lv_if_eq (tgt := 68) hx hb dX4_readLine_60 (by decide) (fun c21 => ?_) (fun c21 => ?_)
      · have hf := ifp c21 hf
        exact wX4_readLine_68 C hk hf hq H locs ls hw hS (lv_sub hl [1, 0] rfl)
      · have hf := ifn c21 hf
        refine lv_iload_n hx hb dX4_readLine_63 rfl (lv_at hl 0 rfl) ?_
        refine lv_iconst (v := 1) hx hb dX4_readLine_64 (by decide) ?_
        refine lv_icmp_ne (tgt := 100) hx hb dX4_readLine_65 (by decide) (fun c20 => ?_) (fun c20 => ?_)
        · have hf := ifn c20 hf
          exact wX4_readLine_100 C hk hf hq H locs ls hw hS (lv_sub hl [1, 0] rfl)
        · have hf := ifp c20 hf
          exact wX4_readLine_68 C hk hf hq H locs ls hw hS (lv_sub hl [1, 0] rfl)
    · have hf := ifn c22 hf
      refine lv_iconst (v := 0) hx hb dX4_readLine_20 (by decide) ?_
      obtain rfl := Option.some.inj hf
      subst hq
      exact rt_z C (Or.inl rfl) hw hS dX4_readLine_21

theorem kX4_readLine {l : Launch} {Γ : Gm} {A : Nat → Prop} {G : Gs} {o : Nat} {r : Rec} {v1 : Int32} {fin : Rec × Int32} (hk : kd Γ o = some 4) (hf : fX4_readLine r v1 = some fin) : Kt l yX4_readLine cX4_readLine 3 (some .boolean) 6 129 Γ A (ug G o r) (ug G o fin.1) [.ref (ad Γ o), .int v1] (some (.int fin.2)) :=
  kt_of (by decide) (Nat.le_of_ble_eq_true rfl) (fun p e s m args below meth c C => wX4_readLine_e C hk hf rfl)
theorem kgX4_readLine {l : Launch} {Γ : Gm} {A : Nat → Prop} {G : Gs} {o : Nat} {v1 : Int32} {fin : Rec × Int32} (hk : kd Γ o = some 4) (hf : fX4_readLine (G o) v1 = some fin) : Kt l yX4_readLine cX4_readLine 3 (some .boolean) 6 129 Γ A G (ug G o fin.1) [.ref (ad Γ o), .int v1] (some (.int fin.2)) := by
  have h := kX4_readLine (l := l) (A := A) (G := G) (r := G o) hk hf
  rw [ug_self] at h
  exact h
noncomputable def fX4_blame (r : Rec) (v1 : Int32) (v2 : Int32) : Option Rec :=
  (some (si r 12 v1)).bind fun r1 => (some (si r1 13 v2)).bind fun r2 => some (r2)
set_option maxRecDepth 100000 in
set_option maxHeartbeats 4000000 in
theorem wX4_blame_e {p : Program} {l : Launch} {e : Env} {s : State} {m : MethodId} {args : Array Value} {below : List Frame} {meth : Method} {c : Code} {Γ : Gm} {A : Nat → Prop} {G : Gs} {o : Nat} {r : Rec} {v1 : Int32} {v2 : Int32} {q : Rec} {fin : Rec} (C : Cx p s m args meth c yX4_blame cX4_blame 3 none Γ A) (hk : kd Γ o = some 4) (hf : fX4_blame r v1 v2 = some q) (hq : (fun x => x = fin) q) : Wk p l e { frames := 0, cells := 0, slots := 0, locals := 0 } s m args below meth c Γ A (ug G o fin) none 0 3 [(0, .ref (ad Γ o)), (1, .int v1), (2, .int v2)] [] (ug G o r) := by
  intro H locs ls hw hS hl
  unfold fX4_blame at hf
  obtain ⟨hx, hb, hml, hr, hown, htw, hlocks, hE⟩ := id C
  have hown : s.vm.findClass RX4 = some m.cls := hown
  refine lv_aload_n hx hb dX4_blame_0 rfl (lv_at hl 0 rfl) ?_
  refine lv_iload_n hx hb dX4_blame_1 rfl (lv_at hl 1 rfl) ?_
  obtain ⟨r1, hr1, hf⟩ := bd hf
  have hr1 := Option.some.inj hr1
  refine wo_put (C := RX4) (T := TX4) (N := 14) (v := .int v1) (ty := .int) hx hb htw uwX4 tyX4 tyX4_ok nmX4 hown hE hw hS hk rfl rfl 12 (by decide) (htw _ mw295) (fun _ h9 => h9) rfl (tyX4_ok 12 (by decide)) rfl rfl (Nat.le_of_ble_eq_true rfl) (st4_12 hr1) dX4_blame_2 (fun H locs hw hS => ?_)
  refine lv_aload_n hx hb dX4_blame_5 rfl (lv_at hl 0 rfl) ?_
  refine lv_iload_n hx hb dX4_blame_6 rfl (lv_at hl 2 rfl) ?_
  obtain ⟨r2, hr2, hf⟩ := bd hf
  have hr2 := Option.some.inj hr2
  refine wo_put (C := RX4) (T := TX4) (N := 14) (v := .int v2) (ty := .int) hx hb htw uwX4 tyX4 tyX4_ok nmX4 hown hE hw hS hk rfl rfl 13 (by decide) (htw _ mw297) (fun _ h9 => h9) rfl (tyX4_ok 13 (by decide)) rfl rfl (Nat.le_of_ble_eq_true rfl) (st4_13 hr2) dX4_blame_7 (fun H locs hw hS => ?_)
  obtain rfl := Option.some.inj hf
  subst hq
  exact rt_v C hw hS dX4_blame_10

theorem kX4_blame {l : Launch} {Γ : Gm} {A : Nat → Prop} {G : Gs} {o : Nat} {r : Rec} {v1 : Int32} {v2 : Int32} {fin : Rec} (hk : kd Γ o = some 4) (hf : fX4_blame r v1 v2 = some fin) : Kt l yX4_blame cX4_blame 3 none 0 0 Γ A (ug G o r) (ug G o fin) [.ref (ad Γ o), .int v1, .int v2] none :=
  kt_of (by decide) (Nat.le_of_ble_eq_true rfl) (fun p e s m args below meth c C => wX4_blame_e C hk hf rfl)
theorem kgX4_blame {l : Launch} {Γ : Gm} {A : Nat → Prop} {G : Gs} {o : Nat} {v1 : Int32} {v2 : Int32} {fin : Rec} (hk : kd Γ o = some 4) (hf : fX4_blame (G o) v1 v2 = some fin) : Kt l yX4_blame cX4_blame 3 none 0 0 Γ A G (ug G o fin) [.ref (ad Γ o), .int v1, .int v2] none := by
  have h := kX4_blame (l := l) (A := A) (G := G) (r := G o) hk hf
  rw [ug_self] at h
  exact h
noncomputable def bX4_readLines_37 (r : Rec) : Option Rec :=
  (fX4_blame r 1 (gi r 3)).bind fun z1 => some (z1)
set_option maxRecDepth 100000 in
set_option maxHeartbeats 4000000 in
theorem wX4_readLines_37 {p : Program} {l : Launch} {e : Env} {s : State} {m : MethodId} {args : Array Value} {below : List Frame} {meth : Method} {c : Code} {Γ : Gm} {A : Nat → Prop} {G : Gs} {o : Nat} {r : Rec} {q : Rec} {fin : Rec} (C : Cx p s m args meth c yX4_readLines cX4_readLines 3 none Γ A) (hk : kd Γ o = some 4) (hf : bX4_readLines_37 r = some q) (hq : (fun x => x = fin) q) : Wk p l e { frames := 7, cells := 0, slots := 0, locals := 151 } s m args below meth c Γ A (ug G o fin) none 37 3 [(0, .ref (ad Γ o))] [] (ug G o r) := by
  intro H locs ls hw hS hl
  unfold bX4_readLines_37 at hf
  obtain ⟨hx, hb, hml, hr, hown, htw, hlocks, hE⟩ := id C
  have hown : s.vm.findClass RX4 = some m.cls := hown
  refine lv_aload_n hx hb dX4_readLines_37 rfl (lv_at hl 0 rfl) ?_
  refine lv_iconst (v := 1) hx hb dX4_readLines_38 (by decide) ?_
  refine lv_aload_n hx hb dX4_readLines_39 rfl (lv_at hl 0 rfl) ?_
  refine va_get (ci := 4) (v := .int (gi r 3)) (C := RX4) (T := TX4) (N := 14) hx hb htw uwX4 hown hE.1 (wo_me hw hk) 0 rfl rfl 3 (by decide) (htw _ mw286) (fun _ h9 => h9) rfl dX4_readLines_40 ?_
  obtain ⟨z1, hz1, hf⟩ := bd hf
  refine cl_Vv (rest := []) (kX4_blame (l := l) (Γ := Γ) (A := A) (G := G) (o := o) hk hz1) ⟨hx, hb, hml, hown, htw⟩ hE hw hS (wo_me hw hk) (q0 := 0) rfl rfl mw596 mw598 mw8 mw123 mw599 pdX4_blame ⟨Nat.le_of_ble_eq_true rfl, Nat.le_of_ble_eq_true rfl⟩ rfl rfl hl.1 (Nat.le_of_ble_eq_true rfl) dX4_readLines_43 (fun H locs hw hS => ?_)
  obtain rfl := Option.some.inj hf
  subst hq
  exact rt_v C hw hS dX4_readLines_46

noncomputable def bX4_readLines_16 (r : Rec) (v1 : Int32) (v2 : Int32) : Option ((Int32 × Rec) ⊕ Rec) :=
  if 120 < v2 then some (.inr (r)) else if (gi r 2) = 0 then some (.inr (r)) else (fX4_readLine r v1).bind fun z2 => if z2.2 = 0 then out1 (bX4_readLines_37 z2.1) else some (.inl (v2 + 1, z2.1))
set_option maxRecDepth 100000 in
set_option maxHeartbeats 4000000 in
theorem wX4_readLines_16 {p : Program} {l : Launch} {e : Env} {s : State} {m : MethodId} {args : Array Value} {below : List Frame} {meth : Method} {c : Code} {Γ : Gm} {A : Nat → Prop} {G : Gs} {o : Nat} {r : Rec} {v1 : Int32} {v2 : Int32} {q : ((Int32 × Rec) ⊕ Rec)} {fin : Rec} (C : Cx p s m args meth c yX4_readLines cX4_readLines 3 none Γ A) (hk : kd Γ o = some 4) (hf : bX4_readLines_16 r v1 v2 = some q) (hq : (KC (fun st : Int32 × Rec => Wk p l e { frames := 7, cells := 0, slots := 0, locals := 151 } s m args below meth c Γ A (ug G o fin) none 16 3 [(0, .ref (ad Γ o)), (1, .int v1), (2, .int st.1)] [] (ug G o st.2)) (fun x => x = fin)) q) : Wk p l e { frames := 7, cells := 0, slots := 0, locals := 151 } s m args below meth c Γ A (ug G o fin) none 16 3 [(0, .ref (ad Γ o)), (1, .int v1), (2, .int v2)] [] (ug G o r) := by
  intro H locs ls hw hS hl
  unfold bX4_readLines_16 at hf
  obtain ⟨hx, hb, hml, hr, hown, htw, hlocks, hE⟩ := id C
  have hown : s.vm.findClass RX4 = some m.cls := hown
  refine lv_iload_n hx hb dX4_readLines_16 rfl (lv_at hl 2 rfl) ?_
  refine lv_bipush (v := 120) hx hb dX4_readLines_17 (by decide) ?_
  refine lv_icmp_gt (tgt := 53) hx hb dX4_readLines_19 (by decide) (fun c6 => ?_) (fun c6 => ?_)
  · have hf := ifp c6 hf
    obtain rfl := Option.some.inj hf
    have hq := hq.2 _ rfl
    subst hq
    exact rt_v C hw hS dX4_readLines_53
  · have hf := ifn c6 hf
    refine lv_aload_n hx hb dX4_readLines_22 rfl (lv_at hl 0 rfl) ?_
    refine va_get (ci := 4) (v := .int (gi r 2)) (C := RX4) (T := TX4) (N := 14) hx hb htw uwX4 hown hE.1 (wo_me hw hk) 0 rfl rfl 2 (by decide) (htw _ mw285) (fun _ h9 => h9) rfl dX4_readLines_23 ?_
    refine lv_if_eq (tgt := 53) hx hb dX4_readLines_26 (by decide) (fun c5 => ?_) (fun c5 => ?_)
    · have hf := ifp c5 hf
      obtain rfl := Option.some.inj hf
      have hq := hq.2 _ rfl
      subst hq
      exact rt_v C hw hS dX4_readLines_53
    · have hf := ifn c5 hf
      refine lv_aload_n hx hb dX4_readLines_29 rfl (lv_at hl 0 rfl) ?_
      refine lv_iload_n hx hb dX4_readLines_30 rfl (lv_at hl 1 rfl) ?_
      obtain ⟨z2, hz2, hf⟩ := bd hf
      refine cl_Vs (rest := []) (kX4_readLine (l := l) (Γ := Γ) (A := A) (G := G) (o := o) hk hz2) ⟨hx, hb, hml, hown, htw⟩ hE hw hS (wo_me hw hk) (q0 := 0) rfl rfl mw500 mw502 mw2 mw123 mw503 pdX4_readLine ⟨Nat.le_of_ble_eq_true rfl, Nat.le_of_ble_eq_true rfl⟩ rfl rfl hl.1 (Nat.le_of_ble_eq_true rfl) dX4_readLines_31 (fun H locs hw hS => ?_)
      refine lv_if_ne (tgt := 47) hx hb dX4_readLines_34 (by decide) (fun c4 => ?_) (fun c4 => ?_)
      · have hf := ifn c4 hf
        refine lv_iinc (v := v2 + 1) (lv' := [(2, .int (v2 + 1)), (0, .ref (ad Γ o)), (1, .int v1)]) hx hb dX4_readLines_47 hl (k := 2) rfl (by rfl) (by decide) rfl (fun ls hl => ?_)
        refine lv_goto (tgt := 16) hx hb dX4_readLines_50 (by decide) ?_
        obtain rfl := Option.some.inj hf
        exact hq.1 _ rfl H locs ls hw hS (lv_sub hl [1, 2, 0] rfl)
      · have hf := ifp c4 hf
        obtain ⟨q3, hfq3, eq3⟩ := out1_some hf
        subst eq3
        have hf := hfq3
        have hq := hq.2 _ rfl
        exact wX4_readLines_37 C hk hf hq H locs ls hw hS (lv_sub hl [0] rfl)

set_option maxRecDepth 100000 in
set_option maxHeartbeats 4000000 in
theorem lwX4_readLines_16 {p : Program} {l : Launch} {e : Env} {s : State} {m : MethodId} {args : Array Value} {below : List Frame} {meth : Method} {c : Code} {Γ : Gm} {A : Nat → Prop} {G : Gs} {o : Nat} {r : Rec} {v1 : Int32} {v2 : Int32} {q : Rec} {fin : Rec} (C : Cx p s m args meth c yX4_readLines cX4_readLines 3 none Γ A) (hk : kd Γ o = some 4) (hf : iter (fun st : Int32 × Rec => bX4_readLines_16 st.2 v1 st.1) (v2, r) = some q) (hq : (fun x => x = fin) q) : Wk p l e { frames := 7, cells := 0, slots := 0, locals := 151 } s m args below meth c Γ A (ug G o fin) none 16 3 [(0, .ref (ad Γ o)), (1, .int v1), (2, .int v2)] [] (ug G o r) := by
  intro H locs ls hw hS hl
  refine iter_walk (P := (fun st : Int32 × Rec => Wk p l e { frames := 7, cells := 0, slots := 0, locals := 151 } s m args below meth c Γ A (ug G o fin) none 16 3 [(0, .ref (ad Γ o)), (1, .int v1), (2, .int st.1)] [] (ug G o st.2))) (K := (fun x => x = fin)) (fun st q hq1 h1 h2 => ?_) hf hq H locs ls hw hS hl
  exact wX4_readLines_16 (r := st.2) (v2 := st.1) C hk hq1 ⟨h1, h2⟩

noncomputable def fX4_readLines (r : Rec) (v1 : Int32) : Option Rec :=
  (some (si r 5 0)).bind fun r7 => (some (si r7 4 0)).bind fun r8 => (fX4_nextToken r8).bind fun z9 => iter (fun st : Int32 × Rec => bX4_readLines_16 st.2 v1 st.1) (0, z9)
set_option maxRecDepth 100000 in
set_option maxHeartbeats 4000000 in
theorem wX4_readLines_e {p : Program} {l : Launch} {e : Env} {s : State} {m : MethodId} {args : Array Value} {below : List Frame} {meth : Method} {c : Code} {Γ : Gm} {A : Nat → Prop} {G : Gs} {o : Nat} {r : Rec} {v1 : Int32} {q : Rec} {fin : Rec} (C : Cx p s m args meth c yX4_readLines cX4_readLines 3 none Γ A) (hk : kd Γ o = some 4) (hf : fX4_readLines r v1 = some q) (hq : (fun x => x = fin) q) : Wk p l e { frames := 7, cells := 0, slots := 0, locals := 151 } s m args below meth c Γ A (ug G o fin) none 0 3 [(0, .ref (ad Γ o)), (1, .int v1)] [] (ug G o r) := by
  intro H locs ls hw hS hl
  unfold fX4_readLines at hf
  obtain ⟨hx, hb, hml, hr, hown, htw, hlocks, hE⟩ := id C
  have hown : s.vm.findClass RX4 = some m.cls := hown
  refine lv_aload_n hx hb dX4_readLines_0 rfl (lv_at hl 0 rfl) ?_
  refine lv_iconst (v := 0) hx hb dX4_readLines_1 (by decide) ?_
  obtain ⟨r7, hr7, hf⟩ := bd hf
  have hr7 := Option.some.inj hr7
  refine wo_put (C := RX4) (T := TX4) (N := 14) (v := .int 0) (ty := .int) hx hb htw uwX4 tyX4 tyX4_ok nmX4 hown hE hw hS hk rfl rfl 5 (by decide) (htw _ mw288) (fun _ h9 => h9) rfl (tyX4_ok 5 (by decide)) rfl rfl (Nat.le_of_ble_eq_true rfl) (st4_5 hr7) dX4_readLines_2 (fun H locs hw hS => ?_)
  refine lv_aload_n hx hb dX4_readLines_5 rfl (lv_at hl 0 rfl) ?_
  refine lv_iconst (v := 0) hx hb dX4_readLines_6 (by decide) ?_
  obtain ⟨r8, hr8, hf⟩ := bd hf
  have hr8 := Option.some.inj hr8
  refine wo_put (C := RX4) (T := TX4) (N := 14) (v := .int 0) (ty := .int) hx hb htw uwX4 tyX4 tyX4_ok nmX4 hown hE hw hS hk rfl rfl 4 (by decide) (htw _ mw287) (fun _ h9 => h9) rfl (tyX4_ok 4 (by decide)) rfl rfl (Nat.le_of_ble_eq_true rfl) (st4_4 hr8) dX4_readLines_7 (fun H locs hw hS => ?_)
  refine lv_aload_n hx hb dX4_readLines_10 rfl (lv_at hl 0 rfl) ?_
  obtain ⟨z9, hz9, hf⟩ := bd hf
  refine cl_Vv (rest := []) (kX4_nextToken (l := l) (Γ := Γ) (A := A) (G := G) (o := o) hk hz9) ⟨hx, hb, hml, hown, htw⟩ hE hw hS (wo_me hw hk) (q0 := 0) rfl rfl mw487 mw489 mw1 mw123 mw490 pdX4_nextToken ⟨Nat.le_of_ble_eq_true rfl, Nat.le_of_ble_eq_true rfl⟩ rfl rfl hl.1 (Nat.le_of_ble_eq_true rfl) dX4_readLines_11 (fun H locs hw hS => ?_)
  refine lv_iconst (v := 0) hx hb dX4_readLines_14 (by decide) ?_
  refine lv_istore_n (lv' := [(2, .int 0), (0, .ref (ad Γ o)), (1, .int v1)]) hx hb dX4_readLines_15 rfl hl (by decide) rfl (fun ls hl => ?_)
  exact lwX4_readLines_16 C hk hf hq H locs ls hw hS (lv_sub hl [1, 2, 0] rfl)

theorem kX4_readLines {l : Launch} {Γ : Gm} {A : Nat → Prop} {G : Gs} {o : Nat} {r : Rec} {v1 : Int32} {fin : Rec} (hk : kd Γ o = some 4) (hf : fX4_readLines r v1 = some fin) : Kt l yX4_readLines cX4_readLines 3 none 7 151 Γ A (ug G o r) (ug G o fin) [.ref (ad Γ o), .int v1] none :=
  kt_of (by decide) (Nat.le_of_ble_eq_true rfl) (fun p e s m args below meth c C => wX4_readLines_e C hk hf rfl)
theorem kgX4_readLines {l : Launch} {Γ : Gm} {A : Nat → Prop} {G : Gs} {o : Nat} {v1 : Int32} {fin : Rec} (hk : kd Γ o = some 4) (hf : fX4_readLines (G o) v1 = some fin) : Kt l yX4_readLines cX4_readLines 3 none 7 151 Γ A G (ug G o fin) [.ref (ad Γ o), .int v1] none := by
  have h := kX4_readLines (l := l) (A := A) (G := G) (r := G o) hk hf
  rw [ug_self] at h
  exact h
noncomputable def fX4_isTooMany (r : Rec) (v1 : Int32) : Option (Rec × Int32) :=
  gd (inR v1 120) ((some (ga r 6 (Int32.toNatClampNeg v1))).bind fun x2 => if x2 ≤ 3 then gd (inR x2 4) (gd (inR x2 4) ((some (sa r 11 (upd (ga r 11) (Int32.toNatClampNeg x2) ((ga r 11 (Int32.toNatClampNeg x2)) + 1)))).bind fun r5 => gd (inR x2 4) (gd (inR x2 (sLn 2)) (if (ga r5 11 (Int32.toNatClampNeg x2)) ≤ (sDt 2 (Int32.toNatClampNeg x2)) then some ((r5, 0)) else some ((r5, 1)))))) else gd (inR x2 (sLn 2)) (if v1 < (sDt 2 (Int32.toNatClampNeg x2)) then some ((r, 0)) else some ((r, 1))))
set_option maxRecDepth 100000 in
set_option maxHeartbeats 4000000 in
theorem wX4_isTooMany_e {p : Program} {l : Launch} {e : Env} {s : State} {m : MethodId} {args : Array Value} {below : List Frame} {meth : Method} {c : Code} {Γ : Gm} {A : Nat → Prop} {G : Gs} {o : Nat} {r : Rec} {v1 : Int32} {q : (Rec × Int32)} {fin : Rec × Int32} (C : Cx p s m args meth c yX4_isTooMany cX4_isTooMany 3 (some .boolean) Γ A) (hk : kd Γ o = some 4) (hf : fX4_isTooMany r v1 = some q) (hq : (fun x => x = fin) q) : Wk p l e { frames := 0, cells := 0, slots := 0, locals := 0 } s m args below meth c Γ A (ug G o fin.1) (some (.int fin.2)) 0 3 [(0, .ref (ad Γ o)), (1, .int v1)] [] (ug G o r) := by
  intro H locs ls hw hS hl
  unfold fX4_isTooMany at hf
  obtain ⟨hx, hb, hml, hr, hown, htw, hlocks, hE⟩ := id C
  have hown : s.vm.findClass RX4 = some m.cls := hown
  refine lv_aload_n hx hb dX4_isTooMany_0 rfl (lv_at hl 0 rfl) ?_
  refine va_get (ci := 4) (v := .ref (aa Γ o 6)) (C := RX4) (T := TX4) (N := 14) hx hb htw uwX4 hown hE.1 (wo_me hw hk) 0 rfl rfl 6 (by decide) (htw _ mw289) (fun _ h9 => h9) rfl dX4_isTooMany_1 ?_
  refine lv_iload_n hx hb dX4_isTooMany_4 rfl (lv_at hl 1 rfl) ?_
  obtain ⟨g1, hf⟩ := gd_some hf
  refine va_iald hx hb hE.1 (wo_me hw hk) 2 0 rfl rfl (inR_in g1) dX4_isTooMany_5 ?_
  obtain ⟨x2, hx2, hf⟩ := bd hf
  have hx2 := Option.some.inj hx2
  refine tp1i hx2 ?_
  refine lv_istore_n (lv' := [(2, .int x2), (0, .ref (ad Γ o)), (1, .int v1)]) hx hb dX4_isTooMany_6 rfl hl (by decide) rfl (fun ls hl => ?_)
  refine lv_iload_n hx hb dX4_isTooMany_7 rfl (lv_at hl 0 rfl) ?_
  refine lv_iconst (v := 3) hx hb dX4_isTooMany_8 (by decide) ?_
  refine lv_icmp_le (tgt := 27) hx hb dX4_isTooMany_9 (by decide) (fun c11 => ?_) (fun c11 => ?_)
  · have hf := ifp c11 hf
    refine lv_aload_n hx hb dX4_isTooMany_27 rfl (lv_at hl 1 rfl) ?_
    refine va_get (ci := 4) (v := .ref (aa Γ o 11)) (C := RX4) (T := TX4) (N := 14) hx hb htw uwX4 hown hE.1 (wo_me hw hk) 0 rfl rfl 11 (by decide) (htw _ mw294) (fun _ h9 => h9) rfl dX4_isTooMany_28 ?_
    refine lv_iload_n hx hb dX4_isTooMany_31 rfl (lv_at hl 0 rfl) ?_
    refine lv_dup2_11 hx hb dX4_isTooMany_32 rfl rfl ?_
    obtain ⟨g3, hf⟩ := gd_some hf
    refine va_iald hx hb hE.1 (wo_me hw hk) 7 0 rfl rfl (inR_in g3) dX4_isTooMany_33 ?_
    refine lv_iconst (v := 1) hx hb dX4_isTooMany_34 (by decide) ?_
    refine lv_iadd hx hb dX4_isTooMany_35 ?_
    obtain ⟨g4, hf⟩ := gd_some hf
    obtain ⟨r5, hr5, hf⟩ := bd hf
    have hr5 := Option.some.inj hr5
    refine wo_iast hx hb hE hw hS hk (q0 := 7) rfl (inR_in g4) (sa4_11 hr5) dX4_isTooMany_36 (fun H locs hw hS => ?_)
    refine lv_aload_n hx hb dX4_isTooMany_37 rfl (lv_at hl 1 rfl) ?_
    refine va_get (ci := 4) (v := .ref (aa Γ o 11)) (C := RX4) (T := TX4) (N := 14) hx hb htw uwX4 hown hE.1 (wo_me hw hk) 0 rfl rfl 11 (by decide) (htw _ mw294) (fun _ h9 => h9) rfl dX4_isTooMany_38 ?_
    refine lv_iload_n hx hb dX4_isTooMany_41 rfl (lv_at hl 0 rfl) ?_
    obtain ⟨g6, hf⟩ := gd_some hf
    refine va_iald hx hb hE.1 (wo_me hw hk) 7 0 rfl rfl (inR_in g6) dX4_isTooMany_42 ?_
    refine va_getsN (C := "TarnishTurns") hx hb (hE.2.2.2.2.1 2 (by decide)).1 hS hown (va_Nw.use rfl (hE.2.2.2.2.2.2.2.2.1 2 (by decide))) (fun _ h9 => h9) dX4_isTooMany_43 ?_
    refine lv_iload_n hx hb dX4_isTooMany_46 rfl (lv_at hl 0 rfl) ?_
    obtain ⟨g7, hf⟩ := gd_some hf
    refine va_ti (v := .int (sDt 2 (Int32.toNatClampNeg x2))) hx hb (hE.2.2.2.2.1 2 (by decide)).2 hS (inR_in g7) rfl dX4_isTooMany_47 ?_
    refine lv_icmp_le (tgt := 55) hx hb dX4_isTooMany_48 (by decide) (fun c8 => ?_) (fun c8 => ?_)
    · have hf := ifp c8 hf
      refine lv_iconst (v := 0) hx hb dX4_isTooMany_55 (by decide) ?_
      obtain rfl := Option.some.inj hf
      subst hq
      exact rt_z C (Or.inl rfl) hw hS dX4_isTooMany_56
    · have hf := ifn c8 hf
      refine lv_iconst (v := 1) hx hb dX4_isTooMany_51 (by decide) ?_
      refine lv_goto (tgt := 56) hx hb dX4_isTooMany_52 (by decide) ?_
      obtain rfl := Option.some.inj hf
      subst hq
      exact rt_z C (Or.inr rfl) hw hS dX4_isTooMany_56
  · have hf := ifn c11 hf
    refine lv_iload_n hx hb dX4_isTooMany_12 rfl (lv_at hl 2 rfl) ?_
    refine va_getsN (C := "TarnishTurns") hx hb (hE.2.2.2.2.1 2 (by decide)).1 hS hown (va_Nw.use rfl (hE.2.2.2.2.2.2.2.2.1 2 (by decide))) (fun _ h9 => h9) dX4_isTooMany_13 ?_
    refine lv_iload_n hx hb dX4_isTooMany_16 rfl (lv_at hl 0 rfl) ?_
    obtain ⟨g9, hf⟩ := gd_some hf
    refine va_ti (v := .int (sDt 2 (Int32.toNatClampNeg x2))) hx hb (hE.2.2.2.2.1 2 (by decide)).2 hS (inR_in g9) rfl dX4_isTooMany_17 ?_
    refine lv_icmp_lt (tgt := 25) hx hb dX4_isTooMany_18 (by decide) (fun c10 => ?_) (fun c10 => ?_)
    · have hf := ifp c10 hf
      refine lv_iconst (v := 0) hx hb dX4_isTooMany_25 (by decide) ?_
      obtain rfl := Option.some.inj hf
      subst hq
      exact rt_z C (Or.inl rfl) hw hS dX4_isTooMany_26
    · have hf := ifn c10 hf
      refine lv_iconst (v := 1) hx hb dX4_isTooMany_21 (by decide) ?_
      refine lv_goto (tgt := 26) hx hb dX4_isTooMany_22 (by decide) ?_
      obtain rfl := Option.some.inj hf
      subst hq
      exact rt_z C (Or.inr rfl) hw hS dX4_isTooMany_26

theorem kX4_isTooMany {l : Launch} {Γ : Gm} {A : Nat → Prop} {G : Gs} {o : Nat} {r : Rec} {v1 : Int32} {fin : Rec × Int32} (hk : kd Γ o = some 4) (hf : fX4_isTooMany r v1 = some fin) : Kt l yX4_isTooMany cX4_isTooMany 3 (some .boolean) 0 0 Γ A (ug G o r) (ug G o fin.1) [.ref (ad Γ o), .int v1] (some (.int fin.2)) :=
  kt_of (by decide) (Nat.le_of_ble_eq_true rfl) (fun p e s m args below meth c C => wX4_isTooMany_e C hk hf rfl)
theorem kgX4_isTooMany {l : Launch} {Γ : Gm} {A : Nat → Prop} {G : Gs} {o : Nat} {v1 : Int32} {fin : Rec × Int32} (hk : kd Γ o = some 4) (hf : fX4_isTooMany (G o) v1 = some fin) : Kt l yX4_isTooMany cX4_isTooMany 3 (some .boolean) 0 0 Γ A G (ug G o fin.1) [.ref (ad Γ o), .int v1] (some (.int fin.2)) := by
  have h := kX4_isTooMany (l := l) (A := A) (G := G) (r := G o) hk hf
  rw [ug_self] at h
  exact h
noncomputable def bX4_mayBe_93 (r : Rec) : Option Int32 :=
  some (1)
set_option maxRecDepth 100000 in
set_option maxHeartbeats 4000000 in
theorem wX4_mayBe_93 {p : Program} {l : Launch} {e : Env} {s : State} {m : MethodId} {args : Array Value} {below : List Frame} {meth : Method} {c : Code} {Γ : Gm} {A : Nat → Prop} {G : Gs} {o : Nat} {r : Rec} {q : Int32} {fin : Int32} (C : Cx p s m args meth c yX4_mayBe cX4_mayBe 6 (some .boolean) Γ A) (hk : kd Γ o = some 4) (hf : bX4_mayBe_93 r = some q) (hq : (fun x => x = fin) q) : Wk p l e { frames := 0, cells := 0, slots := 0, locals := 0 } s m args below meth c Γ A (ug G o r) (some (.int fin)) 93 6 [] [] (ug G o r) := by
  intro H locs ls hw hS hl
  unfold bX4_mayBe_93 at hf
  obtain ⟨hx, hb, hml, hr, hown, htw, hlocks, hE⟩ := id C
  have hown : s.vm.findClass RX4 = some m.cls := hown
  refine lv_iconst (v := 1) hx hb dX4_mayBe_93 (by decide) ?_
  refine lv_goto (tgt := 98) hx hb dX4_mayBe_94 (by decide) ?_
  obtain rfl := Option.some.inj hf
  subst hq
  exact rt_z C (Or.inr rfl) hw hS dX4_mayBe_98

noncomputable def bX4_mayBe_157 (r : Rec) : Option Int32 :=
  some (1)
set_option maxRecDepth 100000 in
set_option maxHeartbeats 4000000 in
theorem wX4_mayBe_157 {p : Program} {l : Launch} {e : Env} {s : State} {m : MethodId} {args : Array Value} {below : List Frame} {meth : Method} {c : Code} {Γ : Gm} {A : Nat → Prop} {G : Gs} {o : Nat} {r : Rec} {q : Int32} {fin : Int32} (C : Cx p s m args meth c yX4_mayBe cX4_mayBe 6 (some .boolean) Γ A) (hk : kd Γ o = some 4) (hf : bX4_mayBe_157 r = some q) (hq : (fun x => x = fin) q) : Wk p l e { frames := 0, cells := 0, slots := 0, locals := 0 } s m args below meth c Γ A (ug G o r) (some (.int fin)) 157 6 [] [] (ug G o r) := by
  intro H locs ls hw hS hl
  unfold bX4_mayBe_157 at hf
  obtain ⟨hx, hb, hml, hr, hown, htw, hlocks, hE⟩ := id C
  have hown : s.vm.findClass RX4 = some m.cls := hown
  refine lv_iconst (v := 1) hx hb dX4_mayBe_157 (by decide) ?_
  refine lv_goto (tgt := 162) hx hb dX4_mayBe_158 (by decide) ?_
  obtain rfl := Option.some.inj hf
  subst hq
  exact rt_z C (Or.inr rfl) hw hS dX4_mayBe_162

noncomputable def bX4_mayBe_129 (r : Rec) (v1 : Int32) (v2 : Int32) (v3 : Int32) (v4 : Int32) (v5 : Int32) : Option Int32 :=
  if v3 = 10 then if 0 < v2 then bX4_mayBe_157 r else if v1 = 0 then bX4_mayBe_157 r else gd (inR (v4 - 3) 360) (if v5 < (ga r 9 (Int32.toNatClampNeg (v4 - 3))) then some (0) else bX4_mayBe_157 r) else bX4_mayBe_157 r
set_option maxRecDepth 100000 in
set_option maxHeartbeats 4000000 in
theorem wX4_mayBe_129 {p : Program} {l : Launch} {e : Env} {s : State} {m : MethodId} {args : Array Value} {below : List Frame} {meth : Method} {c : Code} {Γ : Gm} {A : Nat → Prop} {G : Gs} {o : Nat} {r : Rec} {v1 : Int32} {v2 : Int32} {v3 : Int32} {v4 : Int32} {v5 : Int32} {q : Int32} {fin : Int32} (C : Cx p s m args meth c yX4_mayBe cX4_mayBe 6 (some .boolean) Γ A) (hk : kd Γ o = some 4) (hf : bX4_mayBe_129 r v1 v2 v3 v4 v5 = some q) (hq : (fun x => x = fin) q) : Wk p l e { frames := 0, cells := 0, slots := 0, locals := 0 } s m args below meth c Γ A (ug G o r) (some (.int fin)) 129 6 [(0, .ref (ad Γ o)), (1, .int v1), (2, .int v2), (3, .int v3), (4, .int v4), (5, .int v5)] [] (ug G o r) := by
  intro H locs ls hw hS hl
  unfold bX4_mayBe_129 at hf
  obtain ⟨hx, hb, hml, hr, hown, htw, hlocks, hE⟩ := id C
  have hown : s.vm.findClass RX4 = some m.cls := hown
  refine lv_iload_n hx hb dX4_mayBe_129 rfl (lv_at hl 3 rfl) ?_
  refine lv_bipush (v := 10) hx hb dX4_mayBe_130 (by decide) ?_
  refine lv_icmp_ne (tgt := 157) hx hb dX4_mayBe_132 (by decide) (fun c5 => ?_) (fun c5 => ?_)
  · have hf := ifn c5 hf
    exact wX4_mayBe_157 C hk hf hq H locs ls hw hS (lv_sub hl [] rfl)
  · have hf := ifp c5 hf
    refine lv_iload_n hx hb dX4_mayBe_135 rfl (lv_at hl 2 rfl) ?_
    refine lv_if_gt (tgt := 157) hx hb dX4_mayBe_136 (by decide) (fun c4 => ?_) (fun c4 => ?_)
    · have hf := ifp c4 hf
      exact wX4_mayBe_157 C hk hf hq H locs ls hw hS (lv_sub hl [] rfl)
    · have hf := ifn c4 hf
      refine lv_iload_n hx hb dX4_mayBe_139 rfl (lv_at hl 1 rfl) ?_
      refine lv_if_eq (tgt := 157) hx hb dX4_mayBe_140 (by decide) (fun c3 => ?_) (fun c3 => ?_)
      · have hf := ifp c3 hf
        exact wX4_mayBe_157 C hk hf hq H locs ls hw hS (lv_sub hl [] rfl)
      · have hf := ifn c3 hf
        refine lv_iload hx hb dX4_mayBe_143 (lv_at hl 5 rfl) ?_
        refine lv_aload_n hx hb dX4_mayBe_145 rfl (lv_at hl 0 rfl) ?_
        refine va_get (ci := 4) (v := .ref (aa Γ o 9)) (C := RX4) (T := TX4) (N := 14) hx hb htw uwX4 hown hE.1 (wo_me hw hk) 0 rfl rfl 9 (by decide) (htw _ mw292) (fun _ h9 => h9) rfl dX4_mayBe_146 ?_
        refine lv_iload hx hb dX4_mayBe_149 (lv_at hl 4 rfl) ?_
        refine lv_iconst (v := 3) hx hb dX4_mayBe_151 (by decide) ?_
        refine lv_isub hx hb dX4_mayBe_152 ?_
        obtain ⟨g1, hf⟩ := gd_some hf
        refine va_iald hx hb hE.1 (wo_me hw hk) 5 0 rfl rfl (inR_in g1) dX4_mayBe_153 ?_
        refine lv_icmp_lt (tgt := 161) hx hb dX4_mayBe_154 (by decide) (fun c2 => ?_) (fun c2 => ?_)
        · have hf := ifp c2 hf
          refine lv_iconst (v := 0) hx hb dX4_mayBe_161 (by decide) ?_
          obtain rfl := Option.some.inj hf
          subst hq
          exact rt_z C (Or.inl rfl) hw hS dX4_mayBe_162
        · have hf := ifn c2 hf
          exact wX4_mayBe_157 C hk hf hq H locs ls hw hS (lv_sub hl [] rfl)

noncomputable def bX4_mayBe_99 (r : Rec) (v1 : Int32) (v2 : Int32) (v3 : Int32) (v4 : Int32) (v5 : Int32) : Option Int32 :=
  if v3 = 5 then if v2 = 2 then gd (inR (v4 + 1) 360) (if v5 = (ga r 9 (Int32.toNatClampNeg (v4 + 1))) then some (0) else some (1)) else bX4_mayBe_129 r v1 v2 v3 v4 v5 else bX4_mayBe_129 r v1 v2 v3 v4 v5
set_option maxRecDepth 100000 in
set_option maxHeartbeats 4000000 in
theorem wX4_mayBe_99 {p : Program} {l : Launch} {e : Env} {s : State} {m : MethodId} {args : Array Value} {below : List Frame} {meth : Method} {c : Code} {Γ : Gm} {A : Nat → Prop} {G : Gs} {o : Nat} {r : Rec} {v1 : Int32} {v2 : Int32} {v3 : Int32} {v4 : Int32} {v5 : Int32} {q : Int32} {fin : Int32} (C : Cx p s m args meth c yX4_mayBe cX4_mayBe 6 (some .boolean) Γ A) (hk : kd Γ o = some 4) (hf : bX4_mayBe_99 r v1 v2 v3 v4 v5 = some q) (hq : (fun x => x = fin) q) : Wk p l e { frames := 0, cells := 0, slots := 0, locals := 0 } s m args below meth c Γ A (ug G o r) (some (.int fin)) 99 6 [(0, .ref (ad Γ o)), (1, .int v1), (2, .int v2), (3, .int v3), (4, .int v4), (5, .int v5)] [] (ug G o r) := by
  intro H locs ls hw hS hl
  unfold bX4_mayBe_99 at hf
  obtain ⟨hx, hb, hml, hr, hown, htw, hlocks, hE⟩ := id C
  have hown : s.vm.findClass RX4 = some m.cls := hown
  refine lv_iload_n hx hb dX4_mayBe_99 rfl (lv_at hl 3 rfl) ?_
  refine lv_iconst (v := 5) hx hb dX4_mayBe_100 (by decide) ?_
  refine lv_icmp_ne (tgt := 129) hx hb dX4_mayBe_101 (by decide) (fun c9 => ?_) (fun c9 => ?_)
  · have hf := ifn c9 hf
    exact wX4_mayBe_129 C hk hf hq H locs ls hw hS hl
  · have hf := ifp c9 hf
    refine lv_iload_n hx hb dX4_mayBe_104 rfl (lv_at hl 2 rfl) ?_
    refine lv_iconst (v := 2) hx hb dX4_mayBe_105 (by decide) ?_
    refine lv_icmp_ne (tgt := 129) hx hb dX4_mayBe_106 (by decide) (fun c8 => ?_) (fun c8 => ?_)
    · have hf := ifn c8 hf
      exact wX4_mayBe_129 C hk hf hq H locs ls hw hS hl
    · have hf := ifp c8 hf
      refine lv_iload hx hb dX4_mayBe_109 (lv_at hl 5 rfl) ?_
      refine lv_aload_n hx hb dX4_mayBe_111 rfl (lv_at hl 0 rfl) ?_
      refine va_get (ci := 4) (v := .ref (aa Γ o 9)) (C := RX4) (T := TX4) (N := 14) hx hb htw uwX4 hown hE.1 (wo_me hw hk) 0 rfl rfl 9 (by decide) (htw _ mw292) (fun _ h9 => h9) rfl dX4_mayBe_112 ?_
      refine lv_iload hx hb dX4_mayBe_115 (lv_at hl 4 rfl) ?_
      refine lv_iconst (v := 1) hx hb dX4_mayBe_117 (by decide) ?_
      refine lv_iadd hx hb dX4_mayBe_118 ?_
      obtain ⟨g6, hf⟩ := gd_some hf
      refine va_iald hx hb hE.1 (wo_me hw hk) 5 0 rfl rfl (inR_in g6) dX4_mayBe_119 ?_
      refine lv_icmp_eq (tgt := 127) hx hb dX4_mayBe_120 (by decide) (fun c7 => ?_) (fun c7 => ?_)
      · have hf := ifp c7 hf
        refine lv_iconst (v := 0) hx hb dX4_mayBe_127 (by decide) ?_
        obtain rfl := Option.some.inj hf
        subst hq
        exact rt_z C (Or.inl rfl) hw hS dX4_mayBe_128
      · have hf := ifn c7 hf
        refine lv_iconst (v := 1) hx hb dX4_mayBe_123 (by decide) ?_
        refine lv_goto (tgt := 128) hx hb dX4_mayBe_124 (by decide) ?_
        obtain rfl := Option.some.inj hf
        subst hq
        exact rt_z C (Or.inr rfl) hw hS dX4_mayBe_128

noncomputable def fX4_mayBe (r : Rec) (v1 : Int32) (v2 : Int32) : Option Int32 :=
  gd (inR v1 120) ((some (ga r 6 (Int32.toNatClampNeg v1))).bind fun x11 => gd (inR ((v1 * 3) + v2) 360) ((some (ga r 9 (Int32.toNatClampNeg ((v1 * 3) + v2)))).bind fun x13 => gd (inR ((x11 * 3) + v2) (sLn 3)) (if x13 < (sDt 3 (Int32.toNatClampNeg ((x11 * 3) + v2))) then some (0) else gd (inR ((x11 * 3) + v2) (sLn 4)) (if x13 ≤ (sDt 4 (Int32.toNatClampNeg ((x11 * 3) + v2))) then if x11 = 3 then if v2 ≤ 0 then bX4_mayBe_99 r v1 v2 x11 (v1 * 3) x13 else gd (inR (v1 * 3) 360) (if x13 = (ga r 9 (Int32.toNatClampNeg (v1 * 3))) then some (0) else if v2 = 1 then bX4_mayBe_93 r else gd (inR ((v1 * 3) + 1) 360) (if x13 = (ga r 9 (Int32.toNatClampNeg ((v1 * 3) + 1))) then some (0) else bX4_mayBe_93 r)) else bX4_mayBe_99 r v1 v2 x11 (v1 * 3) x13 else some (0)))))
set_option maxRecDepth 100000 in
set_option maxHeartbeats 4000000 in
theorem wX4_mayBe_e {p : Program} {l : Launch} {e : Env} {s : State} {m : MethodId} {args : Array Value} {below : List Frame} {meth : Method} {c : Code} {Γ : Gm} {A : Nat → Prop} {G : Gs} {o : Nat} {r : Rec} {v1 : Int32} {v2 : Int32} {q : Int32} {fin : Int32} (C : Cx p s m args meth c yX4_mayBe cX4_mayBe 6 (some .boolean) Γ A) (hk : kd Γ o = some 4) (hf : fX4_mayBe r v1 v2 = some q) (hq : (fun x => x = fin) q) : Wk p l e { frames := 0, cells := 0, slots := 0, locals := 0 } s m args below meth c Γ A (ug G o r) (some (.int fin)) 0 6 [(0, .ref (ad Γ o)), (1, .int v1), (2, .int v2)] [] (ug G o r) := by
  intro H locs ls hw hS hl
  unfold fX4_mayBe at hf
  obtain ⟨hx, hb, hml, hr, hown, htw, hlocks, hE⟩ := id C
  have hown : s.vm.findClass RX4 = some m.cls := hown
  refine lv_aload_n hx hb dX4_mayBe_0 rfl (lv_at hl 0 rfl) ?_
  refine va_get (ci := 4) (v := .ref (aa Γ o 6)) (C := RX4) (T := TX4) (N := 14) hx hb htw uwX4 hown hE.1 (wo_me hw hk) 0 rfl rfl 6 (by decide) (htw _ mw289) (fun _ h9 => h9) rfl dX4_mayBe_1 ?_
  refine lv_iload_n hx hb dX4_mayBe_4 rfl (lv_at hl 1 rfl) ?_
  obtain ⟨g10, hf⟩ := gd_some hf
  refine va_iald hx hb hE.1 (wo_me hw hk) 2 0 rfl rfl (inR_in g10) dX4_mayBe_5 ?_
  obtain ⟨x11, hx11, hf⟩ := bd hf
  have hx11 := Option.some.inj hx11
  refine tp1i hx11 ?_
  refine lv_istore_n (lv' := [(3, .int x11), (0, .ref (ad Γ o)), (1, .int v1), (2, .int v2)]) hx hb dX4_mayBe_6 rfl hl (by decide) rfl (fun ls hl => ?_)
  refine lv_iload_n hx hb dX4_mayBe_7 rfl (lv_at hl 2 rfl) ?_
  refine lv_iconst (v := 3) hx hb dX4_mayBe_8 (by decide) ?_
  refine lv_imul hx hb dX4_mayBe_9 ?_
  refine lv_istore (lv' := [(4, .int (v1 * 3)), (3, .int x11), (0, .ref (ad Γ o)), (1, .int v1), (2, .int v2)]) hx hb dX4_mayBe_10 hl (by decide) rfl (fun ls hl => ?_)
  refine lv_aload_n hx hb dX4_mayBe_12 rfl (lv_at hl 2 rfl) ?_
  refine va_get (ci := 4) (v := .ref (aa Γ o 9)) (C := RX4) (T := TX4) (N := 14) hx hb htw uwX4 hown hE.1 (wo_me hw hk) 0 rfl rfl 9 (by decide) (htw _ mw292) (fun _ h9 => h9) rfl dX4_mayBe_13 ?_
  refine lv_iload hx hb dX4_mayBe_16 (lv_at hl 0 rfl) ?_
  refine lv_iload_n hx hb dX4_mayBe_18 rfl (lv_at hl 4 rfl) ?_
  refine lv_iadd hx hb dX4_mayBe_19 ?_
  obtain ⟨g12, hf⟩ := gd_some hf
  refine va_iald hx hb hE.1 (wo_me hw hk) 5 0 rfl rfl (inR_in g12) dX4_mayBe_20 ?_
  obtain ⟨x13, hx13, hf⟩ := bd hf
  have hx13 := Option.some.inj hx13
  refine tp1i hx13 ?_
  refine lv_istore (lv' := [(5, .int x13), (4, .int (v1 * 3)), (3, .int x11), (0, .ref (ad Γ o)), (1, .int v1), (2, .int v2)]) hx hb dX4_mayBe_21 hl (by decide) rfl (fun ls hl => ?_)
  refine lv_iload hx hb dX4_mayBe_23 (lv_at hl 0 rfl) ?_
  refine va_getsN (C := "TarnishTurns") hx hb (hE.2.2.2.2.1 3 (by decide)).1 hS hown (va_Nw.use rfl (hE.2.2.2.2.2.2.2.2.1 3 (by decide))) (fun _ h9 => h9) dX4_mayBe_25 ?_
  refine lv_iload_n hx hb dX4_mayBe_28 rfl (lv_at hl 2 rfl) ?_
  refine lv_iconst (v := 3) hx hb dX4_mayBe_29 (by decide) ?_
  refine lv_imul hx hb dX4_mayBe_30 ?_
  refine lv_iload_n hx hb dX4_mayBe_31 rfl (lv_at hl 5 rfl) ?_
  refine lv_iadd hx hb dX4_mayBe_32 ?_
  obtain ⟨g14, hf⟩ := gd_some hf
  refine va_ti (v := .int (sDt 3 (Int32.toNatClampNeg ((x11 * 3) + v2)))) hx hb (hE.2.2.2.2.1 3 (by decide)).2 hS (inR_in g14) rfl dX4_mayBe_33 ?_
  refine lv_icmp_lt (tgt := 51) hx hb dX4_mayBe_34 (by decide) (fun c24 => ?_) (fun c24 => ?_)
  · have hf := ifp c24 hf
    refine lv_iconst (v := 0) hx hb dX4_mayBe_51 (by decide) ?_
    obtain rfl := Option.some.inj hf
    subst hq
    exact rt_z C (Or.inl rfl) hw hS dX4_mayBe_52
  · have hf := ifn c24 hf
    refine lv_iload hx hb dX4_mayBe_37 (lv_at hl 0 rfl) ?_
    refine va_getsN (C := "TarnishTurns") hx hb (hE.2.2.2.2.1 4 (by decide)).1 hS hown (va_Nw.use rfl (hE.2.2.2.2.2.2.2.2.1 4 (by decide))) (fun _ h9 => h9) dX4_mayBe_39 ?_
    refine lv_iload_n hx hb dX4_mayBe_42 rfl (lv_at hl 2 rfl) ?_
    refine lv_iconst (v := 3) hx hb dX4_mayBe_43 (by decide) ?_
    refine lv_imul hx hb dX4_mayBe_44 ?_
    refine lv_iload_n hx hb dX4_mayBe_45 rfl (lv_at hl 5 rfl) ?_
    refine lv_iadd hx hb dX4_mayBe_46 ?_
    obtain ⟨g15, hf⟩ := gd_some hf
    refine va_ti (v := .int (sDt 4 (Int32.toNatClampNeg ((x11 * 3) + v2)))) hx hb (hE.2.2.2.2.1 4 (by decide)).2 hS (inR_in g15) rfl dX4_mayBe_47 ?_
    refine lv_icmp_le (tgt := 53) hx hb dX4_mayBe_48 (by decide) (fun c23 => ?_) (fun c23 => ?_)
    · have hf := ifp c23 hf
      refine lv_iload_n hx hb dX4_mayBe_53 rfl (lv_at hl 2 rfl) ?_
      refine lv_iconst (v := 3) hx hb dX4_mayBe_54 (by decide) ?_
      refine lv_icmp_ne (tgt := 99) hx hb dX4_mayBe_55 (by decide) (fun c22 => ?_) (fun c22 => ?_)
      · have hf := ifn c22 hf
        exact wX4_mayBe_99 C hk hf hq H locs ls hw hS (lv_sub hl [3, 4, 5, 2, 1, 0] rfl)
      · have hf := ifp c22 hf
        refine lv_iload_n hx hb dX4_mayBe_58 rfl (lv_at hl 5 rfl) ?_
        refine lv_if_le (tgt := 99) hx hb dX4_mayBe_59 (by decide) (fun c21 => ?_) (fun c21 => ?_)
        · have hf := ifp c21 hf
          exact wX4_mayBe_99 C hk hf hq H locs ls hw hS (lv_sub hl [3, 4, 5, 2, 1, 0] rfl)
        · have hf := ifn c21 hf
          refine lv_iload hx hb dX4_mayBe_62 (lv_at hl 0 rfl) ?_
          refine lv_aload_n hx hb dX4_mayBe_64 rfl (lv_at hl 3 rfl) ?_
          refine va_get (ci := 4) (v := .ref (aa Γ o 9)) (C := RX4) (T := TX4) (N := 14) hx hb htw uwX4 hown hE.1 (wo_me hw hk) 0 rfl rfl 9 (by decide) (htw _ mw292) (fun _ h9 => h9) rfl dX4_mayBe_65 ?_
          refine lv_iload hx hb dX4_mayBe_68 (lv_at hl 1 rfl) ?_
          obtain ⟨g16, hf⟩ := gd_some hf
          refine va_iald hx hb hE.1 (wo_me hw hk) 5 0 rfl rfl (inR_in g16) dX4_mayBe_70 ?_
          refine lv_icmp_eq (tgt := 97) hx hb dX4_mayBe_71 (by decide) (fun c20 => ?_) (fun c20 => ?_)
          · have hf := ifp c20 hf
            refine lv_iconst (v := 0) hx hb dX4_mayBe_97 (by decide) ?_
            obtain rfl := Option.some.inj hf
            subst hq
            exact rt_z C (Or.inl rfl) hw hS dX4_mayBe_98
          · have hf := ifn c20 hf
            refine lv_iload_n hx hb dX4_mayBe_74 rfl (lv_at hl 5 rfl) ?_
            refine lv_iconst (v := 1) hx hb dX4_mayBe_75 (by decide) ?_
            refine lv_icmp_eq (tgt := 93) hx hb dX4_mayBe_76 (by decide) (fun c19 => ?_) (fun c19 => ?_)
            · have hf := ifp c19 hf
              exact wX4_mayBe_93 C hk hf hq H locs ls hw hS (lv_sub hl [] rfl)
            · have hf := ifn c19 hf
              refine lv_iload hx hb dX4_mayBe_79 (lv_at hl 0 rfl) ?_
              refine lv_aload_n hx hb dX4_mayBe_81 rfl (lv_at hl 3 rfl) ?_
              refine va_get (ci := 4) (v := .ref (aa Γ o 9)) (C := RX4) (T := TX4) (N := 14) hx hb htw uwX4 hown hE.1 (wo_me hw hk) 0 rfl rfl 9 (by decide) (htw _ mw292) (fun _ h9 => h9) rfl dX4_mayBe_82 ?_
              refine lv_iload hx hb dX4_mayBe_85 (lv_at hl 1 rfl) ?_
              refine lv_iconst (v := 1) hx hb dX4_mayBe_87 (by decide) ?_
              refine lv_iadd hx hb dX4_mayBe_88 ?_
              obtain ⟨g17, hf⟩ := gd_some hf
              refine va_iald hx hb hE.1 (wo_me hw hk) 5 0 rfl rfl (inR_in g17) dX4_mayBe_89 ?_
              refine lv_icmp_eq (tgt := 97) hx hb dX4_mayBe_90 (by decide) (fun c18 => ?_) (fun c18 => ?_)
              · have hf := ifp c18 hf
                refine lv_iconst (v := 0) hx hb dX4_mayBe_97 (by decide) ?_
                obtain rfl := Option.some.inj hf
                subst hq
                exact rt_z C (Or.inl rfl) hw hS dX4_mayBe_98
              · have hf := ifn c18 hf
                exact wX4_mayBe_93 C hk hf hq H locs ls hw hS (lv_sub hl [] rfl)
    · have hf := ifn c23 hf
      refine lv_iconst (v := 0) hx hb dX4_mayBe_51 (by decide) ?_
      obtain rfl := Option.some.inj hf
      subst hq
      exact rt_z C (Or.inl rfl) hw hS dX4_mayBe_52

theorem kX4_mayBe {l : Launch} {Γ : Gm} {A : Nat → Prop} {G : Gs} {o : Nat} {r : Rec} {v1 : Int32} {v2 : Int32} {fin : Int32} (hk : kd Γ o = some 4) (hf : fX4_mayBe r v1 v2 = some fin) : Kt l yX4_mayBe cX4_mayBe 6 (some .boolean) 0 0 Γ A (ug G o r) (ug G o r) [.ref (ad Γ o), .int v1, .int v2] (some (.int fin)) :=
  kt_of (by decide) (Nat.le_of_ble_eq_true rfl) (fun p e s m args below meth c C => wX4_mayBe_e C hk hf rfl)
theorem kgX4_mayBe {l : Launch} {Γ : Gm} {A : Nat → Prop} {G : Gs} {o : Nat} {v1 : Int32} {v2 : Int32} {fin : Int32} (hk : kd Γ o = some 4) (hf : fX4_mayBe (G o) v1 v2 = some fin) : Kt l yX4_mayBe cX4_mayBe 6 (some .boolean) 0 0 Γ A G G [.ref (ad Γ o), .int v1, .int v2] (some (.int fin)) := by
  have h := kX4_mayBe (l := l) (A := A) (G := G) (r := G o) hk hf
  rw [ug_self] at h
  exact h
noncomputable def bX4_checkLines_26 (r : Rec) (v1 : Int32) : Option Rec :=
  gd (inR v1 120) ((fX4_blame r 3 (ga r 8 (Int32.toNatClampNeg v1))).bind fun z2 => some (z2))
set_option maxRecDepth 100000 in
set_option maxHeartbeats 4000000 in
theorem wX4_checkLines_26 {p : Program} {l : Launch} {e : Env} {s : State} {m : MethodId} {args : Array Value} {below : List Frame} {meth : Method} {c : Code} {Γ : Gm} {A : Nat → Prop} {G : Gs} {o : Nat} {r : Rec} {v1 : Int32} {q : Rec} {fin : Rec} (C : Cx p s m args meth c yX4_checkLines cX4_checkLines 3 none Γ A) (hk : kd Γ o = some 4) (hf : bX4_checkLines_26 r v1 = some q) (hq : (fun x => x = fin) q) : Wk p l e { frames := 1, cells := 0, slots := 0, locals := 25 } s m args below meth c Γ A (ug G o fin) none 26 3 [(0, .ref (ad Γ o)), (1, .int v1)] [] (ug G o r) := by
  intro H locs ls hw hS hl
  unfold bX4_checkLines_26 at hf
  obtain ⟨hx, hb, hml, hr, hown, htw, hlocks, hE⟩ := id C
  have hown : s.vm.findClass RX4 = some m.cls := hown
  refine lv_aload_n hx hb dX4_checkLines_26 rfl (lv_at hl 0 rfl) ?_
  refine lv_iconst (v := 3) hx hb dX4_checkLines_27 (by decide) ?_
  refine lv_aload_n hx hb dX4_checkLines_28 rfl (lv_at hl 0 rfl) ?_
  refine va_get (ci := 4) (v := .ref (aa Γ o 8)) (C := RX4) (T := TX4) (N := 14) hx hb htw uwX4 hown hE.1 (wo_me hw hk) 0 rfl rfl 8 (by decide) (htw _ mw291) (fun _ h9 => h9) rfl dX4_checkLines_29 ?_
  refine lv_iload_n hx hb dX4_checkLines_32 rfl (lv_at hl 1 rfl) ?_
  obtain ⟨g1, hf⟩ := gd_some hf
  refine va_iald hx hb hE.1 (wo_me hw hk) 4 0 rfl rfl (inR_in g1) dX4_checkLines_33 ?_
  obtain ⟨z2, hz2, hf⟩ := bd hf
  refine cl_Vv (rest := []) (kX4_blame (l := l) (Γ := Γ) (A := A) (G := G) (o := o) hk hz2) ⟨hx, hb, hml, hown, htw⟩ hE hw hS (wo_me hw hk) (q0 := 0) rfl rfl mw596 mw598 mw8 mw123 mw599 pdX4_blame ⟨Nat.le_of_ble_eq_true rfl, Nat.le_of_ble_eq_true rfl⟩ rfl rfl hl.1 (Nat.le_of_ble_eq_true rfl) dX4_checkLines_34 (fun H locs hw hS => ?_)
  obtain rfl := Option.some.inj hf
  subst hq
  exact rt_v C hw hS dX4_checkLines_37

noncomputable def bX4_checkLines_85 (r : Rec) (v1 : Int32) : Option ((Int32 × Rec) ⊕ Rec) :=
  some (.inl (v1 + 1, r))
set_option maxRecDepth 100000 in
set_option maxHeartbeats 4000000 in
theorem wX4_checkLines_85 {p : Program} {l : Launch} {e : Env} {s : State} {m : MethodId} {args : Array Value} {below : List Frame} {meth : Method} {c : Code} {Γ : Gm} {A : Nat → Prop} {G : Gs} {o : Nat} {r : Rec} {v1 : Int32} {q : ((Int32 × Rec) ⊕ Rec)} {fin : Rec} (C : Cx p s m args meth c yX4_checkLines cX4_checkLines 3 none Γ A) (hk : kd Γ o = some 4) (hf : bX4_checkLines_85 r v1 = some q) (hq : (KC (fun st : Int32 × Rec => Wk p l e { frames := 1, cells := 0, slots := 0, locals := 25 } s m args below meth c Γ A (ug G o fin) none 10 3 [(0, .ref (ad Γ o)), (1, .int st.1)] [] (ug G o st.2)) (fun x => x = fin)) q) : Wk p l e { frames := 1, cells := 0, slots := 0, locals := 25 } s m args below meth c Γ A (ug G o fin) none 85 3 [(0, .ref (ad Γ o)), (1, .int v1)] [] (ug G o r) := by
  intro H locs ls hw hS hl
  unfold bX4_checkLines_85 at hf
  obtain ⟨hx, hb, hml, hr, hown, htw, hlocks, hE⟩ := id C
  have hown : s.vm.findClass RX4 = some m.cls := hown
  refine lv_iinc (v := v1 + 1) (lv' := [(1, .int (v1 + 1)), (0, .ref (ad Γ o))]) hx hb dX4_checkLines_85 hl (k := 1) rfl (by rfl) (by decide) rfl (fun ls hl => ?_)
  refine lv_goto (tgt := 10) hx hb dX4_checkLines_88 (by decide) ?_
  obtain rfl := Option.some.inj hf
  exact hq.1 _ rfl H locs ls hw hS (lv_sub hl [1, 0] rfl)

noncomputable def bX4_checkLines_63 (r : Rec) (v1 : Int32) (v2 : Int32) : Option Rec :=
  gd (inR ((v1 * 3) + v2) 360) ((fX4_blame r 2 (ga r 10 (Int32.toNatClampNeg ((v1 * 3) + v2)))).bind fun z4 => some (z4))
set_option maxRecDepth 100000 in
set_option maxHeartbeats 4000000 in
theorem wX4_checkLines_63 {p : Program} {l : Launch} {e : Env} {s : State} {m : MethodId} {args : Array Value} {below : List Frame} {meth : Method} {c : Code} {Γ : Gm} {A : Nat → Prop} {G : Gs} {o : Nat} {r : Rec} {v1 : Int32} {v2 : Int32} {q : Rec} {fin : Rec} (C : Cx p s m args meth c yX4_checkLines cX4_checkLines 3 none Γ A) (hk : kd Γ o = some 4) (hf : bX4_checkLines_63 r v1 v2 = some q) (hq : (fun x => x = fin) q) : Wk p l e { frames := 1, cells := 0, slots := 0, locals := 25 } s m args below meth c Γ A (ug G o fin) none 63 3 [(0, .ref (ad Γ o)), (1, .int v1), (2, .int v2)] [] (ug G o r) := by
  intro H locs ls hw hS hl
  unfold bX4_checkLines_63 at hf
  obtain ⟨hx, hb, hml, hr, hown, htw, hlocks, hE⟩ := id C
  have hown : s.vm.findClass RX4 = some m.cls := hown
  refine lv_aload_n hx hb dX4_checkLines_63 rfl (lv_at hl 0 rfl) ?_
  refine lv_iconst (v := 2) hx hb dX4_checkLines_64 (by decide) ?_
  refine lv_aload_n hx hb dX4_checkLines_65 rfl (lv_at hl 0 rfl) ?_
  refine va_get (ci := 4) (v := .ref (aa Γ o 10)) (C := RX4) (T := TX4) (N := 14) hx hb htw uwX4 hown hE.1 (wo_me hw hk) 0 rfl rfl 10 (by decide) (htw _ mw293) (fun _ h9 => h9) rfl dX4_checkLines_66 ?_
  refine lv_iload_n hx hb dX4_checkLines_69 rfl (lv_at hl 1 rfl) ?_
  refine lv_iconst (v := 3) hx hb dX4_checkLines_70 (by decide) ?_
  refine lv_imul hx hb dX4_checkLines_71 ?_
  refine lv_iload_n hx hb dX4_checkLines_72 rfl (lv_at hl 2 rfl) ?_
  refine lv_iadd hx hb dX4_checkLines_73 ?_
  obtain ⟨g3, hf⟩ := gd_some hf
  refine va_iald hx hb hE.1 (wo_me hw hk) 6 0 rfl rfl (inR_in g3) dX4_checkLines_74 ?_
  obtain ⟨z4, hz4, hf⟩ := bd hf
  refine cl_Vv (rest := []) (kX4_blame (l := l) (Γ := Γ) (A := A) (G := G) (o := o) hk hz4) ⟨hx, hb, hml, hown, htw⟩ hE hw hS (wo_me hw hk) (q0 := 0) rfl rfl mw596 mw598 mw8 mw123 mw599 pdX4_blame ⟨Nat.le_of_ble_eq_true rfl, Nat.le_of_ble_eq_true rfl⟩ rfl rfl hl.1 (Nat.le_of_ble_eq_true rfl) dX4_checkLines_75 (fun H locs hw hS => ?_)
  obtain rfl := Option.some.inj hf
  subst hq
  exact rt_v C hw hS dX4_checkLines_78

noncomputable def bX4_checkLines_40 (r : Rec) (v1 : Int32) (v2 : Int32) : Option (Int32 ⊕ ((Int32 × Rec) ⊕ Rec)) :=
  gd (inR v1 120) ((some (ga r 6 (Int32.toNatClampNeg v1))).bind fun x6 => gd (inR x6 (sLn 1)) (if (sDt 1 (Int32.toNatClampNeg x6)) ≤ v2 then out1 (bX4_checkLines_85 r v1) else (fX4_mayBe r v1 v2).bind fun z9 => if z9 = 0 then out1 (out1 (bX4_checkLines_63 r v1 v2)) else some (.inl (v2 + 1))))
set_option maxRecDepth 100000 in
set_option maxHeartbeats 4000000 in
theorem wX4_checkLines_40 {p : Program} {l : Launch} {e : Env} {s : State} {m : MethodId} {args : Array Value} {below : List Frame} {meth : Method} {c : Code} {Γ : Gm} {A : Nat → Prop} {G : Gs} {o : Nat} {r : Rec} {v1 : Int32} {v2 : Int32} {q : (Int32 ⊕ ((Int32 × Rec) ⊕ Rec))} {fin : Rec} (C : Cx p s m args meth c yX4_checkLines cX4_checkLines 3 none Γ A) (hk : kd Γ o = some 4) (hf : bX4_checkLines_40 r v1 v2 = some q) (hq : (KC (fun st : Int32 => Wk p l e { frames := 1, cells := 0, slots := 0, locals := 25 } s m args below meth c Γ A (ug G o fin) none 40 3 [(0, .ref (ad Γ o)), (1, .int v1), (2, .int st)] [] (ug G o r)) (KC (fun st : Int32 × Rec => Wk p l e { frames := 1, cells := 0, slots := 0, locals := 25 } s m args below meth c Γ A (ug G o fin) none 10 3 [(0, .ref (ad Γ o)), (1, .int st.1)] [] (ug G o st.2)) (fun x => x = fin))) q) : Wk p l e { frames := 1, cells := 0, slots := 0, locals := 25 } s m args below meth c Γ A (ug G o fin) none 40 3 [(0, .ref (ad Γ o)), (1, .int v1), (2, .int v2)] [] (ug G o r) := by
  intro H locs ls hw hS hl
  unfold bX4_checkLines_40 at hf
  obtain ⟨hx, hb, hml, hr, hown, htw, hlocks, hE⟩ := id C
  have hown : s.vm.findClass RX4 = some m.cls := hown
  refine lv_iload_n hx hb dX4_checkLines_40 rfl (lv_at hl 2 rfl) ?_
  refine va_getsN (C := "TarnishTurns") hx hb (hE.2.2.2.2.1 1 (by decide)).1 hS hown (va_Nw.use rfl (hE.2.2.2.2.2.2.2.2.1 1 (by decide))) (fun _ h9 => h9) dX4_checkLines_41 ?_
  refine lv_aload_n hx hb dX4_checkLines_44 rfl (lv_at hl 0 rfl) ?_
  refine va_get (ci := 4) (v := .ref (aa Γ o 6)) (C := RX4) (T := TX4) (N := 14) hx hb htw uwX4 hown hE.1 (wo_me hw hk) 0 rfl rfl 6 (by decide) (htw _ mw289) (fun _ h9 => h9) rfl dX4_checkLines_45 ?_
  refine lv_iload_n hx hb dX4_checkLines_48 rfl (lv_at hl 1 rfl) ?_
  obtain ⟨g5, hf⟩ := gd_some hf
  refine va_iald hx hb hE.1 (wo_me hw hk) 2 0 rfl rfl (inR_in g5) dX4_checkLines_49 ?_
  obtain ⟨x6, hx6, hf⟩ := bd hf
  have hx6 := Option.some.inj hx6
  refine tp1i hx6 ?_
  obtain ⟨g7, hf⟩ := gd_some hf
  refine va_ti (v := .int (sDt 1 (Int32.toNatClampNeg x6))) hx hb (hE.2.2.2.2.1 1 (by decide)).2 hS (inR_in g7) rfl dX4_checkLines_50 ?_
  refine lv_icmp_ge (tgt := 85) hx hb dX4_checkLines_51 (by decide) (fun c13 => ?_) (fun c13 => ?_)
  · have hf := ifp c13 hf
    obtain ⟨q8, hfq8, eq8⟩ := out1_some hf
    subst eq8
    have hf := hfq8
    have hq := hq.2 _ rfl
    exact wX4_checkLines_85 C hk hf hq H locs ls hw hS (lv_sub hl [0, 1] rfl)
  · have hf := ifn c13 hf
    refine lv_aload_n hx hb dX4_checkLines_54 rfl (lv_at hl 0 rfl) ?_
    refine lv_iload_n hx hb dX4_checkLines_55 rfl (lv_at hl 1 rfl) ?_
    refine lv_iload_n hx hb dX4_checkLines_56 rfl (lv_at hl 2 rfl) ?_
    obtain ⟨z9, hz9, hf⟩ := bd hf
    refine cl_Vs (rest := []) (kX4_mayBe (l := l) (Γ := Γ) (A := A) (G := G) (o := o) hk hz9) ⟨hx, hb, hml, hown, htw⟩ hE hw hS (wo_me hw hk) (q0 := 0) rfl rfl mw613 mw615 mw11 mw123 mw616 pdX4_mayBe ⟨Nat.le_of_ble_eq_true rfl, Nat.le_of_ble_eq_true rfl⟩ rfl rfl hl.1 (Nat.le_of_ble_eq_true rfl) dX4_checkLines_57 (fun H locs hw hS => ?_)
    refine lv_if_ne (tgt := 79) hx hb dX4_checkLines_60 (by decide) (fun c12 => ?_) (fun c12 => ?_)
    · have hf := ifn c12 hf
      refine lv_iinc (v := v2 + 1) (lv' := [(2, .int (v2 + 1)), (0, .ref (ad Γ o)), (1, .int v1)]) hx hb dX4_checkLines_79 hl (k := 2) rfl (by rfl) (by decide) rfl (fun ls hl => ?_)
      refine lv_goto (tgt := 40) hx hb dX4_checkLines_82 (by decide) ?_
      obtain rfl := Option.some.inj hf
      exact hq.1 _ rfl H locs ls hw hS (lv_sub hl [1, 2, 0] rfl)
    · have hf := ifp c12 hf
      obtain ⟨q10, hfq10, eq10⟩ := out1_some hf
      subst eq10
      have hf := hfq10
      have hq := hq.2 _ rfl
      obtain ⟨q11, hfq11, eq11⟩ := out1_some hf
      subst eq11
      have hf := hfq11
      have hq := hq.2 _ rfl
      exact wX4_checkLines_63 C hk hf hq H locs ls hw hS hl

set_option maxRecDepth 100000 in
set_option maxHeartbeats 4000000 in
theorem lwX4_checkLines_40 {p : Program} {l : Launch} {e : Env} {s : State} {m : MethodId} {args : Array Value} {below : List Frame} {meth : Method} {c : Code} {Γ : Gm} {A : Nat → Prop} {G : Gs} {o : Nat} {r : Rec} {v1 : Int32} {v2 : Int32} {q : ((Int32 × Rec) ⊕ Rec)} {fin : Rec} (C : Cx p s m args meth c yX4_checkLines cX4_checkLines 3 none Γ A) (hk : kd Γ o = some 4) (hf : iter (fun st : Int32 => bX4_checkLines_40 r v1 st) v2 = some q) (hq : (KC (fun st : Int32 × Rec => Wk p l e { frames := 1, cells := 0, slots := 0, locals := 25 } s m args below meth c Γ A (ug G o fin) none 10 3 [(0, .ref (ad Γ o)), (1, .int st.1)] [] (ug G o st.2)) (fun x => x = fin)) q) : Wk p l e { frames := 1, cells := 0, slots := 0, locals := 25 } s m args below meth c Γ A (ug G o fin) none 40 3 [(0, .ref (ad Γ o)), (1, .int v1), (2, .int v2)] [] (ug G o r) := by
  intro H locs ls hw hS hl
  refine iter_walk (P := (fun st : Int32 => Wk p l e { frames := 1, cells := 0, slots := 0, locals := 25 } s m args below meth c Γ A (ug G o fin) none 40 3 [(0, .ref (ad Γ o)), (1, .int v1), (2, .int st)] [] (ug G o r))) (K := (KC (fun st : Int32 × Rec => Wk p l e { frames := 1, cells := 0, slots := 0, locals := 25 } s m args below meth c Γ A (ug G o fin) none 10 3 [(0, .ref (ad Γ o)), (1, .int st.1)] [] (ug G o st.2)) (fun x => x = fin))) (fun st q hq1 h1 h2 => ?_) hf hq H locs ls hw hS hl
  exact wX4_checkLines_40 (v2 := st) C hk hq1 ⟨h1, h2⟩

noncomputable def bX4_checkLines_10 (r : Rec) (v1 : Int32) : Option ((Int32 × Rec) ⊕ Rec) :=
  if (gi r 5) ≤ v1 then some (.inr (r)) else (fX4_isTooMany r v1).bind fun z14 => if z14.2 = 0 then iter (fun st : Int32 => bX4_checkLines_40 z14.1 v1 st) 0 else out1 (bX4_checkLines_26 z14.1 v1)
set_option maxRecDepth 100000 in
set_option maxHeartbeats 4000000 in
theorem wX4_checkLines_10 {p : Program} {l : Launch} {e : Env} {s : State} {m : MethodId} {args : Array Value} {below : List Frame} {meth : Method} {c : Code} {Γ : Gm} {A : Nat → Prop} {G : Gs} {o : Nat} {r : Rec} {v1 : Int32} {q : ((Int32 × Rec) ⊕ Rec)} {fin : Rec} (C : Cx p s m args meth c yX4_checkLines cX4_checkLines 3 none Γ A) (hk : kd Γ o = some 4) (hf : bX4_checkLines_10 r v1 = some q) (hq : (KC (fun st : Int32 × Rec => Wk p l e { frames := 1, cells := 0, slots := 0, locals := 25 } s m args below meth c Γ A (ug G o fin) none 10 3 [(0, .ref (ad Γ o)), (1, .int st.1)] [] (ug G o st.2)) (fun x => x = fin)) q) : Wk p l e { frames := 1, cells := 0, slots := 0, locals := 25 } s m args below meth c Γ A (ug G o fin) none 10 3 [(0, .ref (ad Γ o)), (1, .int v1)] [] (ug G o r) := by
  intro H locs ls hw hS hl
  unfold bX4_checkLines_10 at hf
  obtain ⟨hx, hb, hml, hr, hown, htw, hlocks, hE⟩ := id C
  have hown : s.vm.findClass RX4 = some m.cls := hown
  refine lv_iload_n hx hb dX4_checkLines_10 rfl (lv_at hl 1 rfl) ?_
  refine lv_aload_n hx hb dX4_checkLines_11 rfl (lv_at hl 0 rfl) ?_
  refine va_get (ci := 4) (v := .int (gi r 5)) (C := RX4) (T := TX4) (N := 14) hx hb htw uwX4 hown hE.1 (wo_me hw hk) 0 rfl rfl 5 (by decide) (htw _ mw288) (fun _ h9 => h9) rfl dX4_checkLines_12 ?_
  refine lv_icmp_ge (tgt := 91) hx hb dX4_checkLines_15 (by decide) (fun c17 => ?_) (fun c17 => ?_)
  · have hf := ifp c17 hf
    obtain rfl := Option.some.inj hf
    have hq := hq.2 _ rfl
    subst hq
    exact rt_v C hw hS dX4_checkLines_91
  · have hf := ifn c17 hf
    refine lv_aload_n hx hb dX4_checkLines_18 rfl (lv_at hl 0 rfl) ?_
    refine lv_iload_n hx hb dX4_checkLines_19 rfl (lv_at hl 1 rfl) ?_
    obtain ⟨z14, hz14, hf⟩ := bd hf
    refine cl_Vs (rest := []) (kX4_isTooMany (l := l) (Γ := Γ) (A := A) (G := G) (o := o) hk hz14) ⟨hx, hb, hml, hown, htw⟩ hE hw hS (wo_me hw hk) (q0 := 0) rfl rfl mw607 mw609 mw10 mw123 mw610 pdX4_isTooMany ⟨Nat.le_of_ble_eq_true rfl, Nat.le_of_ble_eq_true rfl⟩ rfl rfl hl.1 (Nat.le_of_ble_eq_true rfl) dX4_checkLines_20 (fun H locs hw hS => ?_)
    refine lv_if_eq (tgt := 38) hx hb dX4_checkLines_23 (by decide) (fun c16 => ?_) (fun c16 => ?_)
    · have hf := ifp c16 hf
      refine lv_iconst (v := 0) hx hb dX4_checkLines_38 (by decide) ?_
      refine lv_istore_n (lv' := [(2, .int 0), (0, .ref (ad Γ o)), (1, .int v1)]) hx hb dX4_checkLines_39 rfl hl (by decide) rfl (fun ls hl => ?_)
      exact lwX4_checkLines_40 C hk hf hq H locs ls hw hS (lv_sub hl [1, 2, 0] rfl)
    · have hf := ifn c16 hf
      obtain ⟨q15, hfq15, eq15⟩ := out1_some hf
      subst eq15
      have hf := hfq15
      have hq := hq.2 _ rfl
      exact wX4_checkLines_26 C hk hf hq H locs ls hw hS hl

set_option maxRecDepth 100000 in
set_option maxHeartbeats 4000000 in
theorem lwX4_checkLines_10 {p : Program} {l : Launch} {e : Env} {s : State} {m : MethodId} {args : Array Value} {below : List Frame} {meth : Method} {c : Code} {Γ : Gm} {A : Nat → Prop} {G : Gs} {o : Nat} {r : Rec} {v1 : Int32} {q : Rec} {fin : Rec} (C : Cx p s m args meth c yX4_checkLines cX4_checkLines 3 none Γ A) (hk : kd Γ o = some 4) (hf : iter (fun st : Int32 × Rec => bX4_checkLines_10 st.2 st.1) (v1, r) = some q) (hq : (fun x => x = fin) q) : Wk p l e { frames := 1, cells := 0, slots := 0, locals := 25 } s m args below meth c Γ A (ug G o fin) none 10 3 [(0, .ref (ad Γ o)), (1, .int v1)] [] (ug G o r) := by
  intro H locs ls hw hS hl
  refine iter_walk (P := (fun st : Int32 × Rec => Wk p l e { frames := 1, cells := 0, slots := 0, locals := 25 } s m args below meth c Γ A (ug G o fin) none 10 3 [(0, .ref (ad Γ o)), (1, .int st.1)] [] (ug G o st.2))) (K := (fun x => x = fin)) (fun st q hq1 h1 h2 => ?_) hf hq H locs ls hw hS hl
  exact wX4_checkLines_10 (r := st.2) (v1 := st.1) C hk hq1 ⟨h1, h2⟩

noncomputable def fX4_checkLines (r : Rec) : Option Rec :=
  (some (sa r 11 (fl 4 0 (ga r 11)))).bind fun r18 => iter (fun st : Int32 × Rec => bX4_checkLines_10 st.2 st.1) (0, r18)
set_option maxRecDepth 100000 in
set_option maxHeartbeats 4000000 in
theorem wX4_checkLines_e {p : Program} {l : Launch} {e : Env} {s : State} {m : MethodId} {args : Array Value} {below : List Frame} {meth : Method} {c : Code} {Γ : Gm} {A : Nat → Prop} {G : Gs} {o : Nat} {r : Rec} {q : Rec} {fin : Rec} (C : Cx p s m args meth c yX4_checkLines cX4_checkLines 3 none Γ A) (hk : kd Γ o = some 4) (hf : fX4_checkLines r = some q) (hq : (fun x => x = fin) q) : Wk p l e { frames := 1, cells := 0, slots := 0, locals := 25 } s m args below meth c Γ A (ug G o fin) none 0 3 [(0, .ref (ad Γ o))] [] (ug G o r) := by
  intro H locs ls hw hS hl
  unfold fX4_checkLines at hf
  obtain ⟨hx, hb, hml, hr, hown, htw, hlocks, hE⟩ := id C
  have hown : s.vm.findClass RX4 = some m.cls := hown
  refine lv_aload_n hx hb dX4_checkLines_0 rfl (lv_at hl 0 rfl) ?_
  refine va_get (ci := 4) (v := .ref (aa Γ o 11)) (C := RX4) (T := TX4) (N := 14) hx hb htw uwX4 hown hE.1 (wo_me hw hk) 0 rfl rfl 11 (by decide) (htw _ mw294) (fun _ h9 => h9) rfl dX4_checkLines_1 ?_
  refine lv_iconst (v := 0) hx hb dX4_checkLines_4 (by decide) ?_
  obtain ⟨r18, hr18, hf⟩ := bd hf
  have hr18 := Option.some.inj hr18
  refine cl_Sv (rest := []) (kfill (l := l) (A := A) (G := G) (r := r) (v := 0) (k := 11) (q0 := 7) hk (Nat.lt_of_lt_of_le (Nat.lt_succ_self 4) (Nat.le_of_ble_eq_true rfl)) (fun _ => rfl) (fun _ _ => sa4_11 rfl)) ⟨hx, hb, hml, hown, htw⟩ hE hw hS mw604 mw605 mw135 mw606 pdJ7_fill_53178 ⟨Nat.le_of_ble_eq_true rfl, Nat.le_of_ble_eq_true rfl⟩ rfl rfl hl.1 (Nat.le_of_ble_eq_true rfl) dX4_checkLines_5 (fun H locs hw hS => ?_)
  rw [hr18] at hw
  refine lv_iconst (v := 0) hx hb dX4_checkLines_8 (by decide) ?_
  refine lv_istore_n (lv' := [(1, .int 0), (0, .ref (ad Γ o))]) hx hb dX4_checkLines_9 rfl hl (by decide) rfl (fun ls hl => ?_)
  exact lwX4_checkLines_10 C hk hf hq H locs ls hw hS (lv_sub hl [1, 0] rfl)

theorem kX4_checkLines {l : Launch} {Γ : Gm} {A : Nat → Prop} {G : Gs} {o : Nat} {r : Rec} {fin : Rec} (hk : kd Γ o = some 4) (hf : fX4_checkLines r = some fin) : Kt l yX4_checkLines cX4_checkLines 3 none 1 25 Γ A (ug G o r) (ug G o fin) [.ref (ad Γ o)] none :=
  kt_of (by decide) (Nat.le_of_ble_eq_true rfl) (fun p e s m args below meth c C => wX4_checkLines_e C hk hf rfl)
theorem kgX4_checkLines {l : Launch} {Γ : Gm} {A : Nat → Prop} {G : Gs} {o : Nat} {fin : Rec} (hk : kd Γ o = some 4) (hf : fX4_checkLines (G o) = some fin) : Kt l yX4_checkLines cX4_checkLines 3 none 1 25 Γ A G (ug G o fin) [.ref (ad Γ o)] none := by
  have h := kX4_checkLines (l := l) (A := A) (G := G) (r := G o) hk hf
  rw [ug_self] at h
  exact h
noncomputable def bX4_checkAllThere_124 (r : Rec) : Option Rec :=
  (fX4_blame r 4 (gi r 1)).bind fun z1 => some (z1)
set_option maxRecDepth 100000 in
set_option maxHeartbeats 4000000 in
theorem wX4_checkAllThere_124 {p : Program} {l : Launch} {e : Env} {s : State} {m : MethodId} {args : Array Value} {below : List Frame} {meth : Method} {c : Code} {Γ : Gm} {A : Nat → Prop} {G : Gs} {o : Nat} {r : Rec} {q : Rec} {fin : Rec} (C : Cx p s m args meth c yX4_checkAllThere cX4_checkAllThere 4 none Γ A) (hk : kd Γ o = some 4) (hf : bX4_checkAllThere_124 r = some q) (hq : (fun x => x = fin) q) : Wk p l e { frames := 1, cells := 0, slots := 0, locals := 22 } s m args below meth c Γ A (ug G o fin) none 124 4 [(0, .ref (ad Γ o))] [] (ug G o r) := by
  intro H locs ls hw hS hl
  unfold bX4_checkAllThere_124 at hf
  obtain ⟨hx, hb, hml, hr, hown, htw, hlocks, hE⟩ := id C
  have hown : s.vm.findClass RX4 = some m.cls := hown
  refine lv_aload_n hx hb dX4_checkAllThere_124 rfl (lv_at hl 0 rfl) ?_
  refine lv_iconst (v := 4) hx hb dX4_checkAllThere_125 (by decide) ?_
  refine lv_aload_n hx hb dX4_checkAllThere_126 rfl (lv_at hl 0 rfl) ?_
  refine va_get (ci := 4) (v := .int (gi r 1)) (C := RX4) (T := TX4) (N := 14) hx hb htw uwX4 hown hE.1 (wo_me hw hk) 0 rfl rfl 1 (by decide) (htw _ mw284) (fun _ h9 => h9) rfl dX4_checkAllThere_127 ?_
  obtain ⟨z1, hz1, hf⟩ := bd hf
  refine cl_Vv (rest := []) (kX4_blame (l := l) (Γ := Γ) (A := A) (G := G) (o := o) hk hz1) ⟨hx, hb, hml, hown, htw⟩ hE hw hS (wo_me hw hk) (q0 := 0) rfl rfl mw596 mw598 mw8 mw123 mw599 pdX4_blame ⟨Nat.le_of_ble_eq_true rfl, Nat.le_of_ble_eq_true rfl⟩ rfl rfl hl.1 (Nat.le_of_ble_eq_true rfl) dX4_checkAllThere_130 (fun H locs hw hS => ?_)
  obtain rfl := Option.some.inj hf
  subst hq
  exact rt_v C hw hS dX4_checkAllThere_133

noncomputable def bX4_checkAllThere_120 (r : Rec) (v1 : Int32) (v3 : Int32) : Option (Int32 ⊕ Rec) :=
  if v3 = 0 then out1 (bX4_checkAllThere_124 r) else some (.inl (v1 + 1))
set_option maxRecDepth 100000 in
set_option maxHeartbeats 4000000 in
theorem wX4_checkAllThere_120 {p : Program} {l : Launch} {e : Env} {s : State} {m : MethodId} {args : Array Value} {below : List Frame} {meth : Method} {c : Code} {Γ : Gm} {A : Nat → Prop} {G : Gs} {o : Nat} {r : Rec} {v1 : Int32} {v3 : Int32} {q : (Int32 ⊕ Rec)} {fin : Rec} (C : Cx p s m args meth c yX4_checkAllThere cX4_checkAllThere 4 none Γ A) (hk : kd Γ o = some 4) (hf : bX4_checkAllThere_120 r v1 v3 = some q) (hq : (KC (fun st : Int32 => Wk p l e { frames := 1, cells := 0, slots := 0, locals := 22 } s m args below meth c Γ A (ug G o fin) none 2 4 [(0, .ref (ad Γ o)), (1, .int st)] [] (ug G o r)) (fun x => x = fin)) q) : Wk p l e { frames := 1, cells := 0, slots := 0, locals := 22 } s m args below meth c Γ A (ug G o fin) none 120 4 [(0, .ref (ad Γ o)), (1, .int v1), (3, .int v3)] [] (ug G o r) := by
  intro H locs ls hw hS hl
  unfold bX4_checkAllThere_120 at hf
  obtain ⟨hx, hb, hml, hr, hown, htw, hlocks, hE⟩ := id C
  have hown : s.vm.findClass RX4 = some m.cls := hown
  refine lv_iload_n hx hb dX4_checkAllThere_120 rfl (lv_at hl 2 rfl) ?_
  refine lv_if_ne (tgt := 134) hx hb dX4_checkAllThere_121 (by decide) (fun c3 => ?_) (fun c3 => ?_)
  · have hf := ifn c3 hf
    refine lv_iinc (v := v1 + 1) (lv' := [(1, .int (v1 + 1)), (0, .ref (ad Γ o)), (3, .int v3)]) hx hb dX4_checkAllThere_134 hl (k := 1) rfl (by rfl) (by decide) rfl (fun ls hl => ?_)
    refine lv_goto (tgt := 2) hx hb dX4_checkAllThere_137 (by decide) ?_
    obtain rfl := Option.some.inj hf
    exact hq.1 _ rfl H locs ls hw hS (lv_sub hl [1, 0] rfl)
  · have hf := ifp c3 hf
    obtain ⟨q2, hfq2, eq2⟩ := out1_some hf
    subst eq2
    have hf := hfq2
    have hq := hq.2 _ rfl
    exact wX4_checkAllThere_124 C hk hf hq H locs ls hw hS (lv_sub hl [0] rfl)

noncomputable def bX4_checkAllThere_63 (r : Rec) (v1 : Int32) (s0 : Int32) : Option (Int32 ⊕ Rec) :=
  bX4_checkAllThere_120 r v1 s0
set_option maxRecDepth 100000 in
set_option maxHeartbeats 4000000 in
theorem wX4_checkAllThere_63 {p : Program} {l : Launch} {e : Env} {s : State} {m : MethodId} {args : Array Value} {below : List Frame} {meth : Method} {c : Code} {Γ : Gm} {A : Nat → Prop} {G : Gs} {o : Nat} {r : Rec} {v1 : Int32} {s0 : Int32} {q : (Int32 ⊕ Rec)} {fin : Rec} (C : Cx p s m args meth c yX4_checkAllThere cX4_checkAllThere 4 none Γ A) (hk : kd Γ o = some 4) (hf : bX4_checkAllThere_63 r v1 s0 = some q) (hq : (KC (fun st : Int32 => Wk p l e { frames := 1, cells := 0, slots := 0, locals := 22 } s m args below meth c Γ A (ug G o fin) none 2 4 [(0, .ref (ad Γ o)), (1, .int st)] [] (ug G o r)) (fun x => x = fin)) q) : Wk p l e { frames := 1, cells := 0, slots := 0, locals := 22 } s m args below meth c Γ A (ug G o fin) none 63 4 [(0, .ref (ad Γ o)), (1, .int v1)] [.int s0] (ug G o r) := by
  intro H locs ls hw hS hl
  unfold bX4_checkAllThere_63 at hf
  obtain ⟨hx, hb, hml, hr, hown, htw, hlocks, hE⟩ := id C
  have hown : s.vm.findClass RX4 = some m.cls := hown
  refine lv_istore_n (lv' := [(3, .int s0), (0, .ref (ad Γ o)), (1, .int v1)]) hx hb dX4_checkAllThere_63 rfl hl (by decide) rfl (fun ls hl => ?_)
  refine lv_goto (tgt := 120) hx hb dX4_checkAllThere_64 (by decide) ?_
  exact wX4_checkAllThere_120 C hk hf hq H locs ls hw hS (lv_sub hl [1, 2, 0] rfl)

noncomputable def bX4_checkAllThere_62 (r : Rec) (v1 : Int32) : Option (Int32 ⊕ Rec) :=
  bX4_checkAllThere_63 r v1 0
set_option maxRecDepth 100000 in
set_option maxHeartbeats 4000000 in
theorem wX4_checkAllThere_62 {p : Program} {l : Launch} {e : Env} {s : State} {m : MethodId} {args : Array Value} {below : List Frame} {meth : Method} {c : Code} {Γ : Gm} {A : Nat → Prop} {G : Gs} {o : Nat} {r : Rec} {v1 : Int32} {q : (Int32 ⊕ Rec)} {fin : Rec} (C : Cx p s m args meth c yX4_checkAllThere cX4_checkAllThere 4 none Γ A) (hk : kd Γ o = some 4) (hf : bX4_checkAllThere_62 r v1 = some q) (hq : (KC (fun st : Int32 => Wk p l e { frames := 1, cells := 0, slots := 0, locals := 22 } s m args below meth c Γ A (ug G o fin) none 2 4 [(0, .ref (ad Γ o)), (1, .int st)] [] (ug G o r)) (fun x => x = fin)) q) : Wk p l e { frames := 1, cells := 0, slots := 0, locals := 22 } s m args below meth c Γ A (ug G o fin) none 62 4 [(0, .ref (ad Γ o)), (1, .int v1)] [] (ug G o r) := by
  intro H locs ls hw hS hl
  unfold bX4_checkAllThere_62 at hf
  obtain ⟨hx, hb, hml, hr, hown, htw, hlocks, hE⟩ := id C
  have hown : s.vm.findClass RX4 = some m.cls := hown
  refine lv_iconst (v := 0) hx hb dX4_checkAllThere_62 (by decide) ?_
  exact wX4_checkAllThere_63 C hk hf hq H locs ls hw hS hl

noncomputable def bX4_checkAllThere_119 (r : Rec) (v1 : Int32) (s0 : Int32) : Option (Int32 ⊕ Rec) :=
  bX4_checkAllThere_120 r v1 s0
set_option maxRecDepth 100000 in
set_option maxHeartbeats 4000000 in
theorem wX4_checkAllThere_119 {p : Program} {l : Launch} {e : Env} {s : State} {m : MethodId} {args : Array Value} {below : List Frame} {meth : Method} {c : Code} {Γ : Gm} {A : Nat → Prop} {G : Gs} {o : Nat} {r : Rec} {v1 : Int32} {s0 : Int32} {q : (Int32 ⊕ Rec)} {fin : Rec} (C : Cx p s m args meth c yX4_checkAllThere cX4_checkAllThere 4 none Γ A) (hk : kd Γ o = some 4) (hf : bX4_checkAllThere_119 r v1 s0 = some q) (hq : (KC (fun st : Int32 => Wk p l e { frames := 1, cells := 0, slots := 0, locals := 22 } s m args below meth c Γ A (ug G o fin) none 2 4 [(0, .ref (ad Γ o)), (1, .int st)] [] (ug G o r)) (fun x => x = fin)) q) : Wk p l e { frames := 1, cells := 0, slots := 0, locals := 22 } s m args below meth c Γ A (ug G o fin) none 119 4 [(0, .ref (ad Γ o)), (1, .int v1)] [.int s0] (ug G o r) := by
  intro H locs ls hw hS hl
  unfold bX4_checkAllThere_119 at hf
  obtain ⟨hx, hb, hml, hr, hown, htw, hlocks, hE⟩ := id C
  have hown : s.vm.findClass RX4 = some m.cls := hown
  refine lv_istore_n (lv' := [(3, .int s0), (0, .ref (ad Γ o)), (1, .int v1)]) hx hb dX4_checkAllThere_119 rfl hl (by decide) rfl (fun ls hl => ?_)
  exact wX4_checkAllThere_120 C hk hf hq H locs ls hw hS (lv_sub hl [1, 2, 0] rfl)

noncomputable def bX4_checkAllThere_2 (r : Rec) (v1 : Int32) : Option (Int32 ⊕ Rec) :=
  if (gi r 5) ≤ v1 then some (.inr (r)) else gd (inR v1 120) (if (ga r 6 (Int32.toNatClampNeg v1)) = 2 then gd (inR (v1 * 3) 360) (if (ga r 11 (Int32.toNatClampNeg 0)) ≤ (ga r 9 (Int32.toNatClampNeg (v1 * 3))) then bX4_checkAllThere_62 r v1 else gd (inR ((v1 * 3) + 1) 360) (if (ga r 11 (Int32.toNatClampNeg 1)) ≤ (ga r 9 (Int32.toNatClampNeg ((v1 * 3) + 1))) then bX4_checkAllThere_62 r v1 else bX4_checkAllThere_63 r v1 1)) else gd (inR v1 120) (if (ga r 6 (Int32.toNatClampNeg v1)) = 3 then gd (inR (v1 * 3) 360) (gd (inR ((v1 * 3) + 1) 360) (gd (inR ((v1 * 3) + 2) 360) ((some (ga r 9 (Int32.toNatClampNeg ((v1 * 3) + 1)))).bind fun x9 => (some (ga r 9 (Int32.toNatClampNeg ((v1 * 3) + 2)))).bind fun x10 => (some (mxi x9 x10)).bind fun x11 => (some (ga r 9 (Int32.toNatClampNeg (v1 * 3)))).bind fun x12 => (some (mxi x12 x11)).bind fun x13 => if (ga r 11 (Int32.toNatClampNeg 1)) ≤ x13 then bX4_checkAllThere_119 r v1 0 else bX4_checkAllThere_119 r v1 1))) else bX4_checkAllThere_120 r v1 1))
set_option maxRecDepth 100000 in
set_option maxHeartbeats 4000000 in
theorem wX4_checkAllThere_2 {p : Program} {l : Launch} {e : Env} {s : State} {m : MethodId} {args : Array Value} {below : List Frame} {meth : Method} {c : Code} {Γ : Gm} {A : Nat → Prop} {G : Gs} {o : Nat} {r : Rec} {v1 : Int32} {q : (Int32 ⊕ Rec)} {fin : Rec} (C : Cx p s m args meth c yX4_checkAllThere cX4_checkAllThere 4 none Γ A) (hk : kd Γ o = some 4) (hf : bX4_checkAllThere_2 r v1 = some q) (hq : (KC (fun st : Int32 => Wk p l e { frames := 1, cells := 0, slots := 0, locals := 22 } s m args below meth c Γ A (ug G o fin) none 2 4 [(0, .ref (ad Γ o)), (1, .int st)] [] (ug G o r)) (fun x => x = fin)) q) : Wk p l e { frames := 1, cells := 0, slots := 0, locals := 22 } s m args below meth c Γ A (ug G o fin) none 2 4 [(0, .ref (ad Γ o)), (1, .int v1)] [] (ug G o r) := by
  intro H locs ls hw hS hl
  unfold bX4_checkAllThere_2 at hf
  obtain ⟨hx, hb, hml, hr, hown, htw, hlocks, hE⟩ := id C
  have hown : s.vm.findClass RX4 = some m.cls := hown
  refine lv_iload_n hx hb dX4_checkAllThere_2 rfl (lv_at hl 1 rfl) ?_
  refine lv_aload_n hx hb dX4_checkAllThere_3 rfl (lv_at hl 0 rfl) ?_
  refine va_get (ci := 4) (v := .int (gi r 5)) (C := RX4) (T := TX4) (N := 14) hx hb htw uwX4 hown hE.1 (wo_me hw hk) 0 rfl rfl 5 (by decide) (htw _ mw288) (fun _ h9 => h9) rfl dX4_checkAllThere_4 ?_
  refine lv_icmp_ge (tgt := 140) hx hb dX4_checkAllThere_7 (by decide) (fun c21 => ?_) (fun c21 => ?_)
  · have hf := ifp c21 hf
    obtain rfl := Option.some.inj hf
    have hq := hq.2 _ rfl
    subst hq
    exact rt_v C hw hS dX4_checkAllThere_140
  · have hf := ifn c21 hf
    refine lv_iload_n hx hb dX4_checkAllThere_10 rfl (lv_at hl 1 rfl) ?_
    refine lv_iconst (v := 3) hx hb dX4_checkAllThere_11 (by decide) ?_
    refine lv_imul hx hb dX4_checkAllThere_12 ?_
    refine lv_istore_n (lv' := [(2, .int (v1 * 3)), (0, .ref (ad Γ o)), (1, .int v1)]) hx hb dX4_checkAllThere_13 rfl hl (by decide) rfl (fun ls hl => ?_)
    refine lv_iconst (v := 1) hx hb dX4_checkAllThere_14 (by decide) ?_
    refine lv_istore_n (lv' := [(3, .int 1), (2, .int (v1 * 3)), (0, .ref (ad Γ o)), (1, .int v1)]) hx hb dX4_checkAllThere_15 rfl hl (by decide) rfl (fun ls hl => ?_)
    refine lv_aload_n hx hb dX4_checkAllThere_16 rfl (lv_at hl 2 rfl) ?_
    refine va_get (ci := 4) (v := .ref (aa Γ o 6)) (C := RX4) (T := TX4) (N := 14) hx hb htw uwX4 hown hE.1 (wo_me hw hk) 0 rfl rfl 6 (by decide) (htw _ mw289) (fun _ h9 => h9) rfl dX4_checkAllThere_17 ?_
    refine lv_iload_n hx hb dX4_checkAllThere_20 rfl (lv_at hl 3 rfl) ?_
    obtain ⟨g4, hf⟩ := gd_some hf
    refine va_iald hx hb hE.1 (wo_me hw hk) 2 0 rfl rfl (inR_in g4) dX4_checkAllThere_21 ?_
    refine lv_iconst (v := 2) hx hb dX4_checkAllThere_22 (by decide) ?_
    refine lv_icmp_ne (tgt := 67) hx hb dX4_checkAllThere_23 (by decide) (fun c20 => ?_) (fun c20 => ?_)
    · have hf := ifn c20 hf
      refine lv_aload_n hx hb dX4_checkAllThere_67 rfl (lv_at hl 2 rfl) ?_
      refine va_get (ci := 4) (v := .ref (aa Γ o 6)) (C := RX4) (T := TX4) (N := 14) hx hb htw uwX4 hown hE.1 (wo_me hw hk) 0 rfl rfl 6 (by decide) (htw _ mw289) (fun _ h9 => h9) rfl dX4_checkAllThere_68 ?_
      refine lv_iload_n hx hb dX4_checkAllThere_71 rfl (lv_at hl 3 rfl) ?_
      obtain ⟨g5, hf⟩ := gd_some hf
      refine va_iald hx hb hE.1 (wo_me hw hk) 2 0 rfl rfl (inR_in g5) dX4_checkAllThere_72 ?_
      refine lv_iconst (v := 3) hx hb dX4_checkAllThere_73 (by decide) ?_
      refine lv_icmp_ne (tgt := 120) hx hb dX4_checkAllThere_74 (by decide) (fun c15 => ?_) (fun c15 => ?_)
      · have hf := ifn c15 hf
        exact wX4_checkAllThere_120 C hk hf hq H locs ls hw hS (lv_sub hl [2, 3, 0] rfl)
      · have hf := ifp c15 hf
        refine lv_aload_n hx hb dX4_checkAllThere_77 rfl (lv_at hl 2 rfl) ?_
        refine va_get (ci := 4) (v := .ref (aa Γ o 9)) (C := RX4) (T := TX4) (N := 14) hx hb htw uwX4 hown hE.1 (wo_me hw hk) 0 rfl rfl 9 (by decide) (htw _ mw292) (fun _ h9 => h9) rfl dX4_checkAllThere_78 ?_
        refine lv_iload_n hx hb dX4_checkAllThere_81 rfl (lv_at hl 1 rfl) ?_
        obtain ⟨g6, hf⟩ := gd_some hf
        refine va_iald hx hb hE.1 (wo_me hw hk) 5 0 rfl rfl (inR_in g6) dX4_checkAllThere_82 ?_
        refine lv_aload_n hx hb dX4_checkAllThere_83 rfl (lv_at hl 2 rfl) ?_
        refine va_get (ci := 4) (v := .ref (aa Γ o 9)) (C := RX4) (T := TX4) (N := 14) hx hb htw uwX4 hown hE.1 (wo_me hw hk) 0 rfl rfl 9 (by decide) (htw _ mw292) (fun _ h9 => h9) rfl dX4_checkAllThere_84 ?_
        refine lv_iload_n hx hb dX4_checkAllThere_87 rfl (lv_at hl 1 rfl) ?_
        refine lv_iconst (v := 1) hx hb dX4_checkAllThere_88 (by decide) ?_
        refine lv_iadd hx hb dX4_checkAllThere_89 ?_
        obtain ⟨g7, hf⟩ := gd_some hf
        refine va_iald hx hb hE.1 (wo_me hw hk) 5 0 rfl rfl (inR_in g7) dX4_checkAllThere_90 ?_
        refine lv_aload_n hx hb dX4_checkAllThere_91 rfl (lv_at hl 2 rfl) ?_
        refine va_get (ci := 4) (v := .ref (aa Γ o 9)) (C := RX4) (T := TX4) (N := 14) hx hb htw uwX4 hown hE.1 (wo_me hw hk) 0 rfl rfl 9 (by decide) (htw _ mw292) (fun _ h9 => h9) rfl dX4_checkAllThere_92 ?_
        refine lv_iload_n hx hb dX4_checkAllThere_95 rfl (lv_at hl 1 rfl) ?_
        refine lv_iconst (v := 2) hx hb dX4_checkAllThere_96 (by decide) ?_
        refine lv_iadd hx hb dX4_checkAllThere_97 ?_
        obtain ⟨g8, hf⟩ := gd_some hf
        refine va_iald hx hb hE.1 (wo_me hw hk) 5 0 rfl rfl (inR_in g8) dX4_checkAllThere_98 ?_
        obtain ⟨x9, hx9, hf⟩ := bd hf
        have hx9 := Option.some.inj hx9
        refine tp2i hx9 ?_
        obtain ⟨x10, hx10, hf⟩ := bd hf
        have hx10 := Option.some.inj hx10
        refine tp1i hx10 ?_
        refine va_mmax hx hb (hml.trans hl.1.symm) hown (htw _ mw479) (htw _ mw225) (htw _ mw122) (htw _ mw226) (Nat.le_of_ble_eq_true rfl) (Nat.le_of_ble_eq_true rfl) (Nat.le_refl _) (Nat.le_refl _) dX4_checkAllThere_99 ?_
        obtain ⟨x11, hx11, hf⟩ := bd hf
        have hx11 := Option.some.inj hx11
        refine tp1i hx11 ?_
        obtain ⟨x12, hx12, hf⟩ := bd hf
        have hx12 := Option.some.inj hx12
        refine tp2i hx12 ?_
        refine va_mmax hx hb (hml.trans hl.1.symm) hown (htw _ mw479) (htw _ mw225) (htw _ mw122) (htw _ mw226) (Nat.le_of_ble_eq_true rfl) (Nat.le_of_ble_eq_true rfl) (Nat.le_refl _) (Nat.le_refl _) dX4_checkAllThere_102 ?_
        obtain ⟨x13, hx13, hf⟩ := bd hf
        have hx13 := Option.some.inj hx13
        refine tp1i hx13 ?_
        refine lv_aload_n hx hb dX4_checkAllThere_105 rfl (lv_at hl 2 rfl) ?_
        refine va_get (ci := 4) (v := .ref (aa Γ o 11)) (C := RX4) (T := TX4) (N := 14) hx hb htw uwX4 hown hE.1 (wo_me hw hk) 0 rfl rfl 11 (by decide) (htw _ mw294) (fun _ h9 => h9) rfl dX4_checkAllThere_106 ?_
        refine lv_iconst (v := 1) hx hb dX4_checkAllThere_109 (by decide) ?_
        refine va_iald hx hb hE.1 (wo_me hw hk) 7 0 rfl rfl (inR_in (i := 1) (n := 4) (by decide)) dX4_checkAllThere_110 ?_
        refine lv_icmp_ge (tgt := 118) hx hb dX4_checkAllThere_111 (by decide) (fun c14 => ?_) (fun c14 => ?_)
        · have hf := ifp c14 hf
          refine lv_iconst (v := 0) hx hb dX4_checkAllThere_118 (by decide) ?_
          exact wX4_checkAllThere_119 C hk hf hq H locs ls hw hS (lv_sub hl [2, 3] rfl)
        · have hf := ifn c14 hf
          refine lv_iconst (v := 1) hx hb dX4_checkAllThere_114 (by decide) ?_
          refine lv_goto (tgt := 119) hx hb dX4_checkAllThere_115 (by decide) ?_
          exact wX4_checkAllThere_119 C hk hf hq H locs ls hw hS (lv_sub hl [2, 3] rfl)
    · have hf := ifp c20 hf
      refine lv_aload_n hx hb dX4_checkAllThere_26 rfl (lv_at hl 2 rfl) ?_
      refine va_get (ci := 4) (v := .ref (aa Γ o 9)) (C := RX4) (T := TX4) (N := 14) hx hb htw uwX4 hown hE.1 (wo_me hw hk) 0 rfl rfl 9 (by decide) (htw _ mw292) (fun _ h9 => h9) rfl dX4_checkAllThere_27 ?_
      refine lv_iload_n hx hb dX4_checkAllThere_30 rfl (lv_at hl 1 rfl) ?_
      obtain ⟨g16, hf⟩ := gd_some hf
      refine va_iald hx hb hE.1 (wo_me hw hk) 5 0 rfl rfl (inR_in g16) dX4_checkAllThere_31 ?_
      refine lv_aload_n hx hb dX4_checkAllThere_32 rfl (lv_at hl 2 rfl) ?_
      refine va_get (ci := 4) (v := .ref (aa Γ o 11)) (C := RX4) (T := TX4) (N := 14) hx hb htw uwX4 hown hE.1 (wo_me hw hk) 0 rfl rfl 11 (by decide) (htw _ mw294) (fun _ h9 => h9) rfl dX4_checkAllThere_33 ?_
      refine lv_iconst (v := 0) hx hb dX4_checkAllThere_36 (by decide) ?_
      refine va_iald hx hb hE.1 (wo_me hw hk) 7 0 rfl rfl (inR_in (i := 0) (n := 4) (by decide)) dX4_checkAllThere_37 ?_
      refine lv_icmp_ge (tgt := 62) hx hb dX4_checkAllThere_38 (by decide) (fun c19 => ?_) (fun c19 => ?_)
      · have hf := ifp c19 hf
        exact wX4_checkAllThere_62 C hk hf hq H locs ls hw hS (lv_sub hl [2, 3] rfl)
      · have hf := ifn c19 hf
        refine lv_aload_n hx hb dX4_checkAllThere_41 rfl (lv_at hl 2 rfl) ?_
        refine va_get (ci := 4) (v := .ref (aa Γ o 9)) (C := RX4) (T := TX4) (N := 14) hx hb htw uwX4 hown hE.1 (wo_me hw hk) 0 rfl rfl 9 (by decide) (htw _ mw292) (fun _ h9 => h9) rfl dX4_checkAllThere_42 ?_
        refine lv_iload_n hx hb dX4_checkAllThere_45 rfl (lv_at hl 1 rfl) ?_
        refine lv_iconst (v := 1) hx hb dX4_checkAllThere_46 (by decide) ?_
        refine lv_iadd hx hb dX4_checkAllThere_47 ?_
        obtain ⟨g17, hf⟩ := gd_some hf
        refine va_iald hx hb hE.1 (wo_me hw hk) 5 0 rfl rfl (inR_in g17) dX4_checkAllThere_48 ?_
        refine lv_aload_n hx hb dX4_checkAllThere_49 rfl (lv_at hl 2 rfl) ?_
        refine va_get (ci := 4) (v := .ref (aa Γ o 11)) (C := RX4) (T := TX4) (N := 14) hx hb htw uwX4 hown hE.1 (wo_me hw hk) 0 rfl rfl 11 (by decide) (htw _ mw294) (fun _ h9 => h9) rfl dX4_checkAllThere_50 ?_
        refine lv_iconst (v := 1) hx hb dX4_checkAllThere_53 (by decide) ?_
        refine va_iald hx hb hE.1 (wo_me hw hk) 7 0 rfl rfl (inR_in (i := 1) (n := 4) (by decide)) dX4_checkAllThere_54 ?_
        refine lv_icmp_ge (tgt := 62) hx hb dX4_checkAllThere_55 (by decide) (fun c18 => ?_) (fun c18 => ?_)
        · have hf := ifp c18 hf
          exact wX4_checkAllThere_62 C hk hf hq H locs ls hw hS (lv_sub hl [2, 3] rfl)
        · have hf := ifn c18 hf
          refine lv_iconst (v := 1) hx hb dX4_checkAllThere_58 (by decide) ?_
          refine lv_goto (tgt := 63) hx hb dX4_checkAllThere_59 (by decide) ?_
          exact wX4_checkAllThere_63 C hk hf hq H locs ls hw hS (lv_sub hl [2, 3] rfl)

set_option maxRecDepth 100000 in
set_option maxHeartbeats 4000000 in
theorem lwX4_checkAllThere_2 {p : Program} {l : Launch} {e : Env} {s : State} {m : MethodId} {args : Array Value} {below : List Frame} {meth : Method} {c : Code} {Γ : Gm} {A : Nat → Prop} {G : Gs} {o : Nat} {r : Rec} {v1 : Int32} {q : Rec} {fin : Rec} (C : Cx p s m args meth c yX4_checkAllThere cX4_checkAllThere 4 none Γ A) (hk : kd Γ o = some 4) (hf : iter (fun st : Int32 => bX4_checkAllThere_2 r st) v1 = some q) (hq : (fun x => x = fin) q) : Wk p l e { frames := 1, cells := 0, slots := 0, locals := 22 } s m args below meth c Γ A (ug G o fin) none 2 4 [(0, .ref (ad Γ o)), (1, .int v1)] [] (ug G o r) := by
  intro H locs ls hw hS hl
  refine iter_walk (P := (fun st : Int32 => Wk p l e { frames := 1, cells := 0, slots := 0, locals := 22 } s m args below meth c Γ A (ug G o fin) none 2 4 [(0, .ref (ad Γ o)), (1, .int st)] [] (ug G o r))) (K := (fun x => x = fin)) (fun st q hq1 h1 h2 => ?_) hf hq H locs ls hw hS hl
  exact wX4_checkAllThere_2 (v1 := st) C hk hq1 ⟨h1, h2⟩

noncomputable def fX4_checkAllThere (r : Rec) : Option Rec :=
  iter (fun st : Int32 => bX4_checkAllThere_2 r st) 0
set_option maxRecDepth 100000 in
set_option maxHeartbeats 4000000 in
theorem wX4_checkAllThere_e {p : Program} {l : Launch} {e : Env} {s : State} {m : MethodId} {args : Array Value} {below : List Frame} {meth : Method} {c : Code} {Γ : Gm} {A : Nat → Prop} {G : Gs} {o : Nat} {r : Rec} {q : Rec} {fin : Rec} (C : Cx p s m args meth c yX4_checkAllThere cX4_checkAllThere 4 none Γ A) (hk : kd Γ o = some 4) (hf : fX4_checkAllThere r = some q) (hq : (fun x => x = fin) q) : Wk p l e { frames := 1, cells := 0, slots := 0, locals := 22 } s m args below meth c Γ A (ug G o fin) none 0 4 [(0, .ref (ad Γ o))] [] (ug G o r) := by
  intro H locs ls hw hS hl
  unfold fX4_checkAllThere at hf
  obtain ⟨hx, hb, hml, hr, hown, htw, hlocks, hE⟩ := id C
  have hown : s.vm.findClass RX4 = some m.cls := hown
  refine lv_iconst (v := 0) hx hb dX4_checkAllThere_0 (by decide) ?_
  refine lv_istore_n (lv' := [(1, .int 0), (0, .ref (ad Γ o))]) hx hb dX4_checkAllThere_1 rfl hl (by decide) rfl (fun ls hl => ?_)
  exact lwX4_checkAllThere_2 C hk hf hq H locs ls hw hS (lv_sub hl [1, 0] rfl)

theorem kX4_checkAllThere {l : Launch} {Γ : Gm} {A : Nat → Prop} {G : Gs} {o : Nat} {r : Rec} {fin : Rec} (hk : kd Γ o = some 4) (hf : fX4_checkAllThere r = some fin) : Kt l yX4_checkAllThere cX4_checkAllThere 4 none 1 22 Γ A (ug G o r) (ug G o fin) [.ref (ad Γ o)] none :=
  kt_of (by decide) (Nat.le_of_ble_eq_true rfl) (fun p e s m args below meth c C => wX4_checkAllThere_e C hk hf rfl)
theorem kgX4_checkAllThere {l : Launch} {Γ : Gm} {A : Nat → Prop} {G : Gs} {o : Nat} {fin : Rec} (hk : kd Γ o = some 4) (hf : fX4_checkAllThere (G o) = some fin) : Kt l yX4_checkAllThere cX4_checkAllThere 4 none 1 22 Γ A G (ug G o fin) [.ref (ad Γ o)] none := by
  have h := kX4_checkAllThere (l := l) (A := A) (G := G) (r := G o) hk hf
  rw [ug_self] at h
  exact h
