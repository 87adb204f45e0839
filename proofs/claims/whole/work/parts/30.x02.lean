noncomputable def bX1_bestAsked_45 (g : Gs) (v1 : Nat) (v2 : Int32) (v3 : Int32) (v4 : Int32) : Option ((Int32 × Int32 × Int32 × Gs) ⊕ (Gs × Int32)) :=
  some (.inl (v2, v3, v4 + 1, g))
set_option maxRecDepth 100000 in
set_option maxHeartbeats 4000000 in
theorem wX1_bestAsked_45 {p : Program} {l : Launch} {e : Env} {s : State} {m : MethodId} {args : Array Value} {below : List Frame} {meth : Method} {c : Code} {Γ : Gm} {A : Nat → Prop} {g : Gs} {v1 : Nat} {v2 : Int32} {v3 : Int32} {v4 : Int32} {q : ((Int32 × Int32 × Int32 × Gs) ⊕ (Gs × Int32))} {fin : Gs × Int32} (C : Cx p s m args meth c yX1_bestAsked cX1_bestAsked 6 (some .int) Γ A) (hv1 : kd Γ v1 = some 2) (hf : bX1_bestAsked_45 g v1 v2 v3 v4 = some q) (hq : (KC (fun st : Int32 × Int32 × Int32 × Gs => Wk p l e { frames := 4, cells := 0, slots := 0, locals := 89 } s m args below meth c Γ A fin.1 (some (.int fin.2)) 8 6 [(0, .ref (ad Γ 101)), (1, .ref (ad Γ v1)), (2, .int st.1), (3, .int st.2.1), (4, .int st.2.2.1)] [] st.2.2.2) (fun x => x = fin)) q) : Wk p l e { frames := 4, cells := 0, slots := 0, locals := 89 } s m args below meth c Γ A fin.1 (some (.int fin.2)) 45 6 [(0, .ref (ad Γ 101)), (1, .ref (ad Γ v1)), (2, .int v2), (3, .int v3), (4, .int v4)] [] g := by
  intro H locs ls hw hS hl
  unfold bX1_bestAsked_45 at hf
  obtain ⟨hx, hb, hml, hr, hown, htw, hlocks, hE⟩ := id C
  have hown : s.vm.findClass RX1 = some m.cls := hown
  refine lv_iinc (v := v4 + 1) (lv' := [(4, .int (v4 + 1)), (0, .ref (ad Γ 101)), (1, .ref (ad Γ v1)), (2, .int v2), (3, .int v3)]) hx hb dX1_bestAsked_45 hl (k := 4) rfl (by rfl) (by decide) rfl (fun ls hl => ?_)
  refine lv_goto (tgt := 8) hx hb dX1_bestAsked_48 (by decide) ?_
  obtain rfl := Option.some.inj hf
  exact hq.1 _ rfl H locs ls hw hS (lv_sub hl [1, 2, 3, 4, 0] rfl)

noncomputable def bX1_bestAsked_8 (g : Gs) (v1 : Nat) (v2 : Int32) (v3 : Int32) (v4 : Int32) : Option ((Int32 × Int32 × Int32 × Gs) ⊕ (Gs × Int32)) :=
  if (gi (g 101) 1) ≤ 0 then some (.inr ((g, v2))) else if (gi (g v1) 0) ≤ v4 then some (.inr ((g, v2))) else (fX1_mostAlike g v1 v4).bind fun z1 => if v3 ≤ z1.2 then bX1_bestAsked_45 z1.1 v1 v2 v3 v4 else bX1_bestAsked_45 z1.1 v1 v4 z1.2 v4
set_option maxRecDepth 100000 in
set_option maxHeartbeats 4000000 in
theorem wX1_bestAsked_8 {p : Program} {l : Launch} {e : Env} {s : State} {m : MethodId} {args : Array Value} {below : List Frame} {meth : Method} {c : Code} {Γ : Gm} {A : Nat → Prop} {g : Gs} {v1 : Nat} {v2 : Int32} {v3 : Int32} {v4 : Int32} {q : ((Int32 × Int32 × Int32 × Gs) ⊕ (Gs × Int32))} {fin : Gs × Int32} (C : Cx p s m args meth c yX1_bestAsked cX1_bestAsked 6 (some .int) Γ A) (hv1 : kd Γ v1 = some 2) (hf : bX1_bestAsked_8 g v1 v2 v3 v4 = some q) (hq : (KC (fun st : Int32 × Int32 × Int32 × Gs => Wk p l e { frames := 4, cells := 0, slots := 0, locals := 89 } s m args below meth c Γ A fin.1 (some (.int fin.2)) 8 6 [(0, .ref (ad Γ 101)), (1, .ref (ad Γ v1)), (2, .int st.1), (3, .int st.2.1), (4, .int st.2.2.1)] [] st.2.2.2) (fun x => x = fin)) q) : Wk p l e { frames := 4, cells := 0, slots := 0, locals := 89 } s m args below meth c Γ A fin.1 (some (.int fin.2)) 8 6 [(0, .ref (ad Γ 101)), (1, .ref (ad Γ v1)), (2, .int v2), (3, .int v3), (4, .int v4)] [] g := by
  intro H locs ls hw hS hl
  unfold bX1_bestAsked_8 at hf
  obtain ⟨hx, hb, hml, hr, hown, htw, hlocks, hE⟩ := id C
  have hown : s.vm.findClass RX1 = some m.cls := hown
  refine lv_aload_n hx hb dX1_bestAsked_8 rfl (lv_at hl 0 rfl) ?_
  refine va_get (ci := 1) (v := .int (gi (g 101) 1)) (C := RX1) (T := TX1) (N := 3) hx hb htw uwX1 hown hE.1 (hw _ _ (wf_101 hE)) 0 rfl rfl 1 (by decide) (htw _ mw413) (fun _ h9 => h9) rfl dX1_bestAsked_9 ?_
  refine lv_if_le (tgt := 51) hx hb dX1_bestAsked_12 (by decide) (fun c4 => ?_) (fun c4 => ?_)
  · have hf := ifp c4 hf
    refine lv_iload_n hx hb dX1_bestAsked_51 rfl (lv_at hl 2 rfl) ?_
    obtain rfl := Option.some.inj hf
    have hq := hq.2 _ rfl
    subst hq
    exact rt_i C hw hS dX1_bestAsked_52
  · have hf := ifn c4 hf
    refine lv_iload hx hb dX1_bestAsked_15 (lv_at hl 4 rfl) ?_
    refine lv_aload_n hx hb dX1_bestAsked_17 rfl (lv_at hl 1 rfl) ?_
    refine va_get (ci := 2) (v := .int (gi (g v1) 0)) (C := RX2) (T := TX2) (N := 11) hx hb htw uwX2 hown hE.1 (hw _ _ hv1) 0 rfl rfl 0 (by decide) (htw _ mw164) (fun _ h9 => h9) rfl dX1_bestAsked_18 ?_
    refine lv_icmp_ge (tgt := 51) hx hb dX1_bestAsked_21 (by decide) (fun c3 => ?_) (fun c3 => ?_)
    · have hf := ifp c3 hf
      refine lv_iload_n hx hb dX1_bestAsked_51 rfl (lv_at hl 2 rfl) ?_
      obtain rfl := Option.some.inj hf
      have hq := hq.2 _ rfl
      subst hq
      exact rt_i C hw hS dX1_bestAsked_52
    · have hf := ifn c3 hf
      refine lv_aload_n hx hb dX1_bestAsked_24 rfl (lv_at hl 0 rfl) ?_
      refine lv_aload_n hx hb dX1_bestAsked_25 rfl (lv_at hl 1 rfl) ?_
      refine lv_iload hx hb dX1_bestAsked_26 (lv_at hl 4 rfl) ?_
      obtain ⟨z1, hz1, hf⟩ := bd hf
      refine cl_Vs (rest := []) (kX1_mostAlike (l := l) (Γ := Γ) (A := A) hv1 hz1) ⟨hx, hb, hml, hown, htw⟩ hE hw hS (hw _ _ (wf_101 hE)) (q0 := 0) rfl rfl mw1045 mw1047 mw36 mw127 mw1048 pdX1_mostAlike ⟨Nat.le_of_ble_eq_true rfl, Nat.le_of_ble_eq_true rfl⟩ rfl rfl hl.1 (Nat.le_of_ble_eq_true rfl) dX1_bestAsked_28 (fun H locs hw hS => ?_)
      refine lv_istore (lv' := [(5, .int z1.2), (0, .ref (ad Γ 101)), (1, .ref (ad Γ v1)), (2, .int v2), (3, .int v3), (4, .int v4)]) hx hb dX1_bestAsked_31 hl (by decide) rfl (fun ls hl => ?_)
      refine lv_iload hx hb dX1_bestAsked_33 (lv_at hl 0 rfl) ?_
      refine lv_iload_n hx hb dX1_bestAsked_35 rfl (lv_at hl 4 rfl) ?_
      refine lv_icmp_ge (tgt := 45) hx hb dX1_bestAsked_36 (by decide) (fun c2 => ?_) (fun c2 => ?_)
      · have hf := ifp c2 hf
        exact wX1_bestAsked_45 C hv1 hf hq H locs ls hw hS (lv_sub hl [1, 2, 3, 4, 5] rfl)
      · have hf := ifn c2 hf
        refine lv_iload hx hb dX1_bestAsked_39 (lv_at hl 0 rfl) ?_
        refine lv_istore_n (lv' := [(3, .int z1.2), (5, .int z1.2), (0, .ref (ad Γ 101)), (1, .ref (ad Γ v1)), (2, .int v2), (4, .int v4)]) hx hb dX1_bestAsked_41 rfl hl (by decide) rfl (fun ls hl => ?_)
        refine lv_iload hx hb dX1_bestAsked_42 (lv_at hl 5 rfl) ?_
        refine lv_istore_n (lv' := [(2, .int v4), (3, .int z1.2), (5, .int z1.2), (0, .ref (ad Γ 101)), (1, .ref (ad Γ v1)), (4, .int v4)]) hx hb dX1_bestAsked_44 rfl hl (by decide) rfl (fun ls hl => ?_)
        exact wX1_bestAsked_45 C hv1 hf hq H locs ls hw hS (lv_sub hl [3, 4, 0, 1, 5] rfl)

set_option maxRecDepth 100000 in
set_option maxHeartbeats 4000000 in
theorem lwX1_bestAsked_8 {p : Program} {l : Launch} {e : Env} {s : State} {m : MethodId} {args : Array Value} {below : List Frame} {meth : Method} {c : Code} {Γ : Gm} {A : Nat → Prop} {g : Gs} {v1 : Nat} {v2 : Int32} {v3 : Int32} {v4 : Int32} {q : (Gs × Int32)} {fin : Gs × Int32} (C : Cx p s m args meth c yX1_bestAsked cX1_bestAsked 6 (some .int) Γ A) (hv1 : kd Γ v1 = some 2) (hf : iter (fun st : Int32 × Int32 × Int32 × Gs => bX1_bestAsked_8 st.2.2.2 v1 st.1 st.2.1 st.2.2.1) (v2, v3, v4, g) = some q) (hq : (fun x => x = fin) q) : Wk p l e { frames := 4, cells := 0, slots := 0, locals := 89 } s m args below meth c Γ A fin.1 (some (.int fin.2)) 8 6 [(0, .ref (ad Γ 101)), (1, .ref (ad Γ v1)), (2, .int v2), (3, .int v3), (4, .int v4)] [] g := by
  intro H locs ls hw hS hl
  refine iter_walk (P := (fun st : Int32 × Int32 × Int32 × Gs => Wk p l e { frames := 4, cells := 0, slots := 0, locals := 89 } s m args below meth c Γ A fin.1 (some (.int fin.2)) 8 6 [(0, .ref (ad Γ 101)), (1, .ref (ad Γ v1)), (2, .int st.1), (3, .int st.2.1), (4, .int st.2.2.1)] [] st.2.2.2)) (K := (fun x => x = fin)) (fun st q hq1 h1 h2 => ?_) hf hq H locs ls hw hS hl
  exact wX1_bestAsked_8 (g := st.2.2.2) (v2 := st.1) (v3 := st.2.1) (v4 := st.2.2.1) C hv1 hq1 ⟨h1, h2⟩

noncomputable def fX1_bestAsked (g : Gs) (v1 : Nat) : Option (Gs × Int32) :=
  iter (fun st : Int32 × Int32 × Int32 × Gs => bX1_bestAsked_8 st.2.2.2 v1 st.1 st.2.1 st.2.2.1) ((-1), 121, 0, g)
set_option maxRecDepth 100000 in
set_option maxHeartbeats 4000000 in
theorem wX1_bestAsked_e {p : Program} {l : Launch} {e : Env} {s : State} {m : MethodId} {args : Array Value} {below : List Frame} {meth : Method} {c : Code} {Γ : Gm} {A : Nat → Prop} {g : Gs} {v1 : Nat} {q : (Gs × Int32)} {fin : Gs × Int32} (C : Cx p s m args meth c yX1_bestAsked cX1_bestAsked 6 (some .int) Γ A) (hv1 : kd Γ v1 = some 2) (hf : fX1_bestAsked g v1 = some q) (hq : (fun x => x = fin) q) : Wk p l e { frames := 4, cells := 0, slots := 0, locals := 89 } s m args below meth c Γ A fin.1 (some (.int fin.2)) 0 6 [(0, .ref (ad Γ 101)), (1, .ref (ad Γ v1))] [] g := by
  intro H locs ls hw hS hl
  unfold fX1_bestAsked at hf
  obtain ⟨hx, hb, hml, hr, hown, htw, hlocks, hE⟩ := id C
  have hown : s.vm.findClass RX1 = some m.cls := hown
  refine lv_iconst (v := (-1)) hx hb dX1_bestAsked_0 (by decide) ?_
  refine lv_istore_n (lv' := [(2, .int (-1)), (0, .ref (ad Γ 101)), (1, .ref (ad Γ v1))]) hx hb dX1_bestAsked_1 rfl hl (by decide) rfl (fun ls hl => ?_)
  refine lv_bipush (v := 121) hx hb dX1_bestAsked_2 (by decide) ?_
  refine lv_istore_n (lv' := [(3, .int 121), (2, .int (-1)), (0, .ref (ad Γ 101)), (1, .ref (ad Γ v1))]) hx hb dX1_bestAsked_4 rfl hl (by decide) rfl (fun ls hl => ?_)
  refine lv_iconst (v := 0) hx hb dX1_bestAsked_5 (by decide) ?_
  refine lv_istore (lv' := [(4, .int 0), (3, .int 121), (2, .int (-1)), (0, .ref (ad Γ 101)), (1, .ref (ad Γ v1))]) hx hb dX1_bestAsked_6 hl (by decide) rfl (fun ls hl => ?_)
  exact lwX1_bestAsked_8 C hv1 hf hq H locs ls hw hS (lv_sub hl [3, 4, 2, 1, 0] rfl)

theorem kX1_bestAsked {l : Launch} {Γ : Gm} {A : Nat → Prop} {g : Gs} {v1 : Nat} {fin : Gs × Int32} (hv1 : kd Γ v1 = some 2) (hf : fX1_bestAsked g v1 = some fin) : Kt l yX1_bestAsked cX1_bestAsked 6 (some .int) 4 89 Γ A g fin.1 [.ref (ad Γ 101), .ref (ad Γ v1)] (some (.int fin.2)) :=
  kt_of (by decide) (Nat.le_of_ble_eq_true rfl) (fun p e s m args below meth c C => wX1_bestAsked_e C hv1 hf rfl)
noncomputable def fX2_empty (r : Rec) : Option Rec :=
  (some (si r 0 0)).bind fun r1 => (some (si r1 1 0)).bind fun r2 => (some (si r2 2 0)).bind fun r3 => (some (sa r3 5 (fl 8 0 (ga r3 5)))).bind fun r4 => some (r4)
set_option maxRecDepth 100000 in
set_option maxHeartbeats 4000000 in
theorem wX2_empty_e {p : Program} {l : Launch} {e : Env} {s : State} {m : MethodId} {args : Array Value} {below : List Frame} {meth : Method} {c : Code} {Γ : Gm} {A : Nat → Prop} {G : Gs} {o : Nat} {r : Rec} {q : Rec} {fin : Rec} (C : Cx p s m args meth c yX2_empty cX2_empty 1 none Γ A) (hk : kd Γ o = some 2) (hf : fX2_empty r = some q) (hq : (fun x => x = fin) q) : Wk p l e { frames := 1, cells := 0, slots := 0, locals := 23 } s m args below meth c Γ A (ug G o fin) none 0 1 [(0, .ref (ad Γ o))] [] (ug G o r) := by
  intro H locs ls hw hS hl
  unfold fX2_empty at hf
  obtain ⟨hx, hb, hml, hr, hown, htw, hlocks, hE⟩ := id C
  have hown : s.vm.findClass RX2 = some m.cls := hown
  refine lv_aload_n hx hb dX2_empty_0 rfl (lv_at hl 0 rfl) ?_
  refine lv_iconst (v := 0) hx hb dX2_empty_1 (by decide) ?_
  obtain ⟨r1, hr1, hf⟩ := bd hf
  have hr1 := Option.some.inj hr1
  refine wo_put (C := RX2) (T := TX2) (N := 11) (v := .int 0) (ty := .int) hx hb htw uwX2 tyX2 tyX2_ok nmX2 hown hE hw hS hk rfl rfl 0 (by decide) (htw _ mw160) (fun _ h9 => h9) rfl (tyX2_ok 0 (by decide)) rfl rfl (Nat.le_of_ble_eq_true rfl) (st2_0 hr1) dX2_empty_2 (fun H locs hw hS => ?_)
  refine lv_aload_n hx hb dX2_empty_5 rfl (lv_at hl 0 rfl) ?_
  refine lv_iconst (v := 0) hx hb dX2_empty_6 (by decide) ?_
  obtain ⟨r2, hr2, hf⟩ := bd hf
  have hr2 := Option.some.inj hr2
  refine wo_put (C := RX2) (T := TX2) (N := 11) (v := .int 0) (ty := .int) hx hb htw uwX2 tyX2 tyX2_ok nmX2 hown hE hw hS hk rfl rfl 1 (by decide) (htw _ mw165) (fun _ h9 => h9) rfl (tyX2_ok 1 (by decide)) rfl rfl (Nat.le_of_ble_eq_true rfl) (st2_1 hr2) dX2_empty_7 (fun H locs hw hS => ?_)
  refine lv_aload_n hx hb dX2_empty_10 rfl (lv_at hl 0 rfl) ?_
  refine lv_iconst (v := 0) hx hb dX2_empty_11 (by decide) ?_
  obtain ⟨r3, hr3, hf⟩ := bd hf
  have hr3 := Option.some.inj hr3
  refine wo_put (C := RX2) (T := TX2) (N := 11) (v := .int 0) (ty := .int) hx hb htw uwX2 tyX2 tyX2_ok nmX2 hown hE hw hS hk rfl rfl 2 (by decide) (htw _ mw171) (fun _ h9 => h9) rfl (tyX2_ok 2 (by decide)) rfl rfl (Nat.le_of_ble_eq_true rfl) (st2_2 hr3) dX2_empty_12 (fun H locs hw hS => ?_)
  refine lv_aload_n hx hb dX2_empty_15 rfl (lv_at hl 0 rfl) ?_
  refine va_get (ci := 2) (v := .ref (aa Γ o 5)) (C := RX2) (T := TX2) (N := 11) hx hb htw uwX2 hown hE.1 (wo_me hw hk) 0 rfl rfl 5 (by decide) (htw _ mw178) (fun _ h9 => h9) rfl dX2_empty_16 ?_
  refine lv_iconst (v := 0) hx hb dX2_empty_19 (by decide) ?_
  obtain ⟨r4, hr4, hf⟩ := bd hf
  have hr4 := Option.some.inj hr4
  refine cl_Sv (rest := []) (kfill (l := l) (A := A) (G := G) (r := r3) (v := 0) (k := 5) (q0 := 3) hk (Nat.lt_of_lt_of_le (Nat.lt_succ_self 8) (Nat.le_of_ble_eq_true rfl)) (fun _ => rfl) (fun _ _ => sa2_5 rfl)) ⟨hx, hb, hml, hown, htw⟩ hE hw hS mw641 mw605 mw135 mw606 pdJ7_fill_53178 ⟨Nat.le_of_ble_eq_true rfl, Nat.le_of_ble_eq_true rfl⟩ rfl rfl hl.1 (Nat.le_of_ble_eq_true rfl) dX2_empty_20 (fun H locs hw hS => ?_)
  rw [hr4] at hw
  obtain rfl := Option.some.inj hf
  subst hq
  exact rt_v C hw hS dX2_empty_23

theorem kX2_empty {l : Launch} {Γ : Gm} {A : Nat → Prop} {G : Gs} {o : Nat} {r : Rec} {fin : Rec} (hk : kd Γ o = some 2) (hf : fX2_empty r = some fin) : Kt l yX2_empty cX2_empty 1 none 1 23 Γ A (ug G o r) (ug G o fin) [.ref (ad Γ o)] none :=
  kt_of (by decide) (Nat.le_of_ble_eq_true rfl) (fun p e s m args below meth c C => wX2_empty_e C hk hf rfl)
theorem kgX2_empty {l : Launch} {Γ : Gm} {A : Nat → Prop} {G : Gs} {o : Nat} {fin : Rec} (hk : kd Γ o = some 2) (hf : fX2_empty (G o) = some fin) : Kt l yX2_empty cX2_empty 1 none 1 23 Γ A G (ug G o fin) [.ref (ad Γ o)] none := by
  have h := kX2_empty (l := l) (A := A) (G := G) (r := G o) hk hf
  rw [ug_self] at h
  exact h
noncomputable def fX2_addPiece (r : Rec) (v1 : Int32) (v2 : Int32) : Option Rec :=
  if 8 ≤ (gi r 0) then some (r) else gd (inR (gi r 0) 8) ((some (sa r 3 (upd (ga r 3) (Int32.toNatClampNeg (gi r 0)) v1))).bind fun r2 => gd (inR (gi r2 0) 8) ((some (sa r2 4 (upd (ga r2 4) (Int32.toNatClampNeg (gi r2 0)) v2))).bind fun r4 => (some (si r4 0 ((gi r4 0) + 1))).bind fun r5 => some (r5)))
set_option maxRecDepth 100000 in
set_option maxHeartbeats 4000000 in
theorem wX2_addPiece_e {p : Program} {l : Launch} {e : Env} {s : State} {m : MethodId} {args : Array Value} {below : List Frame} {meth : Method} {c : Code} {Γ : Gm} {A : Nat → Prop} {G : Gs} {o : Nat} {r : Rec} {v1 : Int32} {v2 : Int32} {q : Rec} {fin : Rec} (C : Cx p s m args meth c yX2_addPiece cX2_addPiece 3 none Γ A) (hk : kd Γ o = some 2) (hf : fX2_addPiece r v1 v2 = some q) (hq : (fun x => x = fin) q) : Wk p l e { frames := 0, cells := 0, slots := 0, locals := 0 } s m args below meth c Γ A (ug G o fin) none 0 3 [(0, .ref (ad Γ o)), (1, .int v1), (2, .int v2)] [] (ug G o r) := by
  intro H locs ls hw hS hl
  unfold fX2_addPiece at hf
  obtain ⟨hx, hb, hml, hr, hown, htw, hlocks, hE⟩ := id C
  have hown : s.vm.findClass RX2 = some m.cls := hown
  refine lv_aload_n hx hb dX2_addPiece_0 rfl (lv_at hl 0 rfl) ?_
  refine va_get (ci := 2) (v := .int (gi r 0)) (C := RX2) (T := TX2) (N := 11) hx hb htw uwX2 hown hE.1 (wo_me hw hk) 0 rfl rfl 0 (by decide) (htw _ mw160) (fun _ h9 => h9) rfl dX2_addPiece_1 ?_
  refine lv_bipush (v := 8) hx hb dX2_addPiece_4 (by decide) ?_
  refine lv_icmp_ge (tgt := 39) hx hb dX2_addPiece_6 (by decide) (fun c6 => ?_) (fun c6 => ?_)
  · have hf := ifp c6 hf
    obtain rfl := Option.some.inj hf
    subst hq
    exact rt_v C hw hS dX2_addPiece_39
  · have hf := ifn c6 hf
    refine lv_aload_n hx hb dX2_addPiece_9 rfl (lv_at hl 0 rfl) ?_
    refine va_get (ci := 2) (v := .ref (aa Γ o 3)) (C := RX2) (T := TX2) (N := 11) hx hb htw uwX2 hown hE.1 (wo_me hw hk) 0 rfl rfl 3 (by decide) (htw _ mw173) (fun _ h9 => h9) rfl dX2_addPiece_10 ?_
    refine lv_aload_n hx hb dX2_addPiece_13 rfl (lv_at hl 0 rfl) ?_
    refine va_get (ci := 2) (v := .int (gi r 0)) (C := RX2) (T := TX2) (N := 11) hx hb htw uwX2 hown hE.1 (wo_me hw hk) 0 rfl rfl 0 (by decide) (htw _ mw160) (fun _ h9 => h9) rfl dX2_addPiece_14 ?_
    refine lv_iload_n hx hb dX2_addPiece_17 rfl (lv_at hl 1 rfl) ?_
    obtain ⟨g1, hf⟩ := gd_some hf
    obtain ⟨r2, hr2, hf⟩ := bd hf
    have hr2 := Option.some.inj hr2
    refine wo_iast hx hb hE hw hS hk (q0 := 1) rfl (inR_in g1) (sa2_3 hr2) dX2_addPiece_18 (fun H locs hw hS => ?_)
    refine lv_aload_n hx hb dX2_addPiece_19 rfl (lv_at hl 0 rfl) ?_
    refine va_get (ci := 2) (v := .ref (aa Γ o 4)) (C := RX2) (T := TX2) (N := 11) hx hb htw uwX2 hown hE.1 (wo_me hw hk) 0 rfl rfl 4 (by decide) (htw _ mw175) (fun _ h9 => h9) rfl dX2_addPiece_20 ?_
    refine lv_aload_n hx hb dX2_addPiece_23 rfl (lv_at hl 0 rfl) ?_
    refine va_get (ci := 2) (v := .int (gi r2 0)) (C := RX2) (T := TX2) (N := 11) hx hb htw uwX2 hown hE.1 (wo_me hw hk) 0 rfl rfl 0 (by decide) (htw _ mw160) (fun _ h9 => h9) rfl dX2_addPiece_24 ?_
    refine lv_iload_n hx hb dX2_addPiece_27 rfl (lv_at hl 2 rfl) ?_
    obtain ⟨g3, hf⟩ := gd_some hf
    obtain ⟨r4, hr4, hf⟩ := bd hf
    have hr4 := Option.some.inj hr4
    refine wo_iast hx hb hE hw hS hk (q0 := 2) rfl (inR_in g3) (sa2_4 hr4) dX2_addPiece_28 (fun H locs hw hS => ?_)
    refine lv_aload_n hx hb dX2_addPiece_29 rfl (lv_at hl 0 rfl) ?_
    refine lv_dup hx hb dX2_addPiece_30 rfl ?_
    refine va_get (ci := 2) (v := .int (gi r4 0)) (C := RX2) (T := TX2) (N := 11) hx hb htw uwX2 hown hE.1 (wo_me hw hk) 0 rfl rfl 0 (by decide) (htw _ mw160) (fun _ h9 => h9) rfl dX2_addPiece_31 ?_
    refine lv_iconst (v := 1) hx hb dX2_addPiece_34 (by decide) ?_
    refine lv_iadd hx hb dX2_addPiece_35 ?_
    obtain ⟨r5, hr5, hf⟩ := bd hf
    have hr5 := Option.some.inj hr5
    refine wo_put (C := RX2) (T := TX2) (N := 11) (v := .int ((gi r4 0) + 1)) (ty := .int) hx hb htw uwX2 tyX2 tyX2_ok nmX2 hown hE hw hS hk rfl rfl 0 (by decide) (htw _ mw160) (fun _ h9 => h9) rfl (tyX2_ok 0 (by decide)) rfl rfl (Nat.le_of_ble_eq_true rfl) (st2_0 hr5) dX2_addPiece_36 (fun H locs hw hS => ?_)
    obtain rfl := Option.some.inj hf
    subst hq
    exact rt_v C hw hS dX2_addPiece_39

theorem kX2_addPiece {l : Launch} {Γ : Gm} {A : Nat → Prop} {G : Gs} {o : Nat} {r : Rec} {v1 : Int32} {v2 : Int32} {fin : Rec} (hk : kd Γ o = some 2) (hf : fX2_addPiece r v1 v2 = some fin) : Kt l yX2_addPiece cX2_addPiece 3 none 0 0 Γ A (ug G o r) (ug G o fin) [.ref (ad Γ o), .int v1, .int v2] none :=
  kt_of (by decide) (Nat.le_of_ble_eq_true rfl) (fun p e s m args below meth c C => wX2_addPiece_e C hk hf rfl)
theorem kgX2_addPiece {l : Launch} {Γ : Gm} {A : Nat → Prop} {G : Gs} {o : Nat} {v1 : Int32} {v2 : Int32} {fin : Rec} (hk : kd Γ o = some 2) (hf : fX2_addPiece (G o) v1 v2 = some fin) : Kt l yX2_addPiece cX2_addPiece 3 none 0 0 Γ A G (ug G o fin) [.ref (ad Γ o), .int v1, .int v2] none := by
  have h := kX2_addPiece (l := l) (A := A) (G := G) (r := G o) hk hf
  rw [ug_self] at h
  exact h
noncomputable def fX2_addSecret (r : Rec) (v1 : Int32) (v2 : Int32) : Option Rec :=
  if 10 ≤ (gi r 1) then some (r) else gd (inR (gi r 1) 10) ((some (sa r 6 (upd (ga r 6) (Int32.toNatClampNeg (gi r 1)) v1))).bind fun r2 => gd (inR (gi r2 1) 10) ((some (sa r2 7 (upd (ga r2 7) (Int32.toNatClampNeg (gi r2 1)) v2))).bind fun r4 => (some (si r4 1 ((gi r4 1) + 1))).bind fun r5 => some (r5)))
set_option maxRecDepth 100000 in
set_option maxHeartbeats 4000000 in
theorem wX2_addSecret_e {p : Program} {l : Launch} {e : Env} {s : State} {m : MethodId} {args : Array Value} {below : List Frame} {meth : Method} {c : Code} {Γ : Gm} {A : Nat → Prop} {G : Gs} {o : Nat} {r : Rec} {v1 : Int32} {v2 : Int32} {q : Rec} {fin : Rec} (C : Cx p s m args meth c yX2_addSecret cX2_addSecret 3 none Γ A) (hk : kd Γ o = some 2) (hf : fX2_addSecret r v1 v2 = some q) (hq : (fun x => x = fin) q) : Wk p l e { frames := 0, cells := 0, slots := 0, locals := 0 } s m args below meth c Γ A (ug G o fin) none 0 3 [(0, .ref (ad Γ o)), (1, .int v1), (2, .int v2)] [] (ug G o r) := by
  intro H locs ls hw hS hl
  unfold fX2_addSecret at hf
  obtain ⟨hx, hb, hml, hr, hown, htw, hlocks, hE⟩ := id C
  have hown : s.vm.findClass RX2 = some m.cls := hown
  refine lv_aload_n hx hb dX2_addSecret_0 rfl (lv_at hl 0 rfl) ?_
  refine va_get (ci := 2) (v := .int (gi r 1)) (C := RX2) (T := TX2) (N := 11) hx hb htw uwX2 hown hE.1 (wo_me hw hk) 0 rfl rfl 1 (by decide) (htw _ mw165) (fun _ h9 => h9) rfl dX2_addSecret_1 ?_
  refine lv_bipush (v := 10) hx hb dX2_addSecret_4 (by decide) ?_
  refine lv_icmp_ge (tgt := 39) hx hb dX2_addSecret_6 (by decide) (fun c6 => ?_) (fun c6 => ?_)
  · have hf := ifp c6 hf
    obtain rfl := Option.some.inj hf
    subst hq
    exact rt_v C hw hS dX2_addSecret_39
  · have hf := ifn c6 hf
    refine lv_aload_n hx hb dX2_addSecret_9 rfl (lv_at hl 0 rfl) ?_
    refine va_get (ci := 2) (v := .ref (aa Γ o 6)) (C := RX2) (T := TX2) (N := 11) hx hb htw uwX2 hown hE.1 (wo_me hw hk) 0 rfl rfl 6 (by decide) (htw _ mw181) (fun _ h9 => h9) rfl dX2_addSecret_10 ?_
    refine lv_aload_n hx hb dX2_addSecret_13 rfl (lv_at hl 0 rfl) ?_
    refine va_get (ci := 2) (v := .int (gi r 1)) (C := RX2) (T := TX2) (N := 11) hx hb htw uwX2 hown hE.1 (wo_me hw hk) 0 rfl rfl 1 (by decide) (htw _ mw165) (fun _ h9 => h9) rfl dX2_addSecret_14 ?_
    refine lv_iload_n hx hb dX2_addSecret_17 rfl (lv_at hl 1 rfl) ?_
    obtain ⟨g1, hf⟩ := gd_some hf
    obtain ⟨r2, hr2, hf⟩ := bd hf
    have hr2 := Option.some.inj hr2
    refine wo_iast hx hb hE hw hS hk (q0 := 4) rfl (inR_in g1) (sa2_6 hr2) dX2_addSecret_18 (fun H locs hw hS => ?_)
    refine lv_aload_n hx hb dX2_addSecret_19 rfl (lv_at hl 0 rfl) ?_
    refine va_get (ci := 2) (v := .ref (aa Γ o 7)) (C := RX2) (T := TX2) (N := 11) hx hb htw uwX2 hown hE.1 (wo_me hw hk) 0 rfl rfl 7 (by decide) (htw _ mw184) (fun _ h9 => h9) rfl dX2_addSecret_20 ?_
    refine lv_aload_n hx hb dX2_addSecret_23 rfl (lv_at hl 0 rfl) ?_
    refine va_get (ci := 2) (v := .int (gi r2 1)) (C := RX2) (T := TX2) (N := 11) hx hb htw uwX2 hown hE.1 (wo_me hw hk) 0 rfl rfl 1 (by decide) (htw _ mw165) (fun _ h9 => h9) rfl dX2_addSecret_24 ?_
    refine lv_iload_n hx hb dX2_addSecret_27 rfl (lv_at hl 2 rfl) ?_
    obtain ⟨g3, hf⟩ := gd_some hf
    obtain ⟨r4, hr4, hf⟩ := bd hf
    have hr4 := Option.some.inj hr4
    refine wo_iast hx hb hE hw hS hk (q0 := 5) rfl (inR_in g3) (sa2_7 hr4) dX2_addSecret_28 (fun H locs hw hS => ?_)
    refine lv_aload_n hx hb dX2_addSecret_29 rfl (lv_at hl 0 rfl) ?_
    refine lv_dup hx hb dX2_addSecret_30 rfl ?_
    refine va_get (ci := 2) (v := .int (gi r4 1)) (C := RX2) (T := TX2) (N := 11) hx hb htw uwX2 hown hE.1 (wo_me hw hk) 0 rfl rfl 1 (by decide) (htw _ mw165) (fun _ h9 => h9) rfl dX2_addSecret_31 ?_
    refine lv_iconst (v := 1) hx hb dX2_addSecret_34 (by decide) ?_
    refine lv_iadd hx hb dX2_addSecret_35 ?_
    obtain ⟨r5, hr5, hf⟩ := bd hf
    have hr5 := Option.some.inj hr5
    refine wo_put (C := RX2) (T := TX2) (N := 11) (v := .int ((gi r4 1) + 1)) (ty := .int) hx hb htw uwX2 tyX2 tyX2_ok nmX2 hown hE hw hS hk rfl rfl 1 (by decide) (htw _ mw165) (fun _ h9 => h9) rfl (tyX2_ok 1 (by decide)) rfl rfl (Nat.le_of_ble_eq_true rfl) (st2_1 hr5) dX2_addSecret_36 (fun H locs hw hS => ?_)
    obtain rfl := Option.some.inj hf
    subst hq
    exact rt_v C hw hS dX2_addSecret_39

theorem kX2_addSecret {l : Launch} {Γ : Gm} {A : Nat → Prop} {G : Gs} {o : Nat} {r : Rec} {v1 : Int32} {v2 : Int32} {fin : Rec} (hk : kd Γ o = some 2) (hf : fX2_addSecret r v1 v2 = some fin) : Kt l yX2_addSecret cX2_addSecret 3 none 0 0 Γ A (ug G o r) (ug G o fin) [.ref (ad Γ o), .int v1, .int v2] none :=
  kt_of (by decide) (Nat.le_of_ble_eq_true rfl) (fun p e s m args below meth c C => wX2_addSecret_e C hk hf rfl)
theorem kgX2_addSecret {l : Launch} {Γ : Gm} {A : Nat → Prop} {G : Gs} {o : Nat} {v1 : Int32} {v2 : Int32} {fin : Rec} (hk : kd Γ o = some 2) (hf : fX2_addSecret (G o) v1 v2 = some fin) : Kt l yX2_addSecret cX2_addSecret 3 none 0 0 Γ A G (ug G o fin) [.ref (ad Γ o), .int v1, .int v2] none := by
  have h := kX2_addSecret (l := l) (A := A) (G := G) (r := G o) hk hf
  rw [ug_self] at h
  exact h
noncomputable def fX2_addKnown (r : Rec) (v1 : Int32) (v2 : Int32) : Option Rec :=
  if v1 < 0 then some (r) else if 8 ≤ v1 then some (r) else gd (inR v1 8) (gd (inR v1 8) ((some (sa r 5 (upd (ga r 5) (Int32.toNatClampNeg v1) ((ga r 5 (Int32.toNatClampNeg v1)) ||| ((1 : Int32) <<< (v2 &&& 31)))))).bind fun r3 => some (r3)))
set_option maxRecDepth 100000 in
set_option maxHeartbeats 4000000 in
theorem wX2_addKnown_e {p : Program} {l : Launch} {e : Env} {s : State} {m : MethodId} {args : Array Value} {below : List Frame} {meth : Method} {c : Code} {Γ : Gm} {A : Nat → Prop} {G : Gs} {o : Nat} {r : Rec} {v1 : Int32} {v2 : Int32} {q : Rec} {fin : Rec} (C : Cx p s m args meth c yX2_addKnown cX2_addKnown 3 none Γ A) (hk : kd Γ o = some 2) (hf : fX2_addKnown r v1 v2 = some q) (hq : (fun x => x = fin) q) : Wk p l e { frames := 0, cells := 0, slots := 0, locals := 0 } s m args below meth c Γ A (ug G o fin) none 0 3 [(0, .ref (ad Γ o)), (1, .int v1), (2, .int v2)] [] (ug G o r) := by
  intro H locs ls hw hS hl
  unfold fX2_addKnown at hf
  obtain ⟨hx, hb, hml, hr, hown, htw, hlocks, hE⟩ := id C
  have hown : s.vm.findClass RX2 = some m.cls := hown
  refine lv_iload_n hx hb dX2_addKnown_0 rfl (lv_at hl 1 rfl) ?_
  refine lv_if_lt (tgt := 22) hx hb dX2_addKnown_1 (by decide) (fun c5 => ?_) (fun c5 => ?_)
  · have hf := ifp c5 hf
    obtain rfl := Option.some.inj hf
    subst hq
    exact rt_v C hw hS dX2_addKnown_22
  · have hf := ifn c5 hf
    refine lv_iload_n hx hb dX2_addKnown_4 rfl (lv_at hl 1 rfl) ?_
    refine lv_bipush (v := 8) hx hb dX2_addKnown_5 (by decide) ?_
    refine lv_icmp_ge (tgt := 22) hx hb dX2_addKnown_7 (by decide) (fun c4 => ?_) (fun c4 => ?_)
    · have hf := ifp c4 hf
      obtain rfl := Option.some.inj hf
      subst hq
      exact rt_v C hw hS dX2_addKnown_22
    · have hf := ifn c4 hf
      refine lv_aload_n hx hb dX2_addKnown_10 rfl (lv_at hl 0 rfl) ?_
      refine va_get (ci := 2) (v := .ref (aa Γ o 5)) (C := RX2) (T := TX2) (N := 11) hx hb htw uwX2 hown hE.1 (wo_me hw hk) 0 rfl rfl 5 (by decide) (htw _ mw178) (fun _ h9 => h9) rfl dX2_addKnown_11 ?_
      refine lv_iload_n hx hb dX2_addKnown_14 rfl (lv_at hl 1 rfl) ?_
      refine lv_dup2_11 hx hb dX2_addKnown_15 rfl rfl ?_
      obtain ⟨g1, hf⟩ := gd_some hf
      refine va_iald hx hb hE.1 (wo_me hw hk) 3 0 rfl rfl (inR_in g1) dX2_addKnown_16 ?_
      refine lv_iconst (v := 1) hx hb dX2_addKnown_17 (by decide) ?_
      refine lv_iload_n hx hb dX2_addKnown_18 rfl (lv_at hl 2 rfl) ?_
      refine lv_ishl hx hb dX2_addKnown_19 ?_
      refine lv_ior hx hb dX2_addKnown_20 ?_
      obtain ⟨g2, hf⟩ := gd_some hf
      obtain ⟨r3, hr3, hf⟩ := bd hf
      have hr3 := Option.some.inj hr3
      refine wo_iast hx hb hE hw hS hk (q0 := 3) rfl (inR_in g2) (sa2_5 hr3) dX2_addKnown_21 (fun H locs hw hS => ?_)
      obtain rfl := Option.some.inj hf
      subst hq
      exact rt_v C hw hS dX2_addKnown_22

theorem kX2_addKnown {l : Launch} {Γ : Gm} {A : Nat → Prop} {G : Gs} {o : Nat} {r : Rec} {v1 : Int32} {v2 : Int32} {fin : Rec} (hk : kd Γ o = some 2) (hf : fX2_addKnown r v1 v2 = some fin) : Kt l yX2_addKnown cX2_addKnown 3 none 0 0 Γ A (ug G o r) (ug G o fin) [.ref (ad Γ o), .int v1, .int v2] none :=
  kt_of (by decide) (Nat.le_of_ble_eq_true rfl) (fun p e s m args below meth c C => wX2_addKnown_e C hk hf rfl)
theorem kgX2_addKnown {l : Launch} {Γ : Gm} {A : Nat → Prop} {G : Gs} {o : Nat} {v1 : Int32} {v2 : Int32} {fin : Rec} (hk : kd Γ o = some 2) (hf : fX2_addKnown (G o) v1 v2 = some fin) : Kt l yX2_addKnown cX2_addKnown 3 none 0 0 Γ A G (ug G o fin) [.ref (ad Γ o), .int v1, .int v2] none := by
  have h := kX2_addKnown (l := l) (A := A) (G := G) (r := G o) hk hf
  rw [ug_self] at h
  exact h
noncomputable def fX2_addLink (r : Rec) (v1 : Int32) (v2 : Int32) (v3 : Int32) : Option Rec :=
  if 8 ≤ (gi r 2) then some (r) else gd (inR (gi r 2) 8) ((some (sa r 8 (upd (ga r 8) (Int32.toNatClampNeg (gi r 2)) v1))).bind fun r2 => gd (inR (gi r2 2) 8) ((some (sa r2 9 (upd (ga r2 9) (Int32.toNatClampNeg (gi r2 2)) v2))).bind fun r4 => gd (inR (gi r4 2) 8) ((some (sa r4 10 (upd (ga r4 10) (Int32.toNatClampNeg (gi r4 2)) v3))).bind fun r6 => (some (si r6 2 ((gi r6 2) + 1))).bind fun r7 => some (r7))))
set_option maxRecDepth 100000 in
set_option maxHeartbeats 4000000 in
theorem wX2_addLink_e {p : Program} {l : Launch} {e : Env} {s : State} {m : MethodId} {args : Array Value} {below : List Frame} {meth : Method} {c : Code} {Γ : Gm} {A : Nat → Prop} {G : Gs} {o : Nat} {r : Rec} {v1 : Int32} {v2 : Int32} {v3 : Int32} {q : Rec} {fin : Rec} (C : Cx p s m args meth c yX2_addLink cX2_addLink 4 none Γ A) (hk : kd Γ o = some 2) (hf : fX2_addLink r v1 v2 v3 = some q) (hq : (fun x => x = fin) q) : Wk p l e { frames := 0, cells := 0, slots := 0, locals := 0 } s m args below meth c Γ A (ug G o fin) none 0 4 [(0, .ref (ad Γ o)), (1, .int v1), (2, .int v2), (3, .int v3)] [] (ug G o r) := by
  intro H locs ls hw hS hl
  unfold fX2_addLink at hf
  obtain ⟨hx, hb, hml, hr, hown, htw, hlocks, hE⟩ := id C
  have hown : s.vm.findClass RX2 = some m.cls := hown
  refine lv_aload_n hx hb dX2_addLink_0 rfl (lv_at hl 0 rfl) ?_
  refine va_get (ci := 2) (v := .int (gi r 2)) (C := RX2) (T := TX2) (N := 11) hx hb htw uwX2 hown hE.1 (wo_me hw hk) 0 rfl rfl 2 (by decide) (htw _ mw171) (fun _ h9 => h9) rfl dX2_addLink_1 ?_
  refine lv_bipush (v := 8) hx hb dX2_addLink_4 (by decide) ?_
  refine lv_icmp_ge (tgt := 49) hx hb dX2_addLink_6 (by decide) (fun c8 => ?_) (fun c8 => ?_)
  · have hf := ifp c8 hf
    obtain rfl := Option.some.inj hf
    subst hq
    exact rt_v C hw hS dX2_addLink_49
  · have hf := ifn c8 hf
    refine lv_aload_n hx hb dX2_addLink_9 rfl (lv_at hl 0 rfl) ?_
    refine va_get (ci := 2) (v := .ref (aa Γ o 8)) (C := RX2) (T := TX2) (N := 11) hx hb htw uwX2 hown hE.1 (wo_me hw hk) 0 rfl rfl 8 (by decide) (htw _ mw188) (fun _ h9 => h9) rfl dX2_addLink_10 ?_
    refine lv_aload_n hx hb dX2_addLink_13 rfl (lv_at hl 0 rfl) ?_
    refine va_get (ci := 2) (v := .int (gi r 2)) (C := RX2) (T := TX2) (N := 11) hx hb htw uwX2 hown hE.1 (wo_me hw hk) 0 rfl rfl 2 (by decide) (htw _ mw171) (fun _ h9 => h9) rfl dX2_addLink_14 ?_
    refine lv_iload_n hx hb dX2_addLink_17 rfl (lv_at hl 1 rfl) ?_
    obtain ⟨g1, hf⟩ := gd_some hf
    obtain ⟨r2, hr2, hf⟩ := bd hf
    have hr2 := Option.some.inj hr2
    refine wo_iast hx hb hE hw hS hk (q0 := 6) rfl (inR_in g1) (sa2_8 hr2) dX2_addLink_18 (fun H locs hw hS => ?_)
    refine lv_aload_n hx hb dX2_addLink_19 rfl (lv_at hl 0 rfl) ?_
    refine va_get (ci := 2) (v := .ref (aa Γ o 9)) (C := RX2) (T := TX2) (N := 11) hx hb htw uwX2 hown hE.1 (wo_me hw hk) 0 rfl rfl 9 (by decide) (htw _ mw189) (fun _ h9 => h9) rfl dX2_addLink_20 ?_
    refine lv_aload_n hx hb dX2_addLink_23 rfl (lv_at hl 0 rfl) ?_
    refine va_get (ci := 2) (v := .int (gi r2 2)) (C := RX2) (T := TX2) (N := 11) hx hb htw uwX2 hown hE.1 (wo_me hw hk) 0 rfl rfl 2 (by decide) (htw _ mw171) (fun _ h9 => h9) rfl dX2_addLink_24 ?_
    refine lv_iload_n hx hb dX2_addLink_27 rfl (lv_at hl 2 rfl) ?_
    obtain ⟨g3, hf⟩ := gd_some hf
    obtain ⟨r4, hr4, hf⟩ := bd hf
    have hr4 := Option.some.inj hr4
    refine wo_iast hx hb hE hw hS hk (q0 := 7) rfl (inR_in g3) (sa2_9 hr4) dX2_addLink_28 (fun H locs hw hS => ?_)
    refine lv_aload_n hx hb dX2_addLink_29 rfl (lv_at hl 0 rfl) ?_
    refine va_get (ci := 2) (v := .ref (aa Γ o 10)) (C := RX2) (T := TX2) (N := 11) hx hb htw uwX2 hown hE.1 (wo_me hw hk) 0 rfl rfl 10 (by decide) (htw _ mw190) (fun _ h9 => h9) rfl dX2_addLink_30 ?_
    refine lv_aload_n hx hb dX2_addLink_33 rfl (lv_at hl 0 rfl) ?_
    refine va_get (ci := 2) (v := .int (gi r4 2)) (C := RX2) (T := TX2) (N := 11) hx hb htw uwX2 hown hE.1 (wo_me hw hk) 0 rfl rfl 2 (by decide) (htw _ mw171) (fun _ h9 => h9) rfl dX2_addLink_34 ?_
    refine lv_iload_n hx hb dX2_addLink_37 rfl (lv_at hl 3 rfl) ?_
    obtain ⟨g5, hf⟩ := gd_some hf
    obtain ⟨r6, hr6, hf⟩ := bd hf
    have hr6 := Option.some.inj hr6
    refine wo_iast hx hb hE hw hS hk (q0 := 8) rfl (inR_in g5) (sa2_10 hr6) dX2_addLink_38 (fun H locs hw hS => ?_)
    refine lv_aload_n hx hb dX2_addLink_39 rfl (lv_at hl 0 rfl) ?_
    refine lv_dup hx hb dX2_addLink_40 rfl ?_
    refine va_get (ci := 2) (v := .int (gi r6 2)) (C := RX2) (T := TX2) (N := 11) hx hb htw uwX2 hown hE.1 (wo_me hw hk) 0 rfl rfl 2 (by decide) (htw _ mw171) (fun _ h9 => h9) rfl dX2_addLink_41 ?_
    refine lv_iconst (v := 1) hx hb dX2_addLink_44 (by decide) ?_
    refine lv_iadd hx hb dX2_addLink_45 ?_
    obtain ⟨r7, hr7, hf⟩ := bd hf
    have hr7 := Option.some.inj hr7
    refine wo_put (C := RX2) (T := TX2) (N := 11) (v := .int ((gi r6 2) + 1)) (ty := .int) hx hb htw uwX2 tyX2 tyX2_ok nmX2 hown hE hw hS hk rfl rfl 2 (by decide) (htw _ mw171) (fun _ h9 => h9) rfl (tyX2_ok 2 (by decide)) rfl rfl (Nat.le_of_ble_eq_true rfl) (st2_2 hr7) dX2_addLink_46 (fun H locs hw hS => ?_)
    obtain rfl := Option.some.inj hf
    subst hq
    exact rt_v C hw hS dX2_addLink_49

theorem kX2_addLink {l : Launch} {Γ : Gm} {A : Nat → Prop} {G : Gs} {o : Nat} {r : Rec} {v1 : Int32} {v2 : Int32} {v3 : Int32} {fin : Rec} (hk : kd Γ o = some 2) (hf : fX2_addLink r v1 v2 v3 = some fin) : Kt l yX2_addLink cX2_addLink 4 none 0 0 Γ A (ug G o r) (ug G o fin) [.ref (ad Γ o), .int v1, .int v2, .int v3] none :=
  kt_of (by decide) (Nat.le_of_ble_eq_true rfl) (fun p e s m args below meth c C => wX2_addLink_e C hk hf rfl)
theorem kgX2_addLink {l : Launch} {Γ : Gm} {A : Nat → Prop} {G : Gs} {o : Nat} {v1 : Int32} {v2 : Int32} {v3 : Int32} {fin : Rec} (hk : kd Γ o = some 2) (hf : fX2_addLink (G o) v1 v2 v3 = some fin) : Kt l yX2_addLink cX2_addLink 4 none 0 0 Γ A G (ug G o fin) [.ref (ad Γ o), .int v1, .int v2, .int v3] none := by
  have h := kX2_addLink (l := l) (A := A) (G := G) (r := G o) hk hf
  rw [ug_self] at h
  exact h
noncomputable def fX2_copyFrom (g : Gs) (o : Nat) (v1 : Nat) : Option Gs :=
  (some (ug g o (si (g o) 0 (gi (g v1) 0)))).bind fun g1 => (some (ug g1 o (si (g1 o) 1 (gi (g1 v1) 1)))).bind fun g2 => (some (ug g2 o (si (g2 o) 2 (gi (g2 v1) 2)))).bind fun g3 => gd (cpOK 0 0 8 8 8) ((some (ug g3 o (sa (g3 o) 3 (va_cpy (ga (g3 v1) 3) (ga (g3 o) 3) (Int32.toNatClampNeg 0) (Int32.toNatClampNeg 0) (Int32.toNatClampNeg 8))))).bind fun g5 => gd (cpOK 0 0 8 8 8) ((some (ug g5 o (sa (g5 o) 4 (va_cpy (ga (g5 v1) 4) (ga (g5 o) 4) (Int32.toNatClampNeg 0) (Int32.toNatClampNeg 0) (Int32.toNatClampNeg 8))))).bind fun g7 => gd (cpOK 0 0 8 8 8) ((some (ug g7 o (sa (g7 o) 5 (va_cpy (ga (g7 v1) 5) (ga (g7 o) 5) (Int32.toNatClampNeg 0) (Int32.toNatClampNeg 0) (Int32.toNatClampNeg 8))))).bind fun g9 => gd (cpOK 0 0 10 10 10) ((some (ug g9 o (sa (g9 o) 6 (va_cpy (ga (g9 v1) 6) (ga (g9 o) 6) (Int32.toNatClampNeg 0) (Int32.toNatClampNeg 0) (Int32.toNatClampNeg 10))))).bind fun g11 => gd (cpOK 0 0 10 10 10) ((some (ug g11 o (sa (g11 o) 7 (va_cpy (ga (g11 v1) 7) (ga (g11 o) 7) (Int32.toNatClampNeg 0) (Int32.toNatClampNeg 0) (Int32.toNatClampNeg 10))))).bind fun g13 => gd (cpOK 0 0 8 8 8) ((some (ug g13 o (sa (g13 o) 8 (va_cpy (ga (g13 v1) 8) (ga (g13 o) 8) (Int32.toNatClampNeg 0) (Int32.toNatClampNeg 0) (Int32.toNatClampNeg 8))))).bind fun g15 => gd (cpOK 0 0 8 8 8) ((some (ug g15 o (sa (g15 o) 9 (va_cpy (ga (g15 v1) 9) (ga (g15 o) 9) (Int32.toNatClampNeg 0) (Int32.toNatClampNeg 0) (Int32.toNatClampNeg 8))))).bind fun g17 => gd (cpOK 0 0 8 8 8) ((some (ug g17 o (sa (g17 o) 10 (va_cpy (ga (g17 v1) 10) (ga (g17 o) 10) (Int32.toNatClampNeg 0) (Int32.toNatClampNeg 0) (Int32.toNatClampNeg 8))))).bind fun g19 => some (g19)))))))))
set_option maxRecDepth 100000 in
set_option maxHeartbeats 4000000 in
theorem wX2_copyFrom_e {p : Program} {l : Launch} {e : Env} {s : State} {m : MethodId} {args : Array Value} {below : List Frame} {meth : Method} {c : Code} {Γ : Gm} {A : Nat → Prop} {o : Nat} {g : Gs} {v1 : Nat} {q : Gs} {fin : Gs} (C : Cx p s m args meth c yX2_copyFrom cX2_copyFrom 2 none Γ A) (hk : kd Γ o = some 2) (hv1 : kd Γ v1 = some 2) (hf : fX2_copyFrom g o v1 = some q) (hq : (fun x => x = fin) q) : Wk p l e { frames := 1, cells := 0, slots := 0, locals := 60 } s m args below meth c Γ A fin none 0 2 [(0, .ref (ad Γ o)), (1, .ref (ad Γ v1))] [] g := by
  intro H locs ls hw hS hl
  unfold fX2_copyFrom at hf
  obtain ⟨hx, hb, hml, hr, hown, htw, hlocks, hE⟩ := id C
  have hown : s.vm.findClass RX2 = some m.cls := hown
  refine lv_aload_n hx hb dX2_copyFrom_0 rfl (lv_at hl 0 rfl) ?_
  refine lv_aload_n hx hb dX2_copyFrom_1 rfl (lv_at hl 1 rfl) ?_
  refine va_get (ci := 2) (v := .int (gi (g v1) 0)) (C := RX2) (T := TX2) (N := 11) hx hb htw uwX2 hown hE.1 (hw _ _ hv1) 0 rfl rfl 0 (by decide) (htw _ mw160) (fun _ h9 => h9) rfl dX2_copyFrom_2 ?_
  obtain ⟨g1, hg1, hf⟩ := bd hf
  have hg1 := Option.some.inj hg1
  refine wo_putG (C := RX2) (T := TX2) (N := 11) (v := .int (gi (g v1) 0)) (ty := .int) hx hb htw uwX2 tyX2 tyX2_ok nmX2 hown hE hw hS hk rfl rfl 0 (by decide) (htw _ mw160) (fun _ h9 => h9) rfl (tyX2_ok 0 (by decide)) rfl rfl (Nat.le_of_ble_eq_true rfl) (st2_0 rfl) hg1 dX2_copyFrom_5 (fun H locs hw hS => ?_)
  refine lv_aload_n hx hb dX2_copyFrom_8 rfl (lv_at hl 0 rfl) ?_
  refine lv_aload_n hx hb dX2_copyFrom_9 rfl (lv_at hl 1 rfl) ?_
  refine va_get (ci := 2) (v := .int (gi (g1 v1) 1)) (C := RX2) (T := TX2) (N := 11) hx hb htw uwX2 hown hE.1 (hw _ _ hv1) 0 rfl rfl 1 (by decide) (htw _ mw165) (fun _ h9 => h9) rfl dX2_copyFrom_10 ?_
  obtain ⟨g2, hg2, hf⟩ := bd hf
  have hg2 := Option.some.inj hg2
  refine wo_putG (C := RX2) (T := TX2) (N := 11) (v := .int (gi (g1 v1) 1)) (ty := .int) hx hb htw uwX2 tyX2 tyX2_ok nmX2 hown hE hw hS hk rfl rfl 1 (by decide) (htw _ mw165) (fun _ h9 => h9) rfl (tyX2_ok 1 (by decide)) rfl rfl (Nat.le_of_ble_eq_true rfl) (st2_1 rfl) hg2 dX2_copyFrom_13 (fun H locs hw hS => ?_)
  refine lv_aload_n hx hb dX2_copyFrom_16 rfl (lv_at hl 0 rfl) ?_
  refine lv_aload_n hx hb dX2_copyFrom_17 rfl (lv_at hl 1 rfl) ?_
  refine va_get (ci := 2) (v := .int (gi (g2 v1) 2)) (C := RX2) (T := TX2) (N := 11) hx hb htw uwX2 hown hE.1 (hw _ _ hv1) 0 rfl rfl 2 (by decide) (htw _ mw171) (fun _ h9 => h9) rfl dX2_copyFrom_18 ?_
  obtain ⟨g3, hg3, hf⟩ := bd hf
  have hg3 := Option.some.inj hg3
  refine wo_putG (C := RX2) (T := TX2) (N := 11) (v := .int (gi (g2 v1) 2)) (ty := .int) hx hb htw uwX2 tyX2 tyX2_ok nmX2 hown hE hw hS hk rfl rfl 2 (by decide) (htw _ mw171) (fun _ h9 => h9) rfl (tyX2_ok 2 (by decide)) rfl rfl (Nat.le_of_ble_eq_true rfl) (st2_2 rfl) hg3 dX2_copyFrom_21 (fun H locs hw hS => ?_)
  refine lv_aload_n hx hb dX2_copyFrom_24 rfl (lv_at hl 1 rfl) ?_
  refine va_get (ci := 2) (v := .ref (aa Γ v1 3)) (C := RX2) (T := TX2) (N := 11) hx hb htw uwX2 hown hE.1 (hw _ _ hv1) 0 rfl rfl 3 (by decide) (htw _ mw173) (fun _ h9 => h9) rfl dX2_copyFrom_25 ?_
  refine lv_iconst (v := 0) hx hb dX2_copyFrom_28 (by decide) ?_
  refine lv_aload_n hx hb dX2_copyFrom_29 rfl (lv_at hl 0 rfl) ?_
  refine va_get (ci := 2) (v := .ref (aa Γ o 3)) (C := RX2) (T := TX2) (N := 11) hx hb htw uwX2 hown hE.1 (hw _ _ hk) 0 rfl rfl 3 (by decide) (htw _ mw173) (fun _ h9 => h9) rfl dX2_copyFrom_30 ?_
  refine lv_iconst (v := 0) hx hb dX2_copyFrom_33 (by decide) ?_
  refine lv_bipush (v := 8) hx hb dX2_copyFrom_34 (by decide) ?_
  obtain ⟨g4, hf⟩ := gd_some hf
  obtain ⟨g5, hg5, hf⟩ := bd hf
  have hg5 := Option.some.inj hg5
  refine wo_copy hx hb (hml.trans hl.1.symm) hown (htw _ mw1227) (htw _ mw482) (htw _ mw481) (htw _ mw130) hE (wo_gs hw) hS hk (t := 0) ((hw _ _ hv1) 1 _ rfl) (q1 := 1) rfl rfl rfl g4 (fun _ _ => rfl) (sa2_3 rfl) (Nat.le_of_ble_eq_true rfl) (by decide +kernel) dX2_copyFrom_36 (fun H locs hw hS => ?_)
  rw [hg5] at hw
  refine lv_aload_n hx hb dX2_copyFrom_39 rfl (lv_at hl 1 rfl) ?_
  refine va_get (ci := 2) (v := .ref (aa Γ v1 4)) (C := RX2) (T := TX2) (N := 11) hx hb htw uwX2 hown hE.1 (hw _ _ hv1) 0 rfl rfl 4 (by decide) (htw _ mw175) (fun _ h9 => h9) rfl dX2_copyFrom_40 ?_
  refine lv_iconst (v := 0) hx hb dX2_copyFrom_43 (by decide) ?_
  refine lv_aload_n hx hb dX2_copyFrom_44 rfl (lv_at hl 0 rfl) ?_
  refine va_get (ci := 2) (v := .ref (aa Γ o 4)) (C := RX2) (T := TX2) (N := 11) hx hb htw uwX2 hown hE.1 (hw _ _ hk) 0 rfl rfl 4 (by decide) (htw _ mw175) (fun _ h9 => h9) rfl dX2_copyFrom_45 ?_
  refine lv_iconst (v := 0) hx hb dX2_copyFrom_48 (by decide) ?_
  refine lv_bipush (v := 8) hx hb dX2_copyFrom_49 (by decide) ?_
  obtain ⟨g6, hf⟩ := gd_some hf
  obtain ⟨g7, hg7, hf⟩ := bd hf
  have hg7 := Option.some.inj hg7
  refine wo_copy hx hb (hml.trans hl.1.symm) hown (htw _ mw1227) (htw _ mw482) (htw _ mw481) (htw _ mw130) hE (wo_gs hw) hS hk (t := 0) ((hw _ _ hv1) 2 _ rfl) (q1 := 2) rfl rfl rfl g6 (fun _ _ => rfl) (sa2_4 rfl) (Nat.le_of_ble_eq_true rfl) (by decide +kernel) dX2_copyFrom_51 (fun H locs hw hS => ?_)
  rw [hg7] at hw
  refine lv_aload_n hx hb dX2_copyFrom_54 rfl (lv_at hl 1 rfl) ?_
  refine va_get (ci := 2) (v := .ref (aa Γ v1 5)) (C := RX2) (T := TX2) (N := 11) hx hb htw uwX2 hown hE.1 (hw _ _ hv1) 0 rfl rfl 5 (by decide) (htw _ mw178) (fun _ h9 => h9) rfl dX2_copyFrom_55 ?_
  refine lv_iconst (v := 0) hx hb dX2_copyFrom_58 (by decide) ?_
  refine lv_aload_n hx hb dX2_copyFrom_59 rfl (lv_at hl 0 rfl) ?_
  refine va_get (ci := 2) (v := .ref (aa Γ o 5)) (C := RX2) (T := TX2) (N := 11) hx hb htw uwX2 hown hE.1 (hw _ _ hk) 0 rfl rfl 5 (by decide) (htw _ mw178) (fun _ h9 => h9) rfl dX2_copyFrom_60 ?_
  refine lv_iconst (v := 0) hx hb dX2_copyFrom_63 (by decide) ?_
  refine lv_bipush (v := 8) hx hb dX2_copyFrom_64 (by decide) ?_
  obtain ⟨g8, hf⟩ := gd_some hf
  obtain ⟨g9, hg9, hf⟩ := bd hf
  have hg9 := Option.some.inj hg9
  refine wo_copy hx hb (hml.trans hl.1.symm) hown (htw _ mw1227) (htw _ mw482) (htw _ mw481) (htw _ mw130) hE (wo_gs hw) hS hk (t := 0) ((hw _ _ hv1) 3 _ rfl) (q1 := 3) rfl rfl rfl g8 (fun _ _ => rfl) (sa2_5 rfl) (Nat.le_of_ble_eq_true rfl) (by decide +kernel) dX2_copyFrom_66 (fun H locs hw hS => ?_)
  rw [hg9] at hw
  refine lv_aload_n hx hb dX2_copyFrom_69 rfl (lv_at hl 1 rfl) ?_
  refine va_get (ci := 2) (v := .ref (aa Γ v1 6)) (C := RX2) (T := TX2) (N := 11) hx hb htw uwX2 hown hE.1 (hw _ _ hv1) 0 rfl rfl 6 (by decide) (htw _ mw181) (fun _ h9 => h9) rfl dX2_copyFrom_70 ?_
  refine lv_iconst (v := 0) hx hb dX2_copyFrom_73 (by decide) ?_
  refine lv_aload_n hx hb dX2_copyFrom_74 rfl (lv_at hl 0 rfl) ?_
  refine va_get (ci := 2) (v := .ref (aa Γ o 6)) (C := RX2) (T := TX2) (N := 11) hx hb htw uwX2 hown hE.1 (hw _ _ hk) 0 rfl rfl 6 (by decide) (htw _ mw181) (fun _ h9 => h9) rfl dX2_copyFrom_75 ?_
  refine lv_iconst (v := 0) hx hb dX2_copyFrom_78 (by decide) ?_
  refine lv_bipush (v := 10) hx hb dX2_copyFrom_79 (by decide) ?_
  obtain ⟨g10, hf⟩ := gd_some hf
  obtain ⟨g11, hg11, hf⟩ := bd hf
  have hg11 := Option.some.inj hg11
  refine wo_copy hx hb (hml.trans hl.1.symm) hown (htw _ mw1227) (htw _ mw482) (htw _ mw481) (htw _ mw130) hE (wo_gs hw) hS hk (t := 0) ((hw _ _ hv1) 4 _ rfl) (q1 := 4) rfl rfl rfl g10 (fun _ _ => rfl) (sa2_6 rfl) (Nat.le_of_ble_eq_true rfl) (by decide +kernel) dX2_copyFrom_81 (fun H locs hw hS => ?_)
  rw [hg11] at hw
  refine lv_aload_n hx hb dX2_copyFrom_84 rfl (lv_at hl 1 rfl) ?_
  refine va_get (ci := 2) (v := .ref (aa Γ v1 7)) (C := RX2) (T := TX2) (N := 11) hx hb htw uwX2 hown hE.1 (hw _ _ hv1) 0 rfl rfl 7 (by decide) (htw _ mw184) (fun _ h9 => h9) rfl dX2_copyFrom_85 ?_
  refine lv_iconst (v := 0) hx hb dX2_copyFrom_88 (by decide) ?_
  refine lv_aload_n hx hb dX2_copyFrom_89 rfl (lv_at hl 0 rfl) ?_
  refine va_get (ci := 2) (v := .ref (aa Γ o 7)) (C := RX2) (T := TX2) (N := 11) hx hb htw uwX2 hown hE.1 (hw _ _ hk) 0 rfl rfl 7 (by decide) (htw _ mw184) (fun _ h9 => h9) rfl dX2_copyFrom_90 ?_
  refine lv_iconst (v := 0) hx hb dX2_copyFrom_93 (by decide) ?_
  refine lv_bipush (v := 10) hx hb dX2_copyFrom_94 (by decide) ?_
  obtain ⟨g12, hf⟩ := gd_some hf
  obtain ⟨g13, hg13, hf⟩ := bd hf
  have hg13 := Option.some.inj hg13
  refine wo_copy hx hb (hml.trans hl.1.symm) hown (htw _ mw1227) (htw _ mw482) (htw _ mw481) (htw _ mw130) hE (wo_gs hw) hS hk (t := 0) ((hw _ _ hv1) 5 _ rfl) (q1 := 5) rfl rfl rfl g12 (fun _ _ => rfl) (sa2_7 rfl) (Nat.le_of_ble_eq_true rfl) (by decide +kernel) dX2_copyFrom_96 (fun H locs hw hS => ?_)
  rw [hg13] at hw
  refine lv_aload_n hx hb dX2_copyFrom_99 rfl (lv_at hl 1 rfl) ?_
  refine va_get (ci := 2) (v := .ref (aa Γ v1 8)) (C := RX2) (T := TX2) (N := 11) hx hb htw uwX2 hown hE.1 (hw _ _ hv1) 0 rfl rfl 8 (by decide) (htw _ mw188) (fun _ h9 => h9) rfl dX2_copyFrom_100 ?_
  refine lv_iconst (v := 0) hx hb dX2_copyFrom_103 (by decide) ?_
  refine lv_aload_n hx hb dX2_copyFrom_104 rfl (lv_at hl 0 rfl) ?_
  refine va_get (ci := 2) (v := .ref (aa Γ o 8)) (C := RX2) (T := TX2) (N := 11) hx hb htw uwX2 hown hE.1 (hw _ _ hk) 0 rfl rfl 8 (by decide) (htw _ mw188) (fun _ h9 => h9) rfl dX2_copyFrom_105 ?_
  refine lv_iconst (v := 0) hx hb dX2_copyFrom_108 (by decide) ?_
  refine lv_bipush (v := 8) hx hb dX2_copyFrom_109 (by decide) ?_
  obtain ⟨g14, hf⟩ := gd_some hf
  obtain ⟨g15, hg15, hf⟩ := bd hf
  have hg15 := Option.some.inj hg15
  refine wo_copy hx hb (hml.trans hl.1.symm) hown (htw _ mw1227) (htw _ mw482) (htw _ mw481) (htw _ mw130) hE (wo_gs hw) hS hk (t := 0) ((hw _ _ hv1) 6 _ rfl) (q1 := 6) rfl rfl rfl g14 (fun _ _ => rfl) (sa2_8 rfl) (Nat.le_of_ble_eq_true rfl) (by decide +kernel) dX2_copyFrom_111 (fun H locs hw hS => ?_)
  rw [hg15] at hw
  refine lv_aload_n hx hb dX2_copyFrom_114 rfl (lv_at hl 1 rfl) ?_
  refine va_get (ci := 2) (v := .ref (aa Γ v1 9)) (C := RX2) (T := TX2) (N := 11) hx hb htw uwX2 hown hE.1 (hw _ _ hv1) 0 rfl rfl 9 (by decide) (htw _ mw189) (fun _ h9 => h9) rfl dX2_copyFrom_115 ?_
  refine lv_iconst (v := 0) hx hb dX2_copyFrom_118 (by decide) ?_
  refine lv_aload_n hx hb dX2_copyFrom_119 rfl (lv_at hl 0 rfl) ?_
  refine va_get (ci := 2) (v := .ref (aa Γ o 9)) (C := RX2) (T := TX2) (N := 11) hx hb htw uwX2 hown hE.1 (hw _ _ hk) 0 rfl rfl 9 (by decide) (htw _ mw189) (fun _ h9 => h9) rfl dX2_copyFrom_120 ?_
  refine lv_iconst (v := 0) hx hb dX2_copyFrom_123 (by decide) ?_
  refine lv_bipush (v := 8) hx hb dX2_copyFrom_124 (by decide) ?_
  obtain ⟨g16, hf⟩ := gd_some hf
  obtain ⟨g17, hg17, hf⟩ := bd hf
  have hg17 := Option.some.inj hg17
  refine wo_copy hx hb (hml.trans hl.1.symm) hown (htw _ mw1227) (htw _ mw482) (htw _ mw481) (htw _ mw130) hE (wo_gs hw) hS hk (t := 0) ((hw _ _ hv1) 7 _ rfl) (q1 := 7) rfl rfl rfl g16 (fun _ _ => rfl) (sa2_9 rfl) (Nat.le_of_ble_eq_true rfl) (by decide +kernel) dX2_copyFrom_126 (fun H locs hw hS => ?_)
  rw [hg17] at hw
  refine lv_aload_n hx hb dX2_copyFrom_129 rfl (lv_at hl 1 rfl) ?_
  refine va_get (ci := 2) (v := .ref (aa Γ v1 10)) (C := RX2) (T := TX2) (N := 11) hx hb htw uwX2 hown hE.1 (hw _ _ hv1) 0 rfl rfl 10 (by decide) (htw _ mw190) (fun _ h9 => h9) rfl dX2_copyFrom_130 ?_
  refine lv_iconst (v := 0) hx hb dX2_copyFrom_133 (by decide) ?_
  refine lv_aload_n hx hb dX2_copyFrom_134 rfl (lv_at hl 0 rfl) ?_
  refine va_get (ci := 2) (v := .ref (aa Γ o 10)) (C := RX2) (T := TX2) (N := 11) hx hb htw uwX2 hown hE.1 (hw _ _ hk) 0 rfl rfl 10 (by decide) (htw _ mw190) (fun _ h9 => h9) rfl dX2_copyFrom_135 ?_
  refine lv_iconst (v := 0) hx hb dX2_copyFrom_138 (by decide) ?_
  refine lv_bipush (v := 8) hx hb dX2_copyFrom_139 (by decide) ?_
  obtain ⟨g18, hf⟩ := gd_some hf
  obtain ⟨g19, hg19, hf⟩ := bd hf
  have hg19 := Option.some.inj hg19
  refine wo_copy hx hb (hml.trans hl.1.symm) hown (htw _ mw1227) (htw _ mw482) (htw _ mw481) (htw _ mw130) hE (wo_gs hw) hS hk (t := 0) ((hw _ _ hv1) 8 _ rfl) (q1 := 8) rfl rfl rfl g18 (fun _ _ => rfl) (sa2_10 rfl) (Nat.le_of_ble_eq_true rfl) (by decide +kernel) dX2_copyFrom_141 (fun H locs hw hS => ?_)
  rw [hg19] at hw
  obtain rfl := Option.some.inj hf
  subst hq
  exact rt_v C hw hS dX2_copyFrom_144

theorem kX2_copyFrom {l : Launch} {Γ : Gm} {A : Nat → Prop} {o : Nat} {g : Gs} {v1 : Nat} {fin : Gs} (hk : kd Γ o = some 2) (hv1 : kd Γ v1 = some 2) (hf : fX2_copyFrom g o v1 = some fin) : Kt l yX2_copyFrom cX2_copyFrom 2 none 1 60 Γ A g fin [.ref (ad Γ o), .ref (ad Γ v1)] none :=
  kt_of (by decide) (Nat.le_of_ble_eq_true rfl) (fun p e s m args below meth c C => wX2_copyFrom_e C hk hv1 hf rfl)
noncomputable def fX2_secretSets (r : Rec) : Option Int32 :=
  some ((1 : Int32) <<< ((gi r 1) &&& 31))
set_option maxRecDepth 100000 in
set_option maxHeartbeats 4000000 in
theorem wX2_secretSets_e {p : Program} {l : Launch} {e : Env} {s : State} {m : MethodId} {args : Array Value} {below : List Frame} {meth : Method} {c : Code} {Γ : Gm} {A : Nat → Prop} {G : Gs} {o : Nat} {r : Rec} {q : Int32} {fin : Int32} (C : Cx p s m args meth c yX2_secretSets cX2_secretSets 1 (some .int) Γ A) (hk : kd Γ o = some 2) (hf : fX2_secretSets r = some q) (hq : (fun x => x = fin) q) : Wk p l e { frames := 0, cells := 0, slots := 0, locals := 0 } s m args below meth c Γ A (ug G o r) (some (.int fin)) 0 1 [(0, .ref (ad Γ o))] [] (ug G o r) := by
  intro H locs ls hw hS hl
  unfold fX2_secretSets at hf
  obtain ⟨hx, hb, hml, hr, hown, htw, hlocks, hE⟩ := id C
  have hown : s.vm.findClass RX2 = some m.cls := hown
  refine lv_iconst (v := 1) hx hb dX2_secretSets_0 (by decide) ?_
  refine lv_aload_n hx hb dX2_secretSets_1 rfl (lv_at hl 0 rfl) ?_
  refine va_get (ci := 2) (v := .int (gi r 1)) (C := RX2) (T := TX2) (N := 11) hx hb htw uwX2 hown hE.1 (wo_me hw hk) 0 rfl rfl 1 (by decide) (htw _ mw165) (fun _ h9 => h9) rfl dX2_secretSets_2 ?_
  refine lv_ishl hx hb dX2_secretSets_5 ?_
  obtain rfl := Option.some.inj hf
  subst hq
  exact rt_i C hw hS dX2_secretSets_6

theorem kX2_secretSets {l : Launch} {Γ : Gm} {A : Nat → Prop} {G : Gs} {o : Nat} {r : Rec} {fin : Int32} (hk : kd Γ o = some 2) (hf : fX2_secretSets r = some fin) : Kt l yX2_secretSets cX2_secretSets 1 (some .int) 0 0 Γ A (ug G o r) (ug G o r) [.ref (ad Γ o)] (some (.int fin)) :=
  kt_of (by decide) (Nat.le_of_ble_eq_true rfl) (fun p e s m args below meth c C => wX2_secretSets_e C hk hf rfl)
theorem kgX2_secretSets {l : Launch} {Γ : Gm} {A : Nat → Prop} {G : Gs} {o : Nat} {fin : Int32} (hk : kd Γ o = some 2) (hf : fX2_secretSets (G o) = some fin) : Kt l yX2_secretSets cX2_secretSets 1 (some .int) 0 0 Γ A G G [.ref (ad Γ o)] (some (.int fin)) := by
  have h := kX2_secretSets (l := l) (A := A) (G := G) (r := G o) hk hf
  rw [ug_self] at h
  exact h
noncomputable def fX2_hasSecrets (r : Rec) (v1 : Int32) : Option Int32 :=
  if v1 < 0 then some (0) else (fX2_secretSets r).bind fun z1 => if z1 ≤ v1 then some (0) else some (1)
set_option maxRecDepth 100000 in
set_option maxHeartbeats 4000000 in
theorem wX2_hasSecrets_e {p : Program} {l : Launch} {e : Env} {s : State} {m : MethodId} {args : Array Value} {below : List Frame} {meth : Method} {c : Code} {Γ : Gm} {A : Nat → Prop} {G : Gs} {o : Nat} {r : Rec} {v1 : Int32} {q : Int32} {fin : Int32} (C : Cx p s m args meth c yX2_hasSecrets cX2_hasSecrets 2 (some .boolean) Γ A) (hk : kd Γ o = some 2) (hf : fX2_hasSecrets r v1 = some q) (hq : (fun x => x = fin) q) : Wk p l e { frames := 1, cells := 0, slots := 0, locals := 20 } s m args below meth c Γ A (ug G o r) (some (.int fin)) 0 2 [(0, .ref (ad Γ o)), (1, .int v1)] [] (ug G o r) := by
  intro H locs ls hw hS hl
  unfold fX2_hasSecrets at hf
  obtain ⟨hx, hb, hml, hr, hown, htw, hlocks, hE⟩ := id C
  have hown : s.vm.findClass RX2 = some m.cls := hown
  refine lv_iload_n hx hb dX2_hasSecrets_0 rfl (lv_at hl 1 rfl) ?_
  refine lv_if_lt (tgt := 16) hx hb dX2_hasSecrets_1 (by decide) (fun c3 => ?_) (fun c3 => ?_)
  · have hf := ifp c3 hf
    refine lv_iconst (v := 0) hx hb dX2_hasSecrets_16 (by decide) ?_
    obtain rfl := Option.some.inj hf
    subst hq
    exact rt_z C (Or.inl rfl) hw hS dX2_hasSecrets_17
  · have hf := ifn c3 hf
    refine lv_iload_n hx hb dX2_hasSecrets_4 rfl (lv_at hl 1 rfl) ?_
    refine lv_aload_n hx hb dX2_hasSecrets_5 rfl (lv_at hl 0 rfl) ?_
    obtain ⟨z1, hz1, hf⟩ := bd hf
    refine cl_Vs (rest := [.int v1]) (kX2_secretSets (l := l) (Γ := Γ) (A := A) (G := G) (o := o) hk hz1) ⟨hx, hb, hml, hown, htw⟩ hE hw hS (wo_me hw hk) (q0 := 0) rfl rfl mw860 mw851 mw852 mw120 mw853 pdX2_secretSets ⟨Nat.le_of_ble_eq_true rfl, Nat.le_of_ble_eq_true rfl⟩ rfl rfl hl.1 (Nat.le_of_ble_eq_true rfl) dX2_hasSecrets_6 (fun H locs hw hS => ?_)
    refine lv_icmp_ge (tgt := 16) hx hb dX2_hasSecrets_9 (by decide) (fun c2 => ?_) (fun c2 => ?_)
    · have hf := ifp c2 hf
      refine lv_iconst (v := 0) hx hb dX2_hasSecrets_16 (by decide) ?_
      obtain rfl := Option.some.inj hf
      subst hq
      exact rt_z C (Or.inl rfl) hw hS dX2_hasSecrets_17
    · have hf := ifn c2 hf
      refine lv_iconst (v := 1) hx hb dX2_hasSecrets_12 (by decide) ?_
      refine lv_goto (tgt := 17) hx hb dX2_hasSecrets_13 (by decide) ?_
      obtain rfl := Option.some.inj hf
      subst hq
      exact rt_z C (Or.inr rfl) hw hS dX2_hasSecrets_17

theorem kX2_hasSecrets {l : Launch} {Γ : Gm} {A : Nat → Prop} {G : Gs} {o : Nat} {r : Rec} {v1 : Int32} {fin : Int32} (hk : kd Γ o = some 2) (hf : fX2_hasSecrets r v1 = some fin) : Kt l yX2_hasSecrets cX2_hasSecrets 2 (some .boolean) 1 20 Γ A (ug G o r) (ug G o r) [.ref (ad Γ o), .int v1] (some (.int fin)) :=
  kt_of (by decide) (Nat.le_of_ble_eq_true rfl) (fun p e s m args below meth c C => wX2_hasSecrets_e C hk hf rfl)
theorem kgX2_hasSecrets {l : Launch} {Γ : Gm} {A : Nat → Prop} {G : Gs} {o : Nat} {v1 : Int32} {fin : Int32} (hk : kd Γ o = some 2) (hf : fX2_hasSecrets (G o) v1 = some fin) : Kt l yX2_hasSecrets cX2_hasSecrets 2 (some .boolean) 1 20 Γ A G G [.ref (ad Γ o), .int v1] (some (.int fin)) := by
  have h := kX2_hasSecrets (l := l) (A := A) (G := G) (r := G o) hk hf
  rw [ug_self] at h
  exact h
noncomputable def bX2_hasPieces_2 (g : Gs) (o : Nat) (v1 : Nat) (v2 : Int32) (v3 : Int32) : Option (Int32 ⊕ Int32) :=
  if (gi (g v1) 2) ≤ v3 then some (.inr (1)) else (fX5_cell (g v1) v3 v2).bind fun z1 => (fX2_hasPiece (g o) z1).bind fun z2 => if z2 = 0 then some (.inr (0)) else some (.inl (v3 + 1))
set_option maxRecDepth 100000 in
set_option maxHeartbeats 4000000 in
theorem wX2_hasPieces_2 {p : Program} {l : Launch} {e : Env} {s : State} {m : MethodId} {args : Array Value} {below : List Frame} {meth : Method} {c : Code} {Γ : Gm} {A : Nat → Prop} {o : Nat} {g : Gs} {v1 : Nat} {v2 : Int32} {v3 : Int32} {q : (Int32 ⊕ Int32)} {fin : Int32} (C : Cx p s m args meth c yX2_hasPieces cX2_hasPieces 4 (some .boolean) Γ A) (hk : kd Γ o = some 2) (hv1 : kd Γ v1 = some 5) (hf : bX2_hasPieces_2 g o v1 v2 v3 = some q) (hq : (KC (fun st : Int32 => Wk p l e { frames := 2, cells := 0, slots := 0, locals := 43 } s m args below meth c Γ A g (some (.int fin)) 2 4 [(0, .ref (ad Γ o)), (1, .ref (ad Γ v1)), (2, .int v2), (3, .int st)] [] g) (fun x => x = fin)) q) : Wk p l e { frames := 2, cells := 0, slots := 0, locals := 43 } s m args below meth c Γ A g (some (.int fin)) 2 4 [(0, .ref (ad Γ o)), (1, .ref (ad Γ v1)), (2, .int v2), (3, .int v3)] [] g := by
  intro H locs ls hw hS hl
  unfold bX2_hasPieces_2 at hf
  obtain ⟨hx, hb, hml, hr, hown, htw, hlocks, hE⟩ := id C
  have hown : s.vm.findClass RX2 = some m.cls := hown
  refine lv_iload_n hx hb dX2_hasPieces_2 rfl (lv_at hl 3 rfl) ?_
  refine lv_aload_n hx hb dX2_hasPieces_3 rfl (lv_at hl 1 rfl) ?_
  refine va_get (ci := 5) (v := .int (gi (g v1) 2)) (C := RX5) (T := TX5) (N := 3) hx hb htw uwX5 hown hE.1 (hw _ _ hv1) 0 rfl rfl 2 (by decide) (htw _ mw234) (fun _ h9 => h9) rfl dX2_hasPieces_4 ?_
  refine lv_icmp_ge (tgt := 31) hx hb dX2_hasPieces_7 (by decide) (fun c4 => ?_) (fun c4 => ?_)
  · have hf := ifp c4 hf
    refine lv_iconst (v := 1) hx hb dX2_hasPieces_31 (by decide) ?_
    obtain rfl := Option.some.inj hf
    have hq := hq.2 _ rfl
    subst hq
    exact rt_z C (Or.inr rfl) hw hS dX2_hasPieces_32
  · have hf := ifn c4 hf
    refine lv_aload_n hx hb dX2_hasPieces_10 rfl (lv_at hl 0 rfl) ?_
    refine lv_aload_n hx hb dX2_hasPieces_11 rfl (lv_at hl 1 rfl) ?_
    refine lv_iload_n hx hb dX2_hasPieces_12 rfl (lv_at hl 3 rfl) ?_
    refine lv_iload_n hx hb dX2_hasPieces_13 rfl (lv_at hl 2 rfl) ?_
    obtain ⟨z1, hz1, hf⟩ := bd hf
    refine cl_Vs (rest := [.ref (ad Γ o)]) (kgX5_cell (l := l) (Γ := Γ) (A := A) (G := g) (o := v1) hv1 hz1) ⟨hx, hb, hml, hown, htw⟩ hE hw hS (hw _ _ hv1) (q0 := 0) rfl rfl mw835 mw731 mw732 mw121 mw733 pdX5_cell ⟨Nat.le_of_ble_eq_true rfl, Nat.le_of_ble_eq_true rfl⟩ rfl rfl hl.1 (Nat.le_of_ble_eq_true rfl) dX2_hasPieces_14 (fun H locs hw hS => ?_)
    obtain ⟨z2, hz2, hf⟩ := bd hf
    refine cl_Vs (rest := []) (kgX2_hasPiece (l := l) (Γ := Γ) (A := A) (G := g) (o := o) hk hz2) ⟨hx, hb, hml, hown, htw⟩ hE hw hS (hw _ _ hk) (q0 := 0) rfl rfl mw682 mw683 mw684 mw120 mw685 pdX2_hasPiece ⟨Nat.le_of_ble_eq_true rfl, Nat.le_of_ble_eq_true rfl⟩ rfl rfl hl.1 (Nat.le_of_ble_eq_true rfl) dX2_hasPieces_17 (fun H locs hw hS => ?_)
    refine lv_if_ne (tgt := 25) hx hb dX2_hasPieces_20 (by decide) (fun c3 => ?_) (fun c3 => ?_)
    · have hf := ifn c3 hf
      refine lv_iinc (v := v3 + 1) (lv' := [(3, .int (v3 + 1)), (0, .ref (ad Γ o)), (1, .ref (ad Γ v1)), (2, .int v2)]) hx hb dX2_hasPieces_25 hl (k := 3) rfl (by rfl) (by decide) rfl (fun ls hl => ?_)
      refine lv_goto (tgt := 2) hx hb dX2_hasPieces_28 (by decide) ?_
      obtain rfl := Option.some.inj hf
      exact hq.1 _ rfl H locs ls hw hS (lv_sub hl [1, 2, 3, 0] rfl)
    · have hf := ifp c3 hf
      refine lv_iconst (v := 0) hx hb dX2_hasPieces_23 (by decide) ?_
      obtain rfl := Option.some.inj hf
      have hq := hq.2 _ rfl
      subst hq
      exact rt_z C (Or.inl rfl) hw hS dX2_hasPieces_24

set_option maxRecDepth 100000 in
set_option maxHeartbeats 4000000 in
theorem lwX2_hasPieces_2 {p : Program} {l : Launch} {e : Env} {s : State} {m : MethodId} {args : Array Value} {below : List Frame} {meth : Method} {c : Code} {Γ : Gm} {A : Nat → Prop} {o : Nat} {g : Gs} {v1 : Nat} {v2 : Int32} {v3 : Int32} {q : Int32} {fin : Int32} (C : Cx p s m args meth c yX2_hasPieces cX2_hasPieces 4 (some .boolean) Γ A) (hk : kd Γ o = some 2) (hv1 : kd Γ v1 = some 5) (hf : iter (fun st : Int32 => bX2_hasPieces_2 g o v1 v2 st) v3 = some q) (hq : (fun x => x = fin) q) : Wk p l e { frames := 2, cells := 0, slots := 0, locals := 43 } s m args below meth c Γ A g (some (.int fin)) 2 4 [(0, .ref (ad Γ o)), (1, .ref (ad Γ v1)), (2, .int v2), (3, .int v3)] [] g := by
  intro H locs ls hw hS hl
  refine iter_walk (P := (fun st : Int32 => Wk p l e { frames := 2, cells := 0, slots := 0, locals := 43 } s m args below meth c Γ A g (some (.int fin)) 2 4 [(0, .ref (ad Γ o)), (1, .ref (ad Γ v1)), (2, .int v2), (3, .int st)] [] g)) (K := (fun x => x = fin)) (fun st q hq1 h1 h2 => ?_) hf hq H locs ls hw hS hl
  exact wX2_hasPieces_2 (v3 := st) C hk hv1 hq1 ⟨h1, h2⟩

noncomputable def fX2_hasPieces (g : Gs) (o : Nat) (v1 : Nat) (v2 : Int32) : Option Int32 :=
  iter (fun st : Int32 => bX2_hasPieces_2 g o v1 v2 st) 0
set_option maxRecDepth 100000 in
set_option maxHeartbeats 4000000 in
theorem wX2_hasPieces_e {p : Program} {l : Launch} {e : Env} {s : State} {m : MethodId} {args : Array Value} {below : List Frame} {meth : Method} {c : Code} {Γ : Gm} {A : Nat → Prop} {o : Nat} {g : Gs} {v1 : Nat} {v2 : Int32} {q : Int32} {fin : Int32} (C : Cx p s m args meth c yX2_hasPieces cX2_hasPieces 4 (some .boolean) Γ A) (hk : kd Γ o = some 2) (hv1 : kd Γ v1 = some 5) (hf : fX2_hasPieces g o v1 v2 = some q) (hq : (fun x => x = fin) q) : Wk p l e { frames := 2, cells := 0, slots := 0, locals := 43 } s m args below meth c Γ A g (some (.int fin)) 0 4 [(0, .ref (ad Γ o)), (1, .ref (ad Γ v1)), (2, .int v2)] [] g := by
  intro H locs ls hw hS hl
  unfold fX2_hasPieces at hf
  obtain ⟨hx, hb, hml, hr, hown, htw, hlocks, hE⟩ := id C
  have hown : s.vm.findClass RX2 = some m.cls := hown
  refine lv_iconst (v := 0) hx hb dX2_hasPieces_0 (by decide) ?_
  refine lv_istore_n (lv' := [(3, .int 0), (0, .ref (ad Γ o)), (1, .ref (ad Γ v1)), (2, .int v2)]) hx hb dX2_hasPieces_1 rfl hl (by decide) rfl (fun ls hl => ?_)
  exact lwX2_hasPieces_2 C hk hv1 hf hq H locs ls hw hS (lv_sub hl [1, 2, 3, 0] rfl)

theorem kX2_hasPieces {l : Launch} {Γ : Gm} {A : Nat → Prop} {o : Nat} {g : Gs} {v1 : Nat} {v2 : Int32} {fin : Int32} (hk : kd Γ o = some 2) (hv1 : kd Γ v1 = some 5) (hf : fX2_hasPieces g o v1 v2 = some fin) : Kt l yX2_hasPieces cX2_hasPieces 4 (some .boolean) 2 43 Γ A g g [.ref (ad Γ o), .ref (ad Γ v1), .int v2] (some (.int fin)) :=
  kt_of (by decide) (Nat.le_of_ble_eq_true rfl) (fun p e s m args below meth c C => wX2_hasPieces_e C hk hv1 hf rfl)
noncomputable def fX2_allSecrets (r : Rec) : Option Int32 :=
  (fX2_secretSets r).bind fun z1 => some (z1 - 1)
set_option maxRecDepth 100000 in
set_option maxHeartbeats 4000000 in
theorem wX2_allSecrets_e {p : Program} {l : Launch} {e : Env} {s : State} {m : MethodId} {args : Array Value} {below : List Frame} {meth : Method} {c : Code} {Γ : Gm} {A : Nat → Prop} {G : Gs} {o : Nat} {r : Rec} {q : Int32} {fin : Int32} (C : Cx p s m args meth c yX2_allSecrets cX2_allSecrets 1 (some .int) Γ A) (hk : kd Γ o = some 2) (hf : fX2_allSecrets r = some q) (hq : (fun x => x = fin) q) : Wk p l e { frames := 1, cells := 0, slots := 0, locals := 20 } s m args below meth c Γ A (ug G o r) (some (.int fin)) 0 1 [(0, .ref (ad Γ o))] [] (ug G o r) := by
  intro H locs ls hw hS hl
  unfold fX2_allSecrets at hf
  obtain ⟨hx, hb, hml, hr, hown, htw, hlocks, hE⟩ := id C
  have hown : s.vm.findClass RX2 = some m.cls := hown
  refine lv_aload_n hx hb dX2_allSecrets_0 rfl (lv_at hl 0 rfl) ?_
  obtain ⟨z1, hz1, hf⟩ := bd hf
  refine cl_Vs (rest := []) (kX2_secretSets (l := l) (Γ := Γ) (A := A) (G := G) (o := o) hk hz1) ⟨hx, hb, hml, hown, htw⟩ hE hw hS (wo_me hw hk) (q0 := 0) rfl rfl mw860 mw851 mw852 mw120 mw853 pdX2_secretSets ⟨Nat.le_of_ble_eq_true rfl, Nat.le_of_ble_eq_true rfl⟩ rfl rfl hl.1 (Nat.le_of_ble_eq_true rfl) dX2_allSecrets_1 (fun H locs hw hS => ?_)
  refine lv_iconst (v := 1) hx hb dX2_allSecrets_4 (by decide) ?_
  refine lv_isub hx hb dX2_allSecrets_5 ?_
  obtain rfl := Option.some.inj hf
  subst hq
  exact rt_i C hw hS dX2_allSecrets_6

theorem kX2_allSecrets {l : Launch} {Γ : Gm} {A : Nat → Prop} {G : Gs} {o : Nat} {r : Rec} {fin : Int32} (hk : kd Γ o = some 2) (hf : fX2_allSecrets r = some fin) : Kt l yX2_allSecrets cX2_allSecrets 1 (some .int) 1 20 Γ A (ug G o r) (ug G o r) [.ref (ad Γ o)] (some (.int fin)) :=
  kt_of (by decide) (Nat.le_of_ble_eq_true rfl) (fun p e s m args below meth c C => wX2_allSecrets_e C hk hf rfl)
theorem kgX2_allSecrets {l : Launch} {Γ : Gm} {A : Nat → Prop} {G : Gs} {o : Nat} {fin : Int32} (hk : kd Γ o = some 2) (hf : fX2_allSecrets (G o) = some fin) : Kt l yX2_allSecrets cX2_allSecrets 1 (some .int) 1 20 Γ A G G [.ref (ad Γ o)] (some (.int fin)) := by
  have h := kX2_allSecrets (l := l) (A := A) (G := G) (r := G o) hk hf
  rw [ug_self] at h
  exact h
noncomputable def fX2_allPieces (r : Rec) : Option Int32 :=
  some (((1 : Int32) <<< ((gi r 0) &&& 31)) - 1)
set_option maxRecDepth 100000 in
set_option maxHeartbeats 4000000 in
theorem wX2_allPieces_e {p : Program} {l : Launch} {e : Env} {s : State} {m : MethodId} {args : Array Value} {below : List Frame} {meth : Method} {c : Code} {Γ : Gm} {A : Nat → Prop} {G : Gs} {o : Nat} {r : Rec} {q : Int32} {fin : Int32} (C : Cx p s m args meth c yX2_allPieces cX2_allPieces 1 (some .int) Γ A) (hk : kd Γ o = some 2) (hf : fX2_allPieces r = some q) (hq : (fun x => x = fin) q) : Wk p l e { frames := 0, cells := 0, slots := 0, locals := 0 } s m args below meth c Γ A (ug G o r) (some (.int fin)) 0 1 [(0, .ref (ad Γ o))] [] (ug G o r) := by
  intro H locs ls hw hS hl
  unfold fX2_allPieces at hf
  obtain ⟨hx, hb, hml, hr, hown, htw, hlocks, hE⟩ := id C
  have hown : s.vm.findClass RX2 = some m.cls := hown
  refine lv_iconst (v := 1) hx hb dX2_allPieces_0 (by decide) ?_
  refine lv_aload_n hx hb dX2_allPieces_1 rfl (lv_at hl 0 rfl) ?_
  refine va_get (ci := 2) (v := .int (gi r 0)) (C := RX2) (T := TX2) (N := 11) hx hb htw uwX2 hown hE.1 (wo_me hw hk) 0 rfl rfl 0 (by decide) (htw _ mw160) (fun _ h9 => h9) rfl dX2_allPieces_2 ?_
  refine lv_ishl hx hb dX2_allPieces_5 ?_
  refine lv_iconst (v := 1) hx hb dX2_allPieces_6 (by decide) ?_
  refine lv_isub hx hb dX2_allPieces_7 ?_
  obtain rfl := Option.some.inj hf
  subst hq
  exact rt_i C hw hS dX2_allPieces_8

theorem kX2_allPieces {l : Launch} {Γ : Gm} {A : Nat → Prop} {G : Gs} {o : Nat} {r : Rec} {fin : Int32} (hk : kd Γ o = some 2) (hf : fX2_allPieces r = some fin) : Kt l yX2_allPieces cX2_allPieces 1 (some .int) 0 0 Γ A (ug G o r) (ug G o r) [.ref (ad Γ o)] (some (.int fin)) :=
  kt_of (by decide) (Nat.le_of_ble_eq_true rfl) (fun p e s m args below meth c C => wX2_allPieces_e C hk hf rfl)
theorem kgX2_allPieces {l : Launch} {Γ : Gm} {A : Nat → Prop} {G : Gs} {o : Nat} {fin : Int32} (hk : kd Γ o = some 2) (hf : fX2_allPieces (G o) = some fin) : Kt l yX2_allPieces cX2_allPieces 1 (some .int) 0 0 Γ A G G [.ref (ad Γ o)] (some (.int fin)) := by
  have h := kX2_allPieces (l := l) (A := A) (G := G) (r := G o) hk hf
  rw [ug_self] at h
  exact h
noncomputable def fX2_pieceDetail (r : Rec) (v1 : Int32) (v2 : Int32) : Option Int32 :=
  if v1 = 1 then gd (inR v2 8) (some (ga r 3 (Int32.toNatClampNeg v2))) else if v1 = 2 then gd (inR v2 8) (some (ga r 4 (Int32.toNatClampNeg v2))) else if v1 = 3 then gd (inR v2 8) (some (ga r 5 (Int32.toNatClampNeg v2))) else some ((-1))
set_option maxRecDepth 100000 in
set_option maxHeartbeats 4000000 in
theorem wX2_pieceDetail_e {p : Program} {l : Launch} {e : Env} {s : State} {m : MethodId} {args : Array Value} {below : List Frame} {meth : Method} {c : Code} {Γ : Gm} {A : Nat → Prop} {G : Gs} {o : Nat} {r : Rec} {v1 : Int32} {v2 : Int32} {q : Int32} {fin : Int32} (C : Cx p s m args meth c yX2_pieceDetail cX2_pieceDetail 3 (some .int) Γ A) (hk : kd Γ o = some 2) (hf : fX2_pieceDetail r v1 v2 = some q) (hq : (fun x => x = fin) q) : Wk p l e { frames := 0, cells := 0, slots := 0, locals := 0 } s m args below meth c Γ A (ug G o r) (some (.int fin)) 0 3 [(0, .ref (ad Γ o)), (1, .int v1), (2, .int v2)] [] (ug G o r) := by
  intro H locs ls hw hS hl
  unfold fX2_pieceDetail at hf
  obtain ⟨hx, hb, hml, hr, hown, htw, hlocks, hE⟩ := id C
  have hown : s.vm.findClass RX2 = some m.cls := hown
  refine lv_iload_n hx hb dX2_pieceDetail_0 rfl (lv_at hl 1 rfl) ?_
  by_cases c4 : v1 = 1
  · have hf := ifp c4 hf
    rw [c4]
    refine lv_tableIn (off := 27) (tgt := 28) hx hb dX2_pieceDetail_1 (by decide) (by decide) (by rfl) (by decide) ?_
    refine lv_aload_n hx hb dX2_pieceDetail_28 rfl (lv_at hl 0 rfl) ?_
    refine va_get (ci := 2) (v := .ref (aa Γ o 3)) (C := RX2) (T := TX2) (N := 11) hx hb htw uwX2 hown hE.1 (wo_me hw hk) 0 rfl rfl 3 (by decide) (htw _ mw173) (fun _ h9 => h9) rfl dX2_pieceDetail_29 ?_
    refine lv_iload_n hx hb dX2_pieceDetail_32 rfl (lv_at hl 2 rfl) ?_
    obtain ⟨g1, hf⟩ := gd_some hf
    refine va_iald hx hb hE.1 (wo_me hw hk) 1 0 rfl rfl (inR_in g1) dX2_pieceDetail_33 ?_
    obtain rfl := Option.some.inj hf
    subst hq
    exact rt_i C hw hS dX2_pieceDetail_34
  have hf := ifn c4 hf
  by_cases c5 : v1 = 2
  · have hf := ifp c5 hf
    rw [c5]
    refine lv_tableIn (off := 34) (tgt := 35) hx hb dX2_pieceDetail_1 (by decide) (by decide) (by rfl) (by decide) ?_
    refine lv_aload_n hx hb dX2_pieceDetail_35 rfl (lv_at hl 0 rfl) ?_
    refine va_get (ci := 2) (v := .ref (aa Γ o 4)) (C := RX2) (T := TX2) (N := 11) hx hb htw uwX2 hown hE.1 (wo_me hw hk) 0 rfl rfl 4 (by decide) (htw _ mw175) (fun _ h9 => h9) rfl dX2_pieceDetail_36 ?_
    refine lv_iload_n hx hb dX2_pieceDetail_39 rfl (lv_at hl 2 rfl) ?_
    obtain ⟨g2, hf⟩ := gd_some hf
    refine va_iald hx hb hE.1 (wo_me hw hk) 2 0 rfl rfl (inR_in g2) dX2_pieceDetail_40 ?_
    obtain rfl := Option.some.inj hf
    subst hq
    exact rt_i C hw hS dX2_pieceDetail_41
  have hf := ifn c5 hf
  by_cases c6 : v1 = 3
  · have hf := ifp c6 hf
    rw [c6]
    refine lv_tableIn (off := 41) (tgt := 42) hx hb dX2_pieceDetail_1 (by decide) (by decide) (by rfl) (by decide) ?_
    refine lv_aload_n hx hb dX2_pieceDetail_42 rfl (lv_at hl 0 rfl) ?_
    refine va_get (ci := 2) (v := .ref (aa Γ o 5)) (C := RX2) (T := TX2) (N := 11) hx hb htw uwX2 hown hE.1 (wo_me hw hk) 0 rfl rfl 5 (by decide) (htw _ mw178) (fun _ h9 => h9) rfl dX2_pieceDetail_43 ?_
    refine lv_iload_n hx hb dX2_pieceDetail_46 rfl (lv_at hl 2 rfl) ?_
    obtain ⟨g3, hf⟩ := gd_some hf
    refine va_iald hx hb hE.1 (wo_me hw hk) 3 0 rfl rfl (inR_in g3) dX2_pieceDetail_47 ?_
    obtain rfl := Option.some.inj hf
    subst hq
    exact rt_i C hw hS dX2_pieceDetail_48
  have hf := ifn c6 hf
  refine lv_tableOut (tgt := 49) hx hb dX2_pieceDetail_1 (by have := And.intro (ts_ne (k := 1) (by decide) c4) (And.intro (ts_ne (k := 2) (by decide) c5) (And.intro (ts_ne (k := 3) (by decide) c6) (True.intro))); omega) (by decide) ?_
  refine lv_iconst (v := (-1)) hx hb dX2_pieceDetail_49 (by decide) ?_
  obtain rfl := Option.some.inj hf
  subst hq
  exact rt_i C hw hS dX2_pieceDetail_50

theorem kX2_pieceDetail {l : Launch} {Γ : Gm} {A : Nat → Prop} {G : Gs} {o : Nat} {r : Rec} {v1 : Int32} {v2 : Int32} {fin : Int32} (hk : kd Γ o = some 2) (hf : fX2_pieceDetail r v1 v2 = some fin) : Kt l yX2_pieceDetail cX2_pieceDetail 3 (some .int) 0 0 Γ A (ug G o r) (ug G o r) [.ref (ad Γ o), .int v1, .int v2] (some (.int fin)) :=
  kt_of (by decide) (Nat.le_of_ble_eq_true rfl) (fun p e s m args below meth c C => wX2_pieceDetail_e C hk hf rfl)
theorem kgX2_pieceDetail {l : Launch} {Γ : Gm} {A : Nat → Prop} {G : Gs} {o : Nat} {v1 : Int32} {v2 : Int32} {fin : Int32} (hk : kd Γ o = some 2) (hf : fX2_pieceDetail (G o) v1 v2 = some fin) : Kt l yX2_pieceDetail cX2_pieceDetail 3 (some .int) 0 0 Γ A G G [.ref (ad Γ o), .int v1, .int v2] (some (.int fin)) := by
  have h := kX2_pieceDetail (l := l) (A := A) (G := G) (r := G o) hk hf
  rw [ug_self] at h
  exact h
noncomputable def fX2_secretDetail (r : Rec) (v1 : Int32) (v2 : Int32) : Option Int32 :=
  if v1 = 4 then gd (inR v2 10) (some (ga r 6 (Int32.toNatClampNeg v2))) else gd (inR v2 10) (some (ga r 7 (Int32.toNatClampNeg v2)))
set_option maxRecDepth 100000 in
set_option maxHeartbeats 4000000 in
theorem wX2_secretDetail_e {p : Program} {l : Launch} {e : Env} {s : State} {m : MethodId} {args : Array Value} {below : List Frame} {meth : Method} {c : Code} {Γ : Gm} {A : Nat → Prop} {G : Gs} {o : Nat} {r : Rec} {v1 : Int32} {v2 : Int32} {q : Int32} {fin : Int32} (C : Cx p s m args meth c yX2_secretDetail cX2_secretDetail 3 (some .int) Γ A) (hk : kd Γ o = some 2) (hf : fX2_secretDetail r v1 v2 = some q) (hq : (fun x => x = fin) q) : Wk p l e { frames := 0, cells := 0, slots := 0, locals := 0 } s m args below meth c Γ A (ug G o r) (some (.int fin)) 0 3 [(0, .ref (ad Γ o)), (1, .int v1), (2, .int v2)] [] (ug G o r) := by
  intro H locs ls hw hS hl
  unfold fX2_secretDetail at hf
  obtain ⟨hx, hb, hml, hr, hown, htw, hlocks, hE⟩ := id C
  have hown : s.vm.findClass RX2 = some m.cls := hown
  refine lv_iload_n hx hb dX2_secretDetail_0 rfl (lv_at hl 1 rfl) ?_
  refine lv_iconst (v := 4) hx hb dX2_secretDetail_1 (by decide) ?_
  refine lv_icmp_ne (tgt := 14) hx hb dX2_secretDetail_2 (by decide) (fun c3 => ?_) (fun c3 => ?_)
  · have hf := ifn c3 hf
    refine lv_aload_n hx hb dX2_secretDetail_14 rfl (lv_at hl 0 rfl) ?_
    refine va_get (ci := 2) (v := .ref (aa Γ o 7)) (C := RX2) (T := TX2) (N := 11) hx hb htw uwX2 hown hE.1 (wo_me hw hk) 0 rfl rfl 7 (by decide) (htw _ mw184) (fun _ h9 => h9) rfl dX2_secretDetail_15 ?_
    refine lv_iload_n hx hb dX2_secretDetail_18 rfl (lv_at hl 2 rfl) ?_
    obtain ⟨g1, hf⟩ := gd_some hf
    refine va_iald hx hb hE.1 (wo_me hw hk) 5 0 rfl rfl (inR_in g1) dX2_secretDetail_19 ?_
    obtain rfl := Option.some.inj hf
    subst hq
    exact rt_i C hw hS dX2_secretDetail_20
  · have hf := ifp c3 hf
    refine lv_aload_n hx hb dX2_secretDetail_5 rfl (lv_at hl 0 rfl) ?_
    refine va_get (ci := 2) (v := .ref (aa Γ o 6)) (C := RX2) (T := TX2) (N := 11) hx hb htw uwX2 hown hE.1 (wo_me hw hk) 0 rfl rfl 6 (by decide) (htw _ mw181) (fun _ h9 => h9) rfl dX2_secretDetail_6 ?_
    refine lv_iload_n hx hb dX2_secretDetail_9 rfl (lv_at hl 2 rfl) ?_
    obtain ⟨g2, hf⟩ := gd_some hf
    refine va_iald hx hb hE.1 (wo_me hw hk) 4 0 rfl rfl (inR_in g2) dX2_secretDetail_10 ?_
    refine lv_goto (tgt := 20) hx hb dX2_secretDetail_11 (by decide) ?_
    obtain rfl := Option.some.inj hf
    subst hq
    exact rt_i C hw hS dX2_secretDetail_20

theorem kX2_secretDetail {l : Launch} {Γ : Gm} {A : Nat → Prop} {G : Gs} {o : Nat} {r : Rec} {v1 : Int32} {v2 : Int32} {fin : Int32} (hk : kd Γ o = some 2) (hf : fX2_secretDetail r v1 v2 = some fin) : Kt l yX2_secretDetail cX2_secretDetail 3 (some .int) 0 0 Γ A (ug G o r) (ug G o r) [.ref (ad Γ o), .int v1, .int v2] (some (.int fin)) :=
  kt_of (by decide) (Nat.le_of_ble_eq_true rfl) (fun p e s m args below meth c C => wX2_secretDetail_e C hk hf rfl)
theorem kgX2_secretDetail {l : Launch} {Γ : Gm} {A : Nat → Prop} {G : Gs} {o : Nat} {v1 : Int32} {v2 : Int32} {fin : Int32} (hk : kd Γ o = some 2) (hf : fX2_secretDetail (G o) v1 v2 = some fin) : Kt l yX2_secretDetail cX2_secretDetail 3 (some .int) 0 0 Γ A G G [.ref (ad Γ o), .int v1, .int v2] (some (.int fin)) := by
  have h := kX2_secretDetail (l := l) (A := A) (G := G) (r := G o) hk hf
  rw [ug_self] at h
  exact h
noncomputable def fX2_linkDetail (r : Rec) (v1 : Int32) (v2 : Int32) : Option Int32 :=
  if v1 = 6 then gd (inR v2 8) (some (ga r 8 (Int32.toNatClampNeg v2))) else if v1 = 7 then gd (inR v2 8) (some (ga r 9 (Int32.toNatClampNeg v2))) else if v1 = 8 then gd (inR v2 8) (some (ga r 10 (Int32.toNatClampNeg v2))) else some ((-1))
set_option maxRecDepth 100000 in
set_option maxHeartbeats 4000000 in
theorem wX2_linkDetail_e {p : Program} {l : Launch} {e : Env} {s : State} {m : MethodId} {args : Array Value} {below : List Frame} {meth : Method} {c : Code} {Γ : Gm} {A : Nat → Prop} {G : Gs} {o : Nat} {r : Rec} {v1 : Int32} {v2 : Int32} {q : Int32} {fin : Int32} (C : Cx p s m args meth c yX2_linkDetail cX2_linkDetail 3 (some .int) Γ A) (hk : kd Γ o = some 2) (hf : fX2_linkDetail r v1 v2 = some q) (hq : (fun x => x = fin) q) : Wk p l e { frames := 0, cells := 0, slots := 0, locals := 0 } s m args below meth c Γ A (ug G o r) (some (.int fin)) 0 3 [(0, .ref (ad Γ o)), (1, .int v1), (2, .int v2)] [] (ug G o r) := by
  intro H locs ls hw hS hl
  unfold fX2_linkDetail at hf
  obtain ⟨hx, hb, hml, hr, hown, htw, hlocks, hE⟩ := id C
  have hown : s.vm.findClass RX2 = some m.cls := hown
  refine lv_iload_n hx hb dX2_linkDetail_0 rfl (lv_at hl 1 rfl) ?_
  by_cases c4 : v1 = 6
  · have hf := ifp c4 hf
    rw [c4]
    refine lv_tableIn (off := 27) (tgt := 28) hx hb dX2_linkDetail_1 (by decide) (by decide) (by rfl) (by decide) ?_
    refine lv_aload_n hx hb dX2_linkDetail_28 rfl (lv_at hl 0 rfl) ?_
    refine va_get (ci := 2) (v := .ref (aa Γ o 8)) (C := RX2) (T := TX2) (N := 11) hx hb htw uwX2 hown hE.1 (wo_me hw hk) 0 rfl rfl 8 (by decide) (htw _ mw188) (fun _ h9 => h9) rfl dX2_linkDetail_29 ?_
    refine lv_iload_n hx hb dX2_linkDetail_32 rfl (lv_at hl 2 rfl) ?_
    obtain ⟨g1, hf⟩ := gd_some hf
    refine va_iald hx hb hE.1 (wo_me hw hk) 6 0 rfl rfl (inR_in g1) dX2_linkDetail_33 ?_
    obtain rfl := Option.some.inj hf
    subst hq
    exact rt_i C hw hS dX2_linkDetail_34
  have hf := ifn c4 hf
  by_cases c5 : v1 = 7
  · have hf := ifp c5 hf
    rw [c5]
    refine lv_tableIn (off := 34) (tgt := 35) hx hb dX2_linkDetail_1 (by decide) (by decide) (by rfl) (by decide) ?_
    refine lv_aload_n hx hb dX2_linkDetail_35 rfl (lv_at hl 0 rfl) ?_
    refine va_get (ci := 2) (v := .ref (aa Γ o 9)) (C := RX2) (T := TX2) (N := 11) hx hb htw uwX2 hown hE.1 (wo_me hw hk) 0 rfl rfl 9 (by decide) (htw _ mw189) (fun _ h9 => h9) rfl dX2_linkDetail_36 ?_
    refine lv_iload_n hx hb dX2_linkDetail_39 rfl (lv_at hl 2 rfl) ?_
    obtain ⟨g2, hf⟩ := gd_some hf
    refine va_iald hx hb hE.1 (wo_me hw hk) 7 0 rfl rfl (inR_in g2) dX2_linkDetail_40 ?_
    obtain rfl := Option.some.inj hf
    subst hq
    exact rt_i C hw hS dX2_linkDetail_41
  have hf := ifn c5 hf
  by_cases c6 : v1 = 8
  · have hf := ifp c6 hf
    rw [c6]
    refine lv_tableIn (off := 41) (tgt := 42) hx hb dX2_linkDetail_1 (by decide) (by decide) (by rfl) (by decide) ?_
    refine lv_aload_n hx hb dX2_linkDetail_42 rfl (lv_at hl 0 rfl) ?_
    refine va_get (ci := 2) (v := .ref (aa Γ o 10)) (C := RX2) (T := TX2) (N := 11) hx hb htw uwX2 hown hE.1 (wo_me hw hk) 0 rfl rfl 10 (by decide) (htw _ mw190) (fun _ h9 => h9) rfl dX2_linkDetail_43 ?_
    refine lv_iload_n hx hb dX2_linkDetail_46 rfl (lv_at hl 2 rfl) ?_
    obtain ⟨g3, hf⟩ := gd_some hf
    refine va_iald hx hb hE.1 (wo_me hw hk) 8 0 rfl rfl (inR_in g3) dX2_linkDetail_47 ?_
    obtain rfl := Option.some.inj hf
    subst hq
    exact rt_i C hw hS dX2_linkDetail_48
  have hf := ifn c6 hf
  refine lv_tableOut (tgt := 49) hx hb dX2_linkDetail_1 (by have := And.intro (ts_ne (k := 6) (by decide) c4) (And.intro (ts_ne (k := 7) (by decide) c5) (And.intro (ts_ne (k := 8) (by decide) c6) (True.intro))); omega) (by decide) ?_
  refine lv_iconst (v := (-1)) hx hb dX2_linkDetail_49 (by decide) ?_
  obtain rfl := Option.some.inj hf
  subst hq
  exact rt_i C hw hS dX2_linkDetail_50

theorem kX2_linkDetail {l : Launch} {Γ : Gm} {A : Nat → Prop} {G : Gs} {o : Nat} {r : Rec} {v1 : Int32} {v2 : Int32} {fin : Int32} (hk : kd Γ o = some 2) (hf : fX2_linkDetail r v1 v2 = some fin) : Kt l yX2_linkDetail cX2_linkDetail 3 (some .int) 0 0 Γ A (ug G o r) (ug G o r) [.ref (ad Γ o), .int v1, .int v2] (some (.int fin)) :=
  kt_of (by decide) (Nat.le_of_ble_eq_true rfl) (fun p e s m args below meth c C => wX2_linkDetail_e C hk hf rfl)
theorem kgX2_linkDetail {l : Launch} {Γ : Gm} {A : Nat → Prop} {G : Gs} {o : Nat} {v1 : Int32} {v2 : Int32} {fin : Int32} (hk : kd Γ o = some 2) (hf : fX2_linkDetail (G o) v1 v2 = some fin) : Kt l yX2_linkDetail cX2_linkDetail 3 (some .int) 0 0 Γ A G G [.ref (ad Γ o), .int v1, .int v2] (some (.int fin)) := by
  have h := kX2_linkDetail (l := l) (A := A) (G := G) (r := G o) hk hf
  rw [ug_self] at h
  exact h
noncomputable def fX2_detail (r : Rec) (v1 : Int32) (v2 : Int32) : Option Int32 :=
  if 3 < v1 then if 5 < v1 then if v2 < 0 then some ((-1)) else if (gi r 2) ≤ v2 then some ((-1)) else (fX2_linkDetail r v1 v2).bind fun z1 => some (z1) else (fX2_hasSecret r v2).bind fun z4 => if z4 = 0 then some ((-1)) else (fX2_secretDetail r v1 v2).bind fun z5 => some (z5) else (fX2_hasPiece r v2).bind fun z8 => if z8 = 0 then some ((-1)) else (fX2_pieceDetail r v1 v2).bind fun z9 => some (z9)
set_option maxRecDepth 100000 in
set_option maxHeartbeats 4000000 in
theorem wX2_detail_e {p : Program} {l : Launch} {e : Env} {s : State} {m : MethodId} {args : Array Value} {below : List Frame} {meth : Method} {c : Code} {Γ : Gm} {A : Nat → Prop} {G : Gs} {o : Nat} {r : Rec} {v1 : Int32} {v2 : Int32} {q : Int32} {fin : Int32} (C : Cx p s m args meth c yX2_detail cX2_detail 3 (some .int) Γ A) (hk : kd Γ o = some 2) (hf : fX2_detail r v1 v2 = some q) (hq : (fun x => x = fin) q) : Wk p l e { frames := 1, cells := 0, slots := 0, locals := 22 } s m args below meth c Γ A (ug G o r) (some (.int fin)) 0 3 [(0, .ref (ad Γ o)), (1, .int v1), (2, .int v2)] [] (ug G o r) := by
  intro H locs ls hw hS hl
  unfold fX2_detail at hf
  obtain ⟨hx, hb, hml, hr, hown, htw, hlocks, hE⟩ := id C
  have hown : s.vm.findClass RX2 = some m.cls := hown
  refine lv_iload_n hx hb dX2_detail_0 rfl (lv_at hl 1 rfl) ?_
  refine lv_iconst (v := 3) hx hb dX2_detail_1 (by decide) ?_
  refine lv_icmp_gt (tgt := 24) hx hb dX2_detail_2 (by decide) (fun c11 => ?_) (fun c11 => ?_)
  · have hf := ifp c11 hf
    refine lv_iload_n hx hb dX2_detail_24 rfl (lv_at hl 1 rfl) ?_
    refine lv_iconst (v := 5) hx hb dX2_detail_25 (by decide) ?_
    refine lv_icmp_gt (tgt := 48) hx hb dX2_detail_26 (by decide) (fun c7 => ?_) (fun c7 => ?_)
    · have hf := ifp c7 hf
      refine lv_iload_n hx hb dX2_detail_48 rfl (lv_at hl 2 rfl) ?_
      refine lv_if_lt (tgt := 69) hx hb dX2_detail_49 (by decide) (fun c3 => ?_) (fun c3 => ?_)
      · have hf := ifp c3 hf
        refine lv_iconst (v := (-1)) hx hb dX2_detail_69 (by decide) ?_
        obtain rfl := Option.some.inj hf
        subst hq
        exact rt_i C hw hS dX2_detail_70
      · have hf := ifn c3 hf
        refine lv_iload_n hx hb dX2_detail_52 rfl (lv_at hl 2 rfl) ?_
        refine lv_aload_n hx hb dX2_detail_53 rfl (lv_at hl 0 rfl) ?_
        refine va_get (ci := 2) (v := .int (gi r 2)) (C := RX2) (T := TX2) (N := 11) hx hb htw uwX2 hown hE.1 (wo_me hw hk) 0 rfl rfl 2 (by decide) (htw _ mw171) (fun _ h9 => h9) rfl dX2_detail_54 ?_
        refine lv_icmp_ge (tgt := 69) hx hb dX2_detail_57 (by decide) (fun c2 => ?_) (fun c2 => ?_)
        · have hf := ifp c2 hf
          refine lv_iconst (v := (-1)) hx hb dX2_detail_69 (by decide) ?_
          obtain rfl := Option.some.inj hf
          subst hq
          exact rt_i C hw hS dX2_detail_70
        · have hf := ifn c2 hf
          refine lv_aload_n hx hb dX2_detail_60 rfl (lv_at hl 0 rfl) ?_
          refine lv_iload_n hx hb dX2_detail_61 rfl (lv_at hl 1 rfl) ?_
          refine lv_iload_n hx hb dX2_detail_62 rfl (lv_at hl 2 rfl) ?_
          obtain ⟨z1, hz1, hf⟩ := bd hf
          refine cl_Vs (rest := []) (kX2_linkDetail (l := l) (Γ := Γ) (A := A) (G := G) (o := o) hk hz1) ⟨hx, hb, hml, hown, htw⟩ hE hw hS (wo_me hw hk) (q0 := 0) rfl rfl mw698 mw700 mw16 mw120 mw701 pdX2_linkDetail ⟨Nat.le_of_ble_eq_true rfl, Nat.le_of_ble_eq_true rfl⟩ rfl rfl hl.1 (Nat.le_of_ble_eq_true rfl) dX2_detail_63 (fun H locs hw hS => ?_)
          refine lv_goto (tgt := 70) hx hb dX2_detail_66 (by decide) ?_
          obtain rfl := Option.some.inj hf
          subst hq
          exact rt_i C hw hS dX2_detail_70
    · have hf := ifn c7 hf
      refine lv_aload_n hx hb dX2_detail_29 rfl (lv_at hl 0 rfl) ?_
      refine lv_iload_n hx hb dX2_detail_30 rfl (lv_at hl 2 rfl) ?_
      obtain ⟨z4, hz4, hf⟩ := bd hf
      refine cl_Vs (rest := []) (kX2_hasSecret (l := l) (Γ := Γ) (A := A) (G := G) (o := o) hk hz4) ⟨hx, hb, hml, hown, htw⟩ hE hw hS (wo_me hw hk) (q0 := 0) rfl rfl mw690 mw691 mw692 mw120 mw693 pdX2_hasSecret ⟨Nat.le_of_ble_eq_true rfl, Nat.le_of_ble_eq_true rfl⟩ rfl rfl hl.1 (Nat.le_of_ble_eq_true rfl) dX2_detail_31 (fun H locs hw hS => ?_)
      refine lv_if_eq (tgt := 46) hx hb dX2_detail_34 (by decide) (fun c6 => ?_) (fun c6 => ?_)
      · have hf := ifp c6 hf
        refine lv_iconst (v := (-1)) hx hb dX2_detail_46 (by decide) ?_
        obtain rfl := Option.some.inj hf
        subst hq
        exact rt_i C hw hS dX2_detail_47
      · have hf := ifn c6 hf
        refine lv_aload_n hx hb dX2_detail_37 rfl (lv_at hl 0 rfl) ?_
        refine lv_iload_n hx hb dX2_detail_38 rfl (lv_at hl 1 rfl) ?_
        refine lv_iload_n hx hb dX2_detail_39 rfl (lv_at hl 2 rfl) ?_
        obtain ⟨z5, hz5, hf⟩ := bd hf
        refine cl_Vs (rest := []) (kX2_secretDetail (l := l) (Γ := Γ) (A := A) (G := G) (o := o) hk hz5) ⟨hx, hb, hml, hown, htw⟩ hE hw hS (wo_me hw hk) (q0 := 0) rfl rfl mw694 mw696 mw15 mw120 mw697 pdX2_secretDetail ⟨Nat.le_of_ble_eq_true rfl, Nat.le_of_ble_eq_true rfl⟩ rfl rfl hl.1 (Nat.le_of_ble_eq_true rfl) dX2_detail_40 (fun H locs hw hS => ?_)
        refine lv_goto (tgt := 47) hx hb dX2_detail_43 (by decide) ?_
        obtain rfl := Option.some.inj hf
        subst hq
        exact rt_i C hw hS dX2_detail_47
  · have hf := ifn c11 hf
    refine lv_aload_n hx hb dX2_detail_5 rfl (lv_at hl 0 rfl) ?_
    refine lv_iload_n hx hb dX2_detail_6 rfl (lv_at hl 2 rfl) ?_
    obtain ⟨z8, hz8, hf⟩ := bd hf
    refine cl_Vs (rest := []) (kX2_hasPiece (l := l) (Γ := Γ) (A := A) (G := G) (o := o) hk hz8) ⟨hx, hb, hml, hown, htw⟩ hE hw hS (wo_me hw hk) (q0 := 0) rfl rfl mw682 mw683 mw684 mw120 mw685 pdX2_hasPiece ⟨Nat.le_of_ble_eq_true rfl, Nat.le_of_ble_eq_true rfl⟩ rfl rfl hl.1 (Nat.le_of_ble_eq_true rfl) dX2_detail_7 (fun H locs hw hS => ?_)
    refine lv_if_eq (tgt := 22) hx hb dX2_detail_10 (by decide) (fun c10 => ?_) (fun c10 => ?_)
    · have hf := ifp c10 hf
      refine lv_iconst (v := (-1)) hx hb dX2_detail_22 (by decide) ?_
      obtain rfl := Option.some.inj hf
      subst hq
      exact rt_i C hw hS dX2_detail_23
    · have hf := ifn c10 hf
      refine lv_aload_n hx hb dX2_detail_13 rfl (lv_at hl 0 rfl) ?_
      refine lv_iload_n hx hb dX2_detail_14 rfl (lv_at hl 1 rfl) ?_
      refine lv_iload_n hx hb dX2_detail_15 rfl (lv_at hl 2 rfl) ?_
      obtain ⟨z9, hz9, hf⟩ := bd hf
      refine cl_Vs (rest := []) (kX2_pieceDetail (l := l) (Γ := Γ) (A := A) (G := G) (o := o) hk hz9) ⟨hx, hb, hml, hown, htw⟩ hE hw hS (wo_me hw hk) (q0 := 0) rfl rfl mw686 mw688 mw14 mw120 mw689 pdX2_pieceDetail ⟨Nat.le_of_ble_eq_true rfl, Nat.le_of_ble_eq_true rfl⟩ rfl rfl hl.1 (Nat.le_of_ble_eq_true rfl) dX2_detail_16 (fun H locs hw hS => ?_)
      refine lv_goto (tgt := 23) hx hb dX2_detail_19 (by decide) ?_
      obtain rfl := Option.some.inj hf
      subst hq
      exact rt_i C hw hS dX2_detail_23

theorem kX2_detail {l : Launch} {Γ : Gm} {A : Nat → Prop} {G : Gs} {o : Nat} {r : Rec} {v1 : Int32} {v2 : Int32} {fin : Int32} (hk : kd Γ o = some 2) (hf : fX2_detail r v1 v2 = some fin) : Kt l yX2_detail cX2_detail 3 (some .int) 1 22 Γ A (ug G o r) (ug G o r) [.ref (ad Γ o), .int v1, .int v2] (some (.int fin)) :=
  kt_of (by decide) (Nat.le_of_ble_eq_true rfl) (fun p e s m args below meth c C => wX2_detail_e C hk hf rfl)
theorem kgX2_detail {l : Launch} {Γ : Gm} {A : Nat → Prop} {G : Gs} {o : Nat} {v1 : Int32} {v2 : Int32} {fin : Int32} (hk : kd Γ o = some 2) (hf : fX2_detail (G o) v1 v2 = some fin) : Kt l yX2_detail cX2_detail 3 (some .int) 1 22 Γ A G G [.ref (ad Γ o), .int v1, .int v2] (some (.int fin)) := by
  have h := kX2_detail (l := l) (A := A) (G := G) (r := G o) hk hf
  rw [ug_self] at h
  exact h
noncomputable def bX2_worthIfTaste_21 (r : Rec) (v1 : Int32) (v2 : Int32) (s0 : Int32) (s1 : Int32) : Option Int32 :=
  gd (inR v2 8) ((fX9_hasBit (ga r 5 (Int32.toNatClampNeg v2)) v1).bind fun z2 => (fX9_worthOf s1 s0 z2).bind fun z3 => some (z3))
set_option maxRecDepth 100000 in
set_option maxHeartbeats 4000000 in
theorem wX2_worthIfTaste_21 {p : Program} {l : Launch} {e : Env} {s : State} {m : MethodId} {args : Array Value} {below : List Frame} {meth : Method} {c : Code} {Γ : Gm} {A : Nat → Prop} {G : Gs} {o : Nat} {r : Rec} {v1 : Int32} {v2 : Int32} {s0 : Int32} {s1 : Int32} {q : Int32} {fin : Int32} (C : Cx p s m args meth c yX2_worthIfTaste cX2_worthIfTaste 4 (some .int) Γ A) (hk : kd Γ o = some 2) (hf : bX2_worthIfTaste_21 r v1 v2 s0 s1 = some q) (hq : (fun x => x = fin) q) : Wk p l e { frames := 1, cells := 0, slots := 0, locals := 23 } s m args below meth c Γ A (ug G o r) (some (.int fin)) 21 4 [(0, .ref (ad Γ o)), (1, .int v1), (2, .int v2)] [.int s0, .int s1] (ug G o r) := by
  intro H locs ls hw hS hl
  unfold bX2_worthIfTaste_21 at hf
  obtain ⟨hx, hb, hml, hr, hown, htw, hlocks, hE⟩ := id C
  have hown : s.vm.findClass RX2 = some m.cls := hown
  refine lv_aload_n hx hb dX2_worthIfTaste_21 rfl (lv_at hl 0 rfl) ?_
  refine va_get (ci := 2) (v := .ref (aa Γ o 5)) (C := RX2) (T := TX2) (N := 11) hx hb htw uwX2 hown hE.1 (wo_me hw hk) 0 rfl rfl 5 (by decide) (htw _ mw178) (fun _ h9 => h9) rfl dX2_worthIfTaste_22 ?_
  refine lv_iload_n hx hb dX2_worthIfTaste_25 rfl (lv_at hl 2 rfl) ?_
  obtain ⟨g1, hf⟩ := gd_some hf
  refine va_iald hx hb hE.1 (wo_me hw hk) 3 0 rfl rfl (inR_in g1) dX2_worthIfTaste_26 ?_
  refine lv_iload_n hx hb dX2_worthIfTaste_27 rfl (lv_at hl 1 rfl) ?_
  obtain ⟨z2, hz2, hf⟩ := bd hf
  refine cl_SN (rest := [.int s0, .int s1]) (kX9_hasBit (l := l) (Γ := Γ) (A := A) (G := (ug G o r)) hz2) ⟨hx, hb, hml, hown, htw⟩ hE hw hS (nw8 hE.2.2.1) mw717 mw118 mw718 pdX9_hasBit ⟨Nat.le_of_ble_eq_true rfl, Nat.le_of_ble_eq_true rfl⟩ rfl rfl hl.1 (Nat.le_of_ble_eq_true rfl) dX2_worthIfTaste_28 (fun H locs hw hS => ?_)
  obtain ⟨z3, hz3, hf⟩ := bd hf
  refine cl_SN (rest := []) (kX9_worthOf (l := l) (Γ := Γ) (A := A) (G := (ug G o r)) hz3) ⟨hx, hb, hml, hown, htw⟩ hE hw hS (nw9 hE.2.2.1) mw720 mw118 mw721 pdX9_worthOf ⟨Nat.le_of_ble_eq_true rfl, Nat.le_of_ble_eq_true rfl⟩ rfl rfl hl.1 (Nat.le_of_ble_eq_true rfl) dX2_worthIfTaste_31 (fun H locs hw hS => ?_)
  obtain rfl := Option.some.inj hf
  subst hq
  exact rt_i C hw hS dX2_worthIfTaste_34

noncomputable def fX2_worthIfTaste (r : Rec) (v1 : Int32) (v2 : Int32) (v3 : Int32) : Option Int32 :=
  gd (inR v1 10) (gd (inR v1 10) (if (ga r 6 (Int32.toNatClampNeg v1)) = v3 then bX2_worthIfTaste_21 r v1 v2 1 (ga r 7 (Int32.toNatClampNeg v1)) else bX2_worthIfTaste_21 r v1 v2 0 (ga r 7 (Int32.toNatClampNeg v1))))
set_option maxRecDepth 100000 in
set_option maxHeartbeats 4000000 in
theorem wX2_worthIfTaste_e {p : Program} {l : Launch} {e : Env} {s : State} {m : MethodId} {args : Array Value} {below : List Frame} {meth : Method} {c : Code} {Γ : Gm} {A : Nat → Prop} {G : Gs} {o : Nat} {r : Rec} {v1 : Int32} {v2 : Int32} {v3 : Int32} {q : Int32} {fin : Int32} (C : Cx p s m args meth c yX2_worthIfTaste cX2_worthIfTaste 4 (some .int) Γ A) (hk : kd Γ o = some 2) (hf : fX2_worthIfTaste r v1 v2 v3 = some q) (hq : (fun x => x = fin) q) : Wk p l e { frames := 1, cells := 0, slots := 0, locals := 23 } s m args below meth c Γ A (ug G o r) (some (.int fin)) 0 4 [(0, .ref (ad Γ o)), (1, .int v1), (2, .int v2), (3, .int v3)] [] (ug G o r) := by
  intro H locs ls hw hS hl
  unfold fX2_worthIfTaste at hf
  obtain ⟨hx, hb, hml, hr, hown, htw, hlocks, hE⟩ := id C
  have hown : s.vm.findClass RX2 = some m.cls := hown
  refine lv_aload_n hx hb dX2_worthIfTaste_0 rfl (lv_at hl 0 rfl) ?_
  refine va_get (ci := 2) (v := .ref (aa Γ o 7)) (C := RX2) (T := TX2) (N := 11) hx hb htw uwX2 hown hE.1 (wo_me hw hk) 0 rfl rfl 7 (by decide) (htw _ mw184) (fun _ h9 => h9) rfl dX2_worthIfTaste_1 ?_
  refine lv_iload_n hx hb dX2_worthIfTaste_4 rfl (lv_at hl 1 rfl) ?_
  obtain ⟨g4, hf⟩ := gd_some hf
  refine va_iald hx hb hE.1 (wo_me hw hk) 5 0 rfl rfl (inR_in g4) dX2_worthIfTaste_5 ?_
  refine lv_aload_n hx hb dX2_worthIfTaste_6 rfl (lv_at hl 0 rfl) ?_
  refine va_get (ci := 2) (v := .ref (aa Γ o 6)) (C := RX2) (T := TX2) (N := 11) hx hb htw uwX2 hown hE.1 (wo_me hw hk) 0 rfl rfl 6 (by decide) (htw _ mw181) (fun _ h9 => h9) rfl dX2_worthIfTaste_7 ?_
  refine lv_iload_n hx hb dX2_worthIfTaste_10 rfl (lv_at hl 1 rfl) ?_
  obtain ⟨g5, hf⟩ := gd_some hf
  refine va_iald hx hb hE.1 (wo_me hw hk) 4 0 rfl rfl (inR_in g5) dX2_worthIfTaste_11 ?_
  refine lv_iload_n hx hb dX2_worthIfTaste_12 rfl (lv_at hl 3 rfl) ?_
  refine lv_icmp_ne (tgt := 20) hx hb dX2_worthIfTaste_13 (by decide) (fun c6 => ?_) (fun c6 => ?_)
  · have hf := ifn c6 hf
    refine lv_iconst (v := 0) hx hb dX2_worthIfTaste_20 (by decide) ?_
    exact wX2_worthIfTaste_21 C hk hf hq H locs ls hw hS (lv_sub hl [0, 1, 2] rfl)
  · have hf := ifp c6 hf
    refine lv_iconst (v := 1) hx hb dX2_worthIfTaste_16 (by decide) ?_
    refine lv_goto (tgt := 21) hx hb dX2_worthIfTaste_17 (by decide) ?_
    exact wX2_worthIfTaste_21 C hk hf hq H locs ls hw hS (lv_sub hl [0, 1, 2] rfl)

theorem kX2_worthIfTaste {l : Launch} {Γ : Gm} {A : Nat → Prop} {G : Gs} {o : Nat} {r : Rec} {v1 : Int32} {v2 : Int32} {v3 : Int32} {fin : Int32} (hk : kd Γ o = some 2) (hf : fX2_worthIfTaste r v1 v2 v3 = some fin) : Kt l yX2_worthIfTaste cX2_worthIfTaste 4 (some .int) 1 23 Γ A (ug G o r) (ug G o r) [.ref (ad Γ o), .int v1, .int v2, .int v3] (some (.int fin)) :=
  kt_of (by decide) (Nat.le_of_ble_eq_true rfl) (fun p e s m args below meth c C => wX2_worthIfTaste_e C hk hf rfl)
theorem kgX2_worthIfTaste {l : Launch} {Γ : Gm} {A : Nat → Prop} {G : Gs} {o : Nat} {v1 : Int32} {v2 : Int32} {v3 : Int32} {fin : Int32} (hk : kd Γ o = some 2) (hf : fX2_worthIfTaste (G o) v1 v2 v3 = some fin) : Kt l yX2_worthIfTaste cX2_worthIfTaste 4 (some .int) 1 23 Γ A G G [.ref (ad Γ o), .int v1, .int v2, .int v3] (some (.int fin)) := by
  have h := kX2_worthIfTaste (l := l) (A := A) (G := G) (r := G o) hk hf
  rw [ug_self] at h
  exact h
noncomputable def fX2_worthTo (r : Rec) (v1 : Int32) (v2 : Int32) : Option Int32 :=
  gd (inR v2 8) ((fX2_worthIfTaste r v1 v2 (ga r 3 (Int32.toNatClampNeg v2))).bind fun z2 => some (z2))
set_option maxRecDepth 100000 in
set_option maxHeartbeats 4000000 in
theorem wX2_worthTo_e {p : Program} {l : Launch} {e : Env} {s : State} {m : MethodId} {args : Array Value} {below : List Frame} {meth : Method} {c : Code} {Γ : Gm} {A : Nat → Prop} {G : Gs} {o : Nat} {r : Rec} {v1 : Int32} {v2 : Int32} {q : Int32} {fin : Int32} (C : Cx p s m args meth c yX2_worthTo cX2_worthTo 3 (some .int) Γ A) (hk : kd Γ o = some 2) (hf : fX2_worthTo r v1 v2 = some q) (hq : (fun x => x = fin) q) : Wk p l e { frames := 2, cells := 0, slots := 0, locals := 46 } s m args below meth c Γ A (ug G o r) (some (.int fin)) 0 3 [(0, .ref (ad Γ o)), (1, .int v1), (2, .int v2)] [] (ug G o r) := by
  intro H locs ls hw hS hl
  unfold fX2_worthTo at hf
  obtain ⟨hx, hb, hml, hr, hown, htw, hlocks, hE⟩ := id C
  have hown : s.vm.findClass RX2 = some m.cls := hown
  refine lv_aload_n hx hb dX2_worthTo_0 rfl (lv_at hl 0 rfl) ?_
  refine lv_iload_n hx hb dX2_worthTo_1 rfl (lv_at hl 1 rfl) ?_
  refine lv_iload_n hx hb dX2_worthTo_2 rfl (lv_at hl 2 rfl) ?_
  refine lv_aload_n hx hb dX2_worthTo_3 rfl (lv_at hl 0 rfl) ?_
  refine va_get (ci := 2) (v := .ref (aa Γ o 3)) (C := RX2) (T := TX2) (N := 11) hx hb htw uwX2 hown hE.1 (wo_me hw hk) 0 rfl rfl 3 (by decide) (htw _ mw173) (fun _ h9 => h9) rfl dX2_worthTo_4 ?_
  refine lv_iload_n hx hb dX2_worthTo_7 rfl (lv_at hl 2 rfl) ?_
  obtain ⟨g1, hf⟩ := gd_some hf
  refine va_iald hx hb hE.1 (wo_me hw hk) 1 0 rfl rfl (inR_in g1) dX2_worthTo_8 ?_
  obtain ⟨z2, hz2, hf⟩ := bd hf
  refine cl_Vs (rest := []) (kX2_worthIfTaste (l := l) (Γ := Γ) (A := A) (G := G) (o := o) hk hz2) ⟨hx, hb, hml, hown, htw⟩ hE hw hS (wo_me hw hk) (q0 := 0) rfl rfl mw712 mw713 mw714 mw120 mw715 pdX2_worthIfTaste ⟨Nat.le_of_ble_eq_true rfl, Nat.le_of_ble_eq_true rfl⟩ rfl rfl hl.1 (Nat.le_of_ble_eq_true rfl) dX2_worthTo_9 (fun H locs hw hS => ?_)
  obtain rfl := Option.some.inj hf
  subst hq
  exact rt_i C hw hS dX2_worthTo_12

theorem kX2_worthTo {l : Launch} {Γ : Gm} {A : Nat → Prop} {G : Gs} {o : Nat} {r : Rec} {v1 : Int32} {v2 : Int32} {fin : Int32} (hk : kd Γ o = some 2) (hf : fX2_worthTo r v1 v2 = some fin) : Kt l yX2_worthTo cX2_worthTo 3 (some .int) 2 46 Γ A (ug G o r) (ug G o r) [.ref (ad Γ o), .int v1, .int v2] (some (.int fin)) :=
  kt_of (by decide) (Nat.le_of_ble_eq_true rfl) (fun p e s m args below meth c C => wX2_worthTo_e C hk hf rfl)
theorem kgX2_worthTo {l : Launch} {Γ : Gm} {A : Nat → Prop} {G : Gs} {o : Nat} {v1 : Int32} {v2 : Int32} {fin : Int32} (hk : kd Γ o = some 2) (hf : fX2_worthTo (G o) v1 v2 = some fin) : Kt l yX2_worthTo cX2_worthTo 3 (some .int) 2 46 Γ A G G [.ref (ad Γ o), .int v1, .int v2] (some (.int fin)) := by
  have h := kX2_worthTo (l := l) (A := A) (G := G) (r := G o) hk hf
  rw [ug_self] at h
  exact h
noncomputable def bX2_weightOf_31 (r : Rec) (v1 : Int32) (v3 : Int32) (s0 : Int32) (s1 : Int32) : Option ((Int32 × Int32) ⊕ Int32) :=
  some (.inl (s1 + s0, v3 + 1))
set_option maxRecDepth 100000 in
set_option maxHeartbeats 4000000 in
theorem wX2_weightOf_31 {p : Program} {l : Launch} {e : Env} {s : State} {m : MethodId} {args : Array Value} {below : List Frame} {meth : Method} {c : Code} {Γ : Gm} {A : Nat → Prop} {G : Gs} {o : Nat} {r : Rec} {v1 : Int32} {v3 : Int32} {s0 : Int32} {s1 : Int32} {q : ((Int32 × Int32) ⊕ Int32)} {fin : Int32} (C : Cx p s m args meth c yX2_weightOf cX2_weightOf 4 (some .int) Γ A) (hk : kd Γ o = some 2) (hf : bX2_weightOf_31 r v1 v3 s0 s1 = some q) (hq : (KC (fun st : Int32 × Int32 => Wk p l e { frames := 1, cells := 0, slots := 0, locals := 21 } s m args below meth c Γ A (ug G o r) (some (.int fin)) 4 4 [(0, .ref (ad Γ o)), (1, .int v1), (2, .int st.1), (3, .int st.2)] [] (ug G o r)) (fun x => x = fin)) q) : Wk p l e { frames := 1, cells := 0, slots := 0, locals := 21 } s m args below meth c Γ A (ug G o r) (some (.int fin)) 31 4 [(0, .ref (ad Γ o)), (1, .int v1), (3, .int v3)] [.int s0, .int s1] (ug G o r) := by
  intro H locs ls hw hS hl
  unfold bX2_weightOf_31 at hf
  obtain ⟨hx, hb, hml, hr, hown, htw, hlocks, hE⟩ := id C
  have hown : s.vm.findClass RX2 = some m.cls := hown
  refine lv_iadd hx hb dX2_weightOf_31 ?_
  refine lv_istore_n (lv' := [(2, .int (s1 + s0)), (0, .ref (ad Γ o)), (1, .int v1), (3, .int v3)]) hx hb dX2_weightOf_32 rfl hl (by decide) rfl (fun ls hl => ?_)
  refine lv_iinc (v := v3 + 1) (lv' := [(3, .int (v3 + 1)), (2, .int (s1 + s0)), (0, .ref (ad Γ o)), (1, .int v1)]) hx hb dX2_weightOf_33 hl (k := 3) rfl (by rfl) (by decide) rfl (fun ls hl => ?_)
  refine lv_goto (tgt := 4) hx hb dX2_weightOf_36 (by decide) ?_
  obtain rfl := Option.some.inj hf
  exact hq.1 _ rfl H locs ls hw hS (lv_sub hl [2, 3, 1, 0] rfl)

noncomputable def bX2_weightOf_4 (r : Rec) (v1 : Int32) (v2 : Int32) (v3 : Int32) : Option ((Int32 × Int32) ⊕ Int32) :=
  if (gi r 1) ≤ v3 then some (.inr (v2)) else (fX9_hasBit v1 v3).bind fun z1 => if z1 = 0 then bX2_weightOf_31 r v1 v3 0 v2 else gd (inR v3 10) (bX2_weightOf_31 r v1 v3 (ga r 7 (Int32.toNatClampNeg v3)) v2)
set_option maxRecDepth 100000 in
set_option maxHeartbeats 4000000 in
theorem wX2_weightOf_4 {p : Program} {l : Launch} {e : Env} {s : State} {m : MethodId} {args : Array Value} {below : List Frame} {meth : Method} {c : Code} {Γ : Gm} {A : Nat → Prop} {G : Gs} {o : Nat} {r : Rec} {v1 : Int32} {v2 : Int32} {v3 : Int32} {q : ((Int32 × Int32) ⊕ Int32)} {fin : Int32} (C : Cx p s m args meth c yX2_weightOf cX2_weightOf 4 (some .int) Γ A) (hk : kd Γ o = some 2) (hf : bX2_weightOf_4 r v1 v2 v3 = some q) (hq : (KC (fun st : Int32 × Int32 => Wk p l e { frames := 1, cells := 0, slots := 0, locals := 21 } s m args below meth c Γ A (ug G o r) (some (.int fin)) 4 4 [(0, .ref (ad Γ o)), (1, .int v1), (2, .int st.1), (3, .int st.2)] [] (ug G o r)) (fun x => x = fin)) q) : Wk p l e { frames := 1, cells := 0, slots := 0, locals := 21 } s m args below meth c Γ A (ug G o r) (some (.int fin)) 4 4 [(0, .ref (ad Γ o)), (1, .int v1), (2, .int v2), (3, .int v3)] [] (ug G o r) := by
  intro H locs ls hw hS hl
  unfold bX2_weightOf_4 at hf
  obtain ⟨hx, hb, hml, hr, hown, htw, hlocks, hE⟩ := id C
  have hown : s.vm.findClass RX2 = some m.cls := hown
  refine lv_iload_n hx hb dX2_weightOf_4 rfl (lv_at hl 3 rfl) ?_
  refine lv_aload_n hx hb dX2_weightOf_5 rfl (lv_at hl 0 rfl) ?_
  refine va_get (ci := 2) (v := .int (gi r 1)) (C := RX2) (T := TX2) (N := 11) hx hb htw uwX2 hown hE.1 (wo_me hw hk) 0 rfl rfl 1 (by decide) (htw _ mw165) (fun _ h9 => h9) rfl dX2_weightOf_6 ?_
  refine lv_icmp_ge (tgt := 39) hx hb dX2_weightOf_9 (by decide) (fun c4 => ?_) (fun c4 => ?_)
  · have hf := ifp c4 hf
    refine lv_iload_n hx hb dX2_weightOf_39 rfl (lv_at hl 2 rfl) ?_
    obtain rfl := Option.some.inj hf
    have hq := hq.2 _ rfl
    subst hq
    exact rt_i C hw hS dX2_weightOf_40
  · have hf := ifn c4 hf
    refine lv_iload_n hx hb dX2_weightOf_12 rfl (lv_at hl 2 rfl) ?_
    refine lv_iload_n hx hb dX2_weightOf_13 rfl (lv_at hl 1 rfl) ?_
    refine lv_iload_n hx hb dX2_weightOf_14 rfl (lv_at hl 3 rfl) ?_
    obtain ⟨z1, hz1, hf⟩ := bd hf
    refine cl_SN (rest := [.int v2]) (kX9_hasBit (l := l) (Γ := Γ) (A := A) (G := (ug G o r)) hz1) ⟨hx, hb, hml, hown, htw⟩ hE hw hS (nw8 hE.2.2.1) mw717 mw118 mw718 pdX9_hasBit ⟨Nat.le_of_ble_eq_true rfl, Nat.le_of_ble_eq_true rfl⟩ rfl rfl hl.1 (Nat.le_of_ble_eq_true rfl) dX2_weightOf_15 (fun H locs hw hS => ?_)
    refine lv_if_eq (tgt := 30) hx hb dX2_weightOf_18 (by decide) (fun c3 => ?_) (fun c3 => ?_)
    · have hf := ifp c3 hf
      refine lv_iconst (v := 0) hx hb dX2_weightOf_30 (by decide) ?_
      exact wX2_weightOf_31 C hk hf hq H locs ls hw hS (lv_sub hl [0, 1, 3] rfl)
    · have hf := ifn c3 hf
      refine lv_aload_n hx hb dX2_weightOf_21 rfl (lv_at hl 0 rfl) ?_
      refine va_get (ci := 2) (v := .ref (aa Γ o 7)) (C := RX2) (T := TX2) (N := 11) hx hb htw uwX2 hown hE.1 (wo_me hw hk) 0 rfl rfl 7 (by decide) (htw _ mw184) (fun _ h9 => h9) rfl dX2_weightOf_22 ?_
      refine lv_iload_n hx hb dX2_weightOf_25 rfl (lv_at hl 3 rfl) ?_
      obtain ⟨g2, hf⟩ := gd_some hf
      refine va_iald hx hb hE.1 (wo_me hw hk) 5 0 rfl rfl (inR_in g2) dX2_weightOf_26 ?_
      refine lv_goto (tgt := 31) hx hb dX2_weightOf_27 (by decide) ?_
      exact wX2_weightOf_31 C hk hf hq H locs ls hw hS (lv_sub hl [0, 1, 3] rfl)

set_option maxRecDepth 100000 in
set_option maxHeartbeats 4000000 in
theorem lwX2_weightOf_4 {p : Program} {l : Launch} {e : Env} {s : State} {m : MethodId} {args : Array Value} {below : List Frame} {meth : Method} {c : Code} {Γ : Gm} {A : Nat → Prop} {G : Gs} {o : Nat} {r : Rec} {v1 : Int32} {v2 : Int32} {v3 : Int32} {q : Int32} {fin : Int32} (C : Cx p s m args meth c yX2_weightOf cX2_weightOf 4 (some .int) Γ A) (hk : kd Γ o = some 2) (hf : iter (fun st : Int32 × Int32 => bX2_weightOf_4 r v1 st.1 st.2) (v2, v3) = some q) (hq : (fun x => x = fin) q) : Wk p l e { frames := 1, cells := 0, slots := 0, locals := 21 } s m args below meth c Γ A (ug G o r) (some (.int fin)) 4 4 [(0, .ref (ad Γ o)), (1, .int v1), (2, .int v2), (3, .int v3)] [] (ug G o r) := by
  intro H locs ls hw hS hl
  refine iter_walk (P := (fun st : Int32 × Int32 => Wk p l e { frames := 1, cells := 0, slots := 0, locals := 21 } s m args below meth c Γ A (ug G o r) (some (.int fin)) 4 4 [(0, .ref (ad Γ o)), (1, .int v1), (2, .int st.1), (3, .int st.2)] [] (ug G o r))) (K := (fun x => x = fin)) (fun st q hq1 h1 h2 => ?_) hf hq H locs ls hw hS hl
  exact wX2_weightOf_4 (v2 := st.1) (v3 := st.2) C hk hq1 ⟨h1, h2⟩

noncomputable def fX2_weightOf (r : Rec) (v1 : Int32) : Option Int32 :=
  iter (fun st : Int32 × Int32 => bX2_weightOf_4 r v1 st.1 st.2) (0, 0)
set_option maxRecDepth 100000 in
set_option maxHeartbeats 4000000 in
theorem wX2_weightOf_e {p : Program} {l : Launch} {e : Env} {s : State} {m : MethodId} {args : Array Value} {below : List Frame} {meth : Method} {c : Code} {Γ : Gm} {A : Nat → Prop} {G : Gs} {o : Nat} {r : Rec} {v1 : Int32} {q : Int32} {fin : Int32} (C : Cx p s m args meth c yX2_weightOf cX2_weightOf 4 (some .int) Γ A) (hk : kd Γ o = some 2) (hf : fX2_weightOf r v1 = some q) (hq : (fun x => x = fin) q) : Wk p l e { frames := 1, cells := 0, slots := 0, locals := 21 } s m args below meth c Γ A (ug G o r) (some (.int fin)) 0 4 [(0, .ref (ad Γ o)), (1, .int v1)] [] (ug G o r) := by
  intro H locs ls hw hS hl
  unfold fX2_weightOf at hf
  obtain ⟨hx, hb, hml, hr, hown, htw, hlocks, hE⟩ := id C
  have hown : s.vm.findClass RX2 = some m.cls := hown
  refine lv_iconst (v := 0) hx hb dX2_weightOf_0 (by decide) ?_
  refine lv_istore_n (lv' := [(2, .int 0), (0, .ref (ad Γ o)), (1, .int v1)]) hx hb dX2_weightOf_1 rfl hl (by decide) rfl (fun ls hl => ?_)
  refine lv_iconst (v := 0) hx hb dX2_weightOf_2 (by decide) ?_
  refine lv_istore_n (lv' := [(3, .int 0), (2, .int 0), (0, .ref (ad Γ o)), (1, .int v1)]) hx hb dX2_weightOf_3 rfl hl (by decide) rfl (fun ls hl => ?_)
  exact lwX2_weightOf_4 C hk hf hq H locs ls hw hS (lv_sub hl [2, 3, 1, 0] rfl)

theorem kX2_weightOf {l : Launch} {Γ : Gm} {A : Nat → Prop} {G : Gs} {o : Nat} {r : Rec} {v1 : Int32} {fin : Int32} (hk : kd Γ o = some 2) (hf : fX2_weightOf r v1 = some fin) : Kt l yX2_weightOf cX2_weightOf 4 (some .int) 1 21 Γ A (ug G o r) (ug G o r) [.ref (ad Γ o), .int v1] (some (.int fin)) :=
  kt_of (by decide) (Nat.le_of_ble_eq_true rfl) (fun p e s m args below meth c C => wX2_weightOf_e C hk hf rfl)
theorem kgX2_weightOf {l : Launch} {Γ : Gm} {A : Nat → Prop} {G : Gs} {o : Nat} {v1 : Int32} {fin : Int32} (hk : kd Γ o = some 2) (hf : fX2_weightOf (G o) v1 = some fin) : Kt l yX2_weightOf cX2_weightOf 4 (some .int) 1 21 Γ A G G [.ref (ad Γ o), .int v1] (some (.int fin)) := by
  have h := kX2_weightOf (l := l) (A := A) (G := G) (r := G o) hk hf
  rw [ug_self] at h
  exact h
noncomputable def fX2_makes (r : Rec) (v1 : Int32) (v2 : Int32) : Option Int32 :=
  gd (inR v1 8) ((fX9_hasBit v2 (ga r 8 (Int32.toNatClampNeg v1))).bind fun z2 => if z2 = 0 then some (0) else gd (inR v1 8) ((fX9_hasBit v2 (ga r 9 (Int32.toNatClampNeg v1))).bind fun z4 => if z4 = 0 then some (0) else some (1)))
set_option maxRecDepth 100000 in
set_option maxHeartbeats 4000000 in
theorem wX2_makes_e {p : Program} {l : Launch} {e : Env} {s : State} {m : MethodId} {args : Array Value} {below : List Frame} {meth : Method} {c : Code} {Γ : Gm} {A : Nat → Prop} {G : Gs} {o : Nat} {r : Rec} {v1 : Int32} {v2 : Int32} {q : Int32} {fin : Int32} (C : Cx p s m args meth c yX2_makes cX2_makes 3 (some .boolean) Γ A) (hk : kd Γ o = some 2) (hf : fX2_makes r v1 v2 = some q) (hq : (fun x => x = fin) q) : Wk p l e { frames := 1, cells := 0, slots := 0, locals := 21 } s m args below meth c Γ A (ug G o r) (some (.int fin)) 0 3 [(0, .ref (ad Γ o)), (1, .int v1), (2, .int v2)] [] (ug G o r) := by
  intro H locs ls hw hS hl
  unfold fX2_makes at hf
  obtain ⟨hx, hb, hml, hr, hown, htw, hlocks, hE⟩ := id C
  have hown : s.vm.findClass RX2 = some m.cls := hown
  refine lv_iload_n hx hb dX2_makes_0 rfl (lv_at hl 2 rfl) ?_
  refine lv_aload_n hx hb dX2_makes_1 rfl (lv_at hl 0 rfl) ?_
  refine va_get (ci := 2) (v := .ref (aa Γ o 8)) (C := RX2) (T := TX2) (N := 11) hx hb htw uwX2 hown hE.1 (wo_me hw hk) 0 rfl rfl 8 (by decide) (htw _ mw188) (fun _ h9 => h9) rfl dX2_makes_2 ?_
  refine lv_iload_n hx hb dX2_makes_5 rfl (lv_at hl 1 rfl) ?_
  obtain ⟨g1, hf⟩ := gd_some hf
  refine va_iald hx hb hE.1 (wo_me hw hk) 6 0 rfl rfl (inR_in g1) dX2_makes_6 ?_
  obtain ⟨z2, hz2, hf⟩ := bd hf
  refine cl_SN (rest := []) (kX9_hasBit (l := l) (Γ := Γ) (A := A) (G := (ug G o r)) hz2) ⟨hx, hb, hml, hown, htw⟩ hE hw hS (nw8 hE.2.2.1) mw717 mw118 mw718 pdX9_hasBit ⟨Nat.le_of_ble_eq_true rfl, Nat.le_of_ble_eq_true rfl⟩ rfl rfl hl.1 (Nat.le_of_ble_eq_true rfl) dX2_makes_7 (fun H locs hw hS => ?_)
  refine lv_if_eq (tgt := 30) hx hb dX2_makes_10 (by decide) (fun c6 => ?_) (fun c6 => ?_)
  · have hf := ifp c6 hf
    refine lv_iconst (v := 0) hx hb dX2_makes_30 (by decide) ?_
    obtain rfl := Option.some.inj hf
    subst hq
    exact rt_z C (Or.inl rfl) hw hS dX2_makes_31
  · have hf := ifn c6 hf
    refine lv_iload_n hx hb dX2_makes_13 rfl (lv_at hl 2 rfl) ?_
    refine lv_aload_n hx hb dX2_makes_14 rfl (lv_at hl 0 rfl) ?_
    refine va_get (ci := 2) (v := .ref (aa Γ o 9)) (C := RX2) (T := TX2) (N := 11) hx hb htw uwX2 hown hE.1 (wo_me hw hk) 0 rfl rfl 9 (by decide) (htw _ mw189) (fun _ h9 => h9) rfl dX2_makes_15 ?_
    refine lv_iload_n hx hb dX2_makes_18 rfl (lv_at hl 1 rfl) ?_
    obtain ⟨g3, hf⟩ := gd_some hf
    refine va_iald hx hb hE.1 (wo_me hw hk) 7 0 rfl rfl (inR_in g3) dX2_makes_19 ?_
    obtain ⟨z4, hz4, hf⟩ := bd hf
    refine cl_SN (rest := []) (kX9_hasBit (l := l) (Γ := Γ) (A := A) (G := (ug G o r)) hz4) ⟨hx, hb, hml, hown, htw⟩ hE hw hS (nw8 hE.2.2.1) mw717 mw118 mw718 pdX9_hasBit ⟨Nat.le_of_ble_eq_true rfl, Nat.le_of_ble_eq_true rfl⟩ rfl rfl hl.1 (Nat.le_of_ble_eq_true rfl) dX2_makes_20 (fun H locs hw hS => ?_)
    refine lv_if_eq (tgt := 30) hx hb dX2_makes_23 (by decide) (fun c5 => ?_) (fun c5 => ?_)
    · have hf := ifp c5 hf
      refine lv_iconst (v := 0) hx hb dX2_makes_30 (by decide) ?_
      obtain rfl := Option.some.inj hf
      subst hq
      exact rt_z C (Or.inl rfl) hw hS dX2_makes_31
    · have hf := ifn c5 hf
      refine lv_iconst (v := 1) hx hb dX2_makes_26 (by decide) ?_
      refine lv_goto (tgt := 31) hx hb dX2_makes_27 (by decide) ?_
      obtain rfl := Option.some.inj hf
      subst hq
      exact rt_z C (Or.inr rfl) hw hS dX2_makes_31

theorem kX2_makes {l : Launch} {Γ : Gm} {A : Nat → Prop} {G : Gs} {o : Nat} {r : Rec} {v1 : Int32} {v2 : Int32} {fin : Int32} (hk : kd Γ o = some 2) (hf : fX2_makes r v1 v2 = some fin) : Kt l yX2_makes cX2_makes 3 (some .boolean) 1 21 Γ A (ug G o r) (ug G o r) [.ref (ad Γ o), .int v1, .int v2] (some (.int fin)) :=
  kt_of (by decide) (Nat.le_of_ble_eq_true rfl) (fun p e s m args below meth c C => wX2_makes_e C hk hf rfl)
theorem kgX2_makes {l : Launch} {Γ : Gm} {A : Nat → Prop} {G : Gs} {o : Nat} {v1 : Int32} {v2 : Int32} {fin : Int32} (hk : kd Γ o = some 2) (hf : fX2_makes (G o) v1 v2 = some fin) : Kt l yX2_makes cX2_makes 3 (some .boolean) 1 21 Γ A G G [.ref (ad Γ o), .int v1, .int v2] (some (.int fin)) := by
  have h := kX2_makes (l := l) (A := A) (G := G) (r := G o) hk hf
  rw [ug_self] at h
  exact h
noncomputable def bX2_closure_67 (r : Rec) (v3 : Int32) : Option Int32 :=
  some (v3)
set_option maxRecDepth 100000 in
set_option maxHeartbeats 4000000 in
theorem wX2_closure_67 {p : Program} {l : Launch} {e : Env} {s : State} {m : MethodId} {args : Array Value} {below : List Frame} {meth : Method} {c : Code} {Γ : Gm} {A : Nat → Prop} {G : Gs} {o : Nat} {r : Rec} {v3 : Int32} {q : Int32} {fin : Int32} (C : Cx p s m args meth c yX2_closure cX2_closure 7 (some .int) Γ A) (hk : kd Γ o = some 2) (hf : bX2_closure_67 r v3 = some q) (hq : (fun x => x = fin) q) : Wk p l e { frames := 2, cells := 0, slots := 0, locals := 43 } s m args below meth c Γ A (ug G o r) (some (.int fin)) 67 7 [(3, .int v3)] [] (ug G o r) := by
  intro H locs ls hw hS hl
  unfold bX2_closure_67 at hf
  obtain ⟨hx, hb, hml, hr, hown, htw, hlocks, hE⟩ := id C
  have hown : s.vm.findClass RX2 = some m.cls := hown
  refine lv_goto (tgt := 76) hx hb dX2_closure_67 (by decide) ?_
  refine lv_iload_n hx hb dX2_closure_76 rfl (lv_at hl 0 rfl) ?_
  obtain rfl := Option.some.inj hf
  subst hq
  exact rt_i C hw hS dX2_closure_77

noncomputable def bX2_closure_61 (r : Rec) (v2 : Int32) (v3 : Int32) (v4 : Int32) (v5 : Int32) : Option ((Int32 × Int32) ⊕ Int32) :=
  if v3 = v5 then out1 (bX2_closure_67 r v3) else some (.inl (v3, v4 + 1))
set_option maxRecDepth 100000 in
set_option maxHeartbeats 4000000 in
theorem wX2_closure_61 {p : Program} {l : Launch} {e : Env} {s : State} {m : MethodId} {args : Array Value} {below : List Frame} {meth : Method} {c : Code} {Γ : Gm} {A : Nat → Prop} {G : Gs} {o : Nat} {r : Rec} {v2 : Int32} {v3 : Int32} {v4 : Int32} {v5 : Int32} {q : ((Int32 × Int32) ⊕ Int32)} {fin : Int32} (C : Cx p s m args meth c yX2_closure cX2_closure 7 (some .int) Γ A) (hk : kd Γ o = some 2) (hf : bX2_closure_61 r v2 v3 v4 v5 = some q) (hq : (KC (fun st : Int32 × Int32 => Wk p l e { frames := 2, cells := 0, slots := 0, locals := 43 } s m args below meth c Γ A (ug G o r) (some (.int fin)) 5 7 [(0, .ref (ad Γ o)), (2, .int v2), (3, .int st.1), (4, .int st.2)] [] (ug G o r)) (fun x => x = fin)) q) : Wk p l e { frames := 2, cells := 0, slots := 0, locals := 43 } s m args below meth c Γ A (ug G o r) (some (.int fin)) 61 7 [(0, .ref (ad Γ o)), (2, .int v2), (3, .int v3), (4, .int v4), (5, .int v5)] [] (ug G o r) := by
  intro H locs ls hw hS hl
  unfold bX2_closure_61 at hf
  obtain ⟨hx, hb, hml, hr, hown, htw, hlocks, hE⟩ := id C
  have hown : s.vm.findClass RX2 = some m.cls := hown
  refine lv_iload_n hx hb dX2_closure_61 rfl (lv_at hl 2 rfl) ?_
  refine lv_iload hx hb dX2_closure_62 (lv_at hl 4 rfl) ?_
  refine lv_icmp_ne (tgt := 70) hx hb dX2_closure_64 (by decide) (fun c2 => ?_) (fun c2 => ?_)
  · have hf := ifn c2 hf
    refine lv_iinc (v := v4 + 1) (lv' := [(4, .int (v4 + 1)), (0, .ref (ad Γ o)), (2, .int v2), (3, .int v3), (5, .int v5)]) hx hb dX2_closure_70 hl (k := 3) rfl (by rfl) (by decide) rfl (fun ls hl => ?_)
    refine lv_goto (tgt := 5) hx hb dX2_closure_73 (by decide) ?_
    obtain rfl := Option.some.inj hf
    exact hq.1 _ rfl H locs ls hw hS (lv_sub hl [1, 2, 3, 0] rfl)
  · have hf := ifp c2 hf
    obtain ⟨q1, hfq1, eq1⟩ := out1_some hf
    subst eq1
    have hf := hfq1
    have hq := hq.2 _ rfl
    exact wX2_closure_67 C hk hf hq H locs ls hw hS (lv_sub hl [2] rfl)

noncomputable def bX2_closure_55 (r : Rec) (v2 : Int32) (v3 : Int32) (v4 : Int32) (v5 : Int32) (v6 : Int32) : Option ((Int32 × Int32) ⊕ ((Int32 × Int32) ⊕ Int32)) :=
  some (.inl (v3, v6 + 1))
set_option maxRecDepth 100000 in
set_option maxHeartbeats 4000000 in
theorem wX2_closure_55 {p : Program} {l : Launch} {e : Env} {s : State} {m : MethodId} {args : Array Value} {below : List Frame} {meth : Method} {c : Code} {Γ : Gm} {A : Nat → Prop} {G : Gs} {o : Nat} {r : Rec} {v2 : Int32} {v3 : Int32} {v4 : Int32} {v5 : Int32} {v6 : Int32} {q : ((Int32 × Int32) ⊕ ((Int32 × Int32) ⊕ Int32))} {fin : Int32} (C : Cx p s m args meth c yX2_closure cX2_closure 7 (some .int) Γ A) (hk : kd Γ o = some 2) (hf : bX2_closure_55 r v2 v3 v4 v5 v6 = some q) (hq : (KC (fun st : Int32 × Int32 => Wk p l e { frames := 2, cells := 0, slots := 0, locals := 43 } s m args below meth c Γ A (ug G o r) (some (.int fin)) 18 7 [(0, .ref (ad Γ o)), (2, .int v2), (3, .int st.1), (4, .int v4), (5, .int v5), (6, .int st.2)] [] (ug G o r)) (KC (fun st : Int32 × Int32 => Wk p l e { frames := 2, cells := 0, slots := 0, locals := 43 } s m args below meth c Γ A (ug G o r) (some (.int fin)) 5 7 [(0, .ref (ad Γ o)), (2, .int v2), (3, .int st.1), (4, .int st.2)] [] (ug G o r)) (fun x => x = fin))) q) : Wk p l e { frames := 2, cells := 0, slots := 0, locals := 43 } s m args below meth c Γ A (ug G o r) (some (.int fin)) 55 7 [(0, .ref (ad Γ o)), (2, .int v2), (3, .int v3), (4, .int v4), (5, .int v5), (6, .int v6)] [] (ug G o r) := by
  intro H locs ls hw hS hl
  unfold bX2_closure_55 at hf
  obtain ⟨hx, hb, hml, hr, hown, htw, hlocks, hE⟩ := id C
  have hown : s.vm.findClass RX2 = some m.cls := hown
  refine lv_iinc (v := v6 + 1) (lv' := [(6, .int (v6 + 1)), (0, .ref (ad Γ o)), (2, .int v2), (3, .int v3), (4, .int v4), (5, .int v5)]) hx hb dX2_closure_55 hl (k := 5) rfl (by rfl) (by decide) rfl (fun ls hl => ?_)
  refine lv_goto (tgt := 18) hx hb dX2_closure_58 (by decide) ?_
  obtain rfl := Option.some.inj hf
  exact hq.1 _ rfl H locs ls hw hS (lv_sub hl [1, 2, 3, 4, 5, 0] rfl)

noncomputable def bX2_closure_18 (r : Rec) (v2 : Int32) (v3 : Int32) (v4 : Int32) (v5 : Int32) (v6 : Int32) : Option ((Int32 × Int32) ⊕ ((Int32 × Int32) ⊕ Int32)) :=
  if (gi r 2) ≤ v6 then out1 (bX2_closure_61 r v2 v3 v4 v5) else if v6 = v2 then bX2_closure_55 r v2 v3 v4 v5 v6 else (fX2_makes r v6 v3).bind fun z4 => if z4 = 0 then bX2_closure_55 r v2 v3 v4 v5 v6 else gd (inR v6 8) ((some (v3 ||| ((1 : Int32) <<< ((ga r 10 (Int32.toNatClampNeg v6)) &&& 31)))).bind fun x6 => bX2_closure_55 r v2 x6 v4 v5 v6)
set_option maxRecDepth 100000 in
set_option maxHeartbeats 4000000 in
theorem wX2_closure_18 {p : Program} {l : Launch} {e : Env} {s : State} {m : MethodId} {args : Array Value} {below : List Frame} {meth : Method} {c : Code} {Γ : Gm} {A : Nat → Prop} {G : Gs} {o : Nat} {r : Rec} {v2 : Int32} {v3 : Int32} {v4 : Int32} {v5 : Int32} {v6 : Int32} {q : ((Int32 × Int32) ⊕ ((Int32 × Int32) ⊕ Int32))} {fin : Int32} (C : Cx p s m args meth c yX2_closure cX2_closure 7 (some .int) Γ A) (hk : kd Γ o = some 2) (hf : bX2_closure_18 r v2 v3 v4 v5 v6 = some q) (hq : (KC (fun st : Int32 × Int32 => Wk p l e { frames := 2, cells := 0, slots := 0, locals := 43 } s m args below meth c Γ A (ug G o r) (some (.int fin)) 18 7 [(0, .ref (ad Γ o)), (2, .int v2), (3, .int st.1), (4, .int v4), (5, .int v5), (6, .int st.2)] [] (ug G o r)) (KC (fun st : Int32 × Int32 => Wk p l e { frames := 2, cells := 0, slots := 0, locals := 43 } s m args below meth c Γ A (ug G o r) (some (.int fin)) 5 7 [(0, .ref (ad Γ o)), (2, .int v2), (3, .int st.1), (4, .int st.2)] [] (ug G o r)) (fun x => x = fin))) q) : Wk p l e { frames := 2, cells := 0, slots := 0, locals := 43 } s m args below meth c Γ A (ug G o r) (some (.int fin)) 18 7 [(0, .ref (ad Γ o)), (2, .int v2), (3, .int v3), (4, .int v4), (5, .int v5), (6, .int v6)] [] (ug G o r) := by
  intro H locs ls hw hS hl
  unfold bX2_closure_18 at hf
  obtain ⟨hx, hb, hml, hr, hown, htw, hlocks, hE⟩ := id C
  have hown : s.vm.findClass RX2 = some m.cls := hown
  refine lv_iload hx hb dX2_closure_18 (lv_at hl 5 rfl) ?_
  refine lv_aload_n hx hb dX2_closure_20 rfl (lv_at hl 0 rfl) ?_
  refine va_get (ci := 2) (v := .int (gi r 2)) (C := RX2) (T := TX2) (N := 11) hx hb htw uwX2 hown hE.1 (wo_me hw hk) 0 rfl rfl 2 (by decide) (htw _ mw171) (fun _ h9 => h9) rfl dX2_closure_21 ?_
  refine lv_icmp_ge (tgt := 61) hx hb dX2_closure_24 (by decide) (fun c9 => ?_) (fun c9 => ?_)
  · have hf := ifp c9 hf
    obtain ⟨q3, hfq3, eq3⟩ := out1_some hf
    subst eq3
    have hf := hfq3
    have hq := hq.2 _ rfl
    exact wX2_closure_61 C hk hf hq H locs ls hw hS (lv_sub hl [0, 1, 2, 3, 4] rfl)
  · have hf := ifn c9 hf
    refine lv_iload hx hb dX2_closure_27 (lv_at hl 5 rfl) ?_
    refine lv_iload_n hx hb dX2_closure_29 rfl (lv_at hl 1 rfl) ?_
    refine lv_icmp_eq (tgt := 55) hx hb dX2_closure_30 (by decide) (fun c8 => ?_) (fun c8 => ?_)
    · have hf := ifp c8 hf
      exact wX2_closure_55 C hk hf hq H locs ls hw hS hl
    · have hf := ifn c8 hf
      refine lv_aload_n hx hb dX2_closure_33 rfl (lv_at hl 0 rfl) ?_
      refine lv_iload hx hb dX2_closure_34 (lv_at hl 5 rfl) ?_
      refine lv_iload_n hx hb dX2_closure_36 rfl (lv_at hl 2 rfl) ?_
      obtain ⟨z4, hz4, hf⟩ := bd hf
      refine cl_Vs (rest := []) (kX2_makes (l := l) (Γ := Γ) (A := A) (G := G) (o := o) hk hz4) ⟨hx, hb, hml, hown, htw⟩ hE hw hS (wo_me hw hk) (q0 := 0) rfl rfl mw896 mw898 mw35 mw120 mw899 pdX2_makes ⟨Nat.le_of_ble_eq_true rfl, Nat.le_of_ble_eq_true rfl⟩ rfl rfl hl.1 (Nat.le_of_ble_eq_true rfl) dX2_closure_37 (fun H locs hw hS => ?_)
      refine lv_if_eq (tgt := 55) hx hb dX2_closure_40 (by decide) (fun c7 => ?_) (fun c7 => ?_)
      · have hf := ifp c7 hf
        exact wX2_closure_55 C hk hf hq H locs ls hw hS hl
      · have hf := ifn c7 hf
        refine lv_iload_n hx hb dX2_closure_43 rfl (lv_at hl 2 rfl) ?_
        refine lv_iconst (v := 1) hx hb dX2_closure_44 (by decide) ?_
        refine lv_aload_n hx hb dX2_closure_45 rfl (lv_at hl 0 rfl) ?_
        refine va_get (ci := 2) (v := .ref (aa Γ o 10)) (C := RX2) (T := TX2) (N := 11) hx hb htw uwX2 hown hE.1 (wo_me hw hk) 0 rfl rfl 10 (by decide) (htw _ mw190) (fun _ h9 => h9) rfl dX2_closure_46 ?_
        refine lv_iload hx hb dX2_closure_49 (lv_at hl 5 rfl) ?_
        obtain ⟨g5, hf⟩ := gd_some hf
        refine va_iald hx hb hE.1 (wo_me hw hk) 8 0 rfl rfl (inR_in g5) dX2_closure_51 ?_
        refine lv_ishl hx hb dX2_closure_52 ?_
        refine lv_ior hx hb dX2_closure_53 ?_
        obtain ⟨x6, hx6, hf⟩ := bd hf
        have hx6 := Option.some.inj hx6
        refine tp1i hx6 ?_
        refine lv_istore_n (lv' := [(3, .int x6), (0, .ref (ad Γ o)), (2, .int v2), (4, .int v4), (5, .int v5), (6, .int v6)]) hx hb dX2_closure_54 rfl hl (by decide) rfl (fun ls hl => ?_)
        exact wX2_closure_55 C hk hf hq H locs ls hw hS (lv_sub hl [1, 2, 0, 3, 4, 5] rfl)

set_option maxRecDepth 100000 in
set_option maxHeartbeats 4000000 in
theorem lwX2_closure_18 {p : Program} {l : Launch} {e : Env} {s : State} {m : MethodId} {args : Array Value} {below : List Frame} {meth : Method} {c : Code} {Γ : Gm} {A : Nat → Prop} {G : Gs} {o : Nat} {r : Rec} {v2 : Int32} {v3 : Int32} {v4 : Int32} {v5 : Int32} {v6 : Int32} {q : ((Int32 × Int32) ⊕ Int32)} {fin : Int32} (C : Cx p s m args meth c yX2_closure cX2_closure 7 (some .int) Γ A) (hk : kd Γ o = some 2) (hf : iter (fun st : Int32 × Int32 => bX2_closure_18 r v2 st.1 v4 v5 st.2) (v3, v6) = some q) (hq : (KC (fun st : Int32 × Int32 => Wk p l e { frames := 2, cells := 0, slots := 0, locals := 43 } s m args below meth c Γ A (ug G o r) (some (.int fin)) 5 7 [(0, .ref (ad Γ o)), (2, .int v2), (3, .int st.1), (4, .int st.2)] [] (ug G o r)) (fun x => x = fin)) q) : Wk p l e { frames := 2, cells := 0, slots := 0, locals := 43 } s m args below meth c Γ A (ug G o r) (some (.int fin)) 18 7 [(0, .ref (ad Γ o)), (2, .int v2), (3, .int v3), (4, .int v4), (5, .int v5), (6, .int v6)] [] (ug G o r) := by
  intro H locs ls hw hS hl
  refine iter_walk (P := (fun st : Int32 × Int32 => Wk p l e { frames := 2, cells := 0, slots := 0, locals := 43 } s m args below meth c Γ A (ug G o r) (some (.int fin)) 18 7 [(0, .ref (ad Γ o)), (2, .int v2), (3, .int st.1), (4, .int v4), (5, .int v5), (6, .int st.2)] [] (ug G o r))) (K := (KC (fun st : Int32 × Int32 => Wk p l e { frames := 2, cells := 0, slots := 0, locals := 43 } s m args below meth c Γ A (ug G o r) (some (.int fin)) 5 7 [(0, .ref (ad Γ o)), (2, .int v2), (3, .int st.1), (4, .int st.2)] [] (ug G o r)) (fun x => x = fin))) (fun st q hq1 h1 h2 => ?_) hf hq H locs ls hw hS hl
  exact wX2_closure_18 (v3 := st.1) (v6 := st.2) C hk hq1 ⟨h1, h2⟩

noncomputable def bX2_closure_5 (r : Rec) (v2 : Int32) (v3 : Int32) (v4 : Int32) : Option ((Int32 × Int32) ⊕ Int32) :=
  if 10 < v4 then some (.inr (v3)) else iter (fun st : Int32 × Int32 => bX2_closure_18 r v2 st.1 v4 v3 st.2) (v3, 0)
set_option maxRecDepth 100000 in
set_option maxHeartbeats 4000000 in
theorem wX2_closure_5 {p : Program} {l : Launch} {e : Env} {s : State} {m : MethodId} {args : Array Value} {below : List Frame} {meth : Method} {c : Code} {Γ : Gm} {A : Nat → Prop} {G : Gs} {o : Nat} {r : Rec} {v2 : Int32} {v3 : Int32} {v4 : Int32} {q : ((Int32 × Int32) ⊕ Int32)} {fin : Int32} (C : Cx p s m args meth c yX2_closure cX2_closure 7 (some .int) Γ A) (hk : kd Γ o = some 2) (hf : bX2_closure_5 r v2 v3 v4 = some q) (hq : (KC (fun st : Int32 × Int32 => Wk p l e { frames := 2, cells := 0, slots := 0, locals := 43 } s m args below meth c Γ A (ug G o r) (some (.int fin)) 5 7 [(0, .ref (ad Γ o)), (2, .int v2), (3, .int st.1), (4, .int st.2)] [] (ug G o r)) (fun x => x = fin)) q) : Wk p l e { frames := 2, cells := 0, slots := 0, locals := 43 } s m args below meth c Γ A (ug G o r) (some (.int fin)) 5 7 [(0, .ref (ad Γ o)), (2, .int v2), (3, .int v3), (4, .int v4)] [] (ug G o r) := by
  intro H locs ls hw hS hl
  unfold bX2_closure_5 at hf
  obtain ⟨hx, hb, hml, hr, hown, htw, hlocks, hE⟩ := id C
  have hown : s.vm.findClass RX2 = some m.cls := hown
  refine lv_iload hx hb dX2_closure_5 (lv_at hl 3 rfl) ?_
  refine lv_bipush (v := 10) hx hb dX2_closure_7 (by decide) ?_
  refine lv_icmp_gt (tgt := 76) hx hb dX2_closure_9 (by decide) (fun c10 => ?_) (fun c10 => ?_)
  · have hf := ifp c10 hf
    refine lv_iload_n hx hb dX2_closure_76 rfl (lv_at hl 2 rfl) ?_
    obtain rfl := Option.some.inj hf
    have hq := hq.2 _ rfl
    subst hq
    exact rt_i C hw hS dX2_closure_77
  · have hf := ifn c10 hf
    refine lv_iload_n hx hb dX2_closure_12 rfl (lv_at hl 2 rfl) ?_
    refine lv_istore (lv' := [(5, .int v3), (0, .ref (ad Γ o)), (2, .int v2), (3, .int v3), (4, .int v4)]) hx hb dX2_closure_13 hl (by decide) rfl (fun ls hl => ?_)
    refine lv_iconst (v := 0) hx hb dX2_closure_15 (by decide) ?_
    refine lv_istore (lv' := [(6, .int 0), (5, .int v3), (0, .ref (ad Γ o)), (2, .int v2), (3, .int v3), (4, .int v4)]) hx hb dX2_closure_16 hl (by decide) rfl (fun ls hl => ?_)
    exact lwX2_closure_18 C hk hf hq H locs ls hw hS (lv_sub hl [2, 3, 4, 5, 1, 0] rfl)

set_option maxRecDepth 100000 in
set_option maxHeartbeats 4000000 in
theorem lwX2_closure_5 {p : Program} {l : Launch} {e : Env} {s : State} {m : MethodId} {args : Array Value} {below : List Frame} {meth : Method} {c : Code} {Γ : Gm} {A : Nat → Prop} {G : Gs} {o : Nat} {r : Rec} {v2 : Int32} {v3 : Int32} {v4 : Int32} {q : Int32} {fin : Int32} (C : Cx p s m args meth c yX2_closure cX2_closure 7 (some .int) Γ A) (hk : kd Γ o = some 2) (hf : iter (fun st : Int32 × Int32 => bX2_closure_5 r v2 st.1 st.2) (v3, v4) = some q) (hq : (fun x => x = fin) q) : Wk p l e { frames := 2, cells := 0, slots := 0, locals := 43 } s m args below meth c Γ A (ug G o r) (some (.int fin)) 5 7 [(0, .ref (ad Γ o)), (2, .int v2), (3, .int v3), (4, .int v4)] [] (ug G o r) := by
  intro H locs ls hw hS hl
  refine iter_walk (P := (fun st : Int32 × Int32 => Wk p l e { frames := 2, cells := 0, slots := 0, locals := 43 } s m args below meth c Γ A (ug G o r) (some (.int fin)) 5 7 [(0, .ref (ad Γ o)), (2, .int v2), (3, .int st.1), (4, .int st.2)] [] (ug G o r))) (K := (fun x => x = fin)) (fun st q hq1 h1 h2 => ?_) hf hq H locs ls hw hS hl
  exact wX2_closure_5 (v3 := st.1) (v4 := st.2) C hk hq1 ⟨h1, h2⟩

noncomputable def fX2_closure (r : Rec) (v1 : Int32) (v2 : Int32) : Option Int32 :=
  iter (fun st : Int32 × Int32 => bX2_closure_5 r v2 st.1 st.2) (v1, 0)
set_option maxRecDepth 100000 in
set_option maxHeartbeats 4000000 in
theorem wX2_closure_e {p : Program} {l : Launch} {e : Env} {s : State} {m : MethodId} {args : Array Value} {below : List Frame} {meth : Method} {c : Code} {Γ : Gm} {A : Nat → Prop} {G : Gs} {o : Nat} {r : Rec} {v1 : Int32} {v2 : Int32} {q : Int32} {fin : Int32} (C : Cx p s m args meth c yX2_closure cX2_closure 7 (some .int) Γ A) (hk : kd Γ o = some 2) (hf : fX2_closure r v1 v2 = some q) (hq : (fun x => x = fin) q) : Wk p l e { frames := 2, cells := 0, slots := 0, locals := 43 } s m args below meth c Γ A (ug G o r) (some (.int fin)) 0 7 [(0, .ref (ad Γ o)), (1, .int v1), (2, .int v2)] [] (ug G o r) := by
  intro H locs ls hw hS hl
  unfold fX2_closure at hf
  obtain ⟨hx, hb, hml, hr, hown, htw, hlocks, hE⟩ := id C
  have hown : s.vm.findClass RX2 = some m.cls := hown
  refine lv_iload_n hx hb dX2_closure_0 rfl (lv_at hl 1 rfl) ?_
  refine lv_istore_n (lv' := [(3, .int v1), (0, .ref (ad Γ o)), (1, .int v1), (2, .int v2)]) hx hb dX2_closure_1 rfl hl (by decide) rfl (fun ls hl => ?_)
  refine lv_iconst (v := 0) hx hb dX2_closure_2 (by decide) ?_
  refine lv_istore (lv' := [(4, .int 0), (3, .int v1), (0, .ref (ad Γ o)), (1, .int v1), (2, .int v2)]) hx hb dX2_closure_3 hl (by decide) rfl (fun ls hl => ?_)
  exact lwX2_closure_5 C hk hf hq H locs ls hw hS (lv_sub hl [2, 4, 1, 0] rfl)

theorem kX2_closure {l : Launch} {Γ : Gm} {A : Nat → Prop} {G : Gs} {o : Nat} {r : Rec} {v1 : Int32} {v2 : Int32} {fin : Int32} (hk : kd Γ o = some 2) (hf : fX2_closure r v1 v2 = some fin) : Kt l yX2_closure cX2_closure 7 (some .int) 2 43 Γ A (ug G o r) (ug G o r) [.ref (ad Γ o), .int v1, .int v2] (some (.int fin)) :=
  kt_of (by decide) (Nat.le_of_ble_eq_true rfl) (fun p e s m args below meth c C => wX2_closure_e C hk hf rfl)
theorem kgX2_closure {l : Launch} {Γ : Gm} {A : Nat → Prop} {G : Gs} {o : Nat} {v1 : Int32} {v2 : Int32} {fin : Int32} (hk : kd Γ o = some 2) (hf : fX2_closure (G o) v1 v2 = some fin) : Kt l yX2_closure cX2_closure 7 (some .int) 2 43 Γ A G G [.ref (ad Γ o), .int v1, .int v2] (some (.int fin)) := by
  have h := kX2_closure (l := l) (A := A) (G := G) (r := G o) hk hf
  rw [ug_self] at h
  exact h
noncomputable def bX2_roundsTo_68 (r : Rec) (v2 : Int32) (v4 : Int32) (v5 : Int32) : Option ((Int32 × Int32) ⊕ Int32) :=
  some (.inl (v5, v4 + 1))
set_option maxRecDepth 100000 in
set_option maxHeartbeats 4000000 in
theorem wX2_roundsTo_68 {p : Program} {l : Launch} {e : Env} {s : State} {m : MethodId} {args : Array Value} {below : List Frame} {meth : Method} {c : Code} {Γ : Gm} {A : Nat → Prop} {G : Gs} {o : Nat} {r : Rec} {v2 : Int32} {v4 : Int32} {v5 : Int32} {q : ((Int32 × Int32) ⊕ Int32)} {fin : Int32} (C : Cx p s m args meth c yX2_roundsTo cX2_roundsTo 7 (some .int) Γ A) (hk : kd Γ o = some 2) (hf : bX2_roundsTo_68 r v2 v4 v5 = some q) (hq : (KC (fun st : Int32 × Int32 => Wk p l e { frames := 2, cells := 0, slots := 0, locals := 43 } s m args below meth c Γ A (ug G o r) (some (.int fin)) 5 7 [(0, .ref (ad Γ o)), (2, .int v2), (3, .int st.1), (4, .int st.2)] [] (ug G o r)) (fun x => x = fin)) q) : Wk p l e { frames := 2, cells := 0, slots := 0, locals := 43 } s m args below meth c Γ A (ug G o r) (some (.int fin)) 68 7 [(0, .ref (ad Γ o)), (2, .int v2), (4, .int v4), (5, .int v5)] [] (ug G o r) := by
  intro H locs ls hw hS hl
  unfold bX2_roundsTo_68 at hf
  obtain ⟨hx, hb, hml, hr, hown, htw, hlocks, hE⟩ := id C
  have hown : s.vm.findClass RX2 = some m.cls := hown
  refine lv_iload hx hb dX2_roundsTo_68 (lv_at hl 3 rfl) ?_
  refine lv_istore_n (lv' := [(3, .int v5), (0, .ref (ad Γ o)), (2, .int v2), (4, .int v4), (5, .int v5)]) hx hb dX2_roundsTo_70 rfl hl (by decide) rfl (fun ls hl => ?_)
  refine lv_iinc (v := v4 + 1) (lv' := [(4, .int (v4 + 1)), (3, .int v5), (0, .ref (ad Γ o)), (2, .int v2), (5, .int v5)]) hx hb dX2_roundsTo_71 hl (k := 3) rfl (by rfl) (by decide) rfl (fun ls hl => ?_)
  refine lv_goto (tgt := 5) hx hb dX2_roundsTo_74 (by decide) ?_
  obtain rfl := Option.some.inj hf
  exact hq.1 _ rfl H locs ls hw hS (lv_sub hl [2, 3, 1, 0] rfl)

noncomputable def bX2_roundsTo_62 (r : Rec) (v2 : Int32) (v3 : Int32) (v4 : Int32) (v5 : Int32) (v6 : Int32) : Option ((Int32 × Int32) ⊕ ((Int32 × Int32) ⊕ Int32)) :=
  some (.inl (v5, v6 + 1))
set_option maxRecDepth 100000 in
set_option maxHeartbeats 4000000 in
theorem wX2_roundsTo_62 {p : Program} {l : Launch} {e : Env} {s : State} {m : MethodId} {args : Array Value} {below : List Frame} {meth : Method} {c : Code} {Γ : Gm} {A : Nat → Prop} {G : Gs} {o : Nat} {r : Rec} {v2 : Int32} {v3 : Int32} {v4 : Int32} {v5 : Int32} {v6 : Int32} {q : ((Int32 × Int32) ⊕ ((Int32 × Int32) ⊕ Int32))} {fin : Int32} (C : Cx p s m args meth c yX2_roundsTo cX2_roundsTo 7 (some .int) Γ A) (hk : kd Γ o = some 2) (hf : bX2_roundsTo_62 r v2 v3 v4 v5 v6 = some q) (hq : (KC (fun st : Int32 × Int32 => Wk p l e { frames := 2, cells := 0, slots := 0, locals := 43 } s m args below meth c Γ A (ug G o r) (some (.int fin)) 29 7 [(0, .ref (ad Γ o)), (2, .int v2), (3, .int v3), (4, .int v4), (5, .int st.1), (6, .int st.2)] [] (ug G o r)) (KC (fun st : Int32 × Int32 => Wk p l e { frames := 2, cells := 0, slots := 0, locals := 43 } s m args below meth c Γ A (ug G o r) (some (.int fin)) 5 7 [(0, .ref (ad Γ o)), (2, .int v2), (3, .int st.1), (4, .int st.2)] [] (ug G o r)) (fun x => x = fin))) q) : Wk p l e { frames := 2, cells := 0, slots := 0, locals := 43 } s m args below meth c Γ A (ug G o r) (some (.int fin)) 62 7 [(0, .ref (ad Γ o)), (2, .int v2), (3, .int v3), (4, .int v4), (5, .int v5), (6, .int v6)] [] (ug G o r) := by
  intro H locs ls hw hS hl
  unfold bX2_roundsTo_62 at hf
  obtain ⟨hx, hb, hml, hr, hown, htw, hlocks, hE⟩ := id C
  have hown : s.vm.findClass RX2 = some m.cls := hown
  refine lv_iinc (v := v6 + 1) (lv' := [(6, .int (v6 + 1)), (0, .ref (ad Γ o)), (2, .int v2), (3, .int v3), (4, .int v4), (5, .int v5)]) hx hb dX2_roundsTo_62 hl (k := 5) rfl (by rfl) (by decide) rfl (fun ls hl => ?_)
  refine lv_goto (tgt := 29) hx hb dX2_roundsTo_65 (by decide) ?_
  obtain rfl := Option.some.inj hf
  exact hq.1 _ rfl H locs ls hw hS (lv_sub hl [1, 2, 3, 4, 5, 0] rfl)

noncomputable def bX2_roundsTo_29 (r : Rec) (v2 : Int32) (v3 : Int32) (v4 : Int32) (v5 : Int32) (v6 : Int32) : Option ((Int32 × Int32) ⊕ ((Int32 × Int32) ⊕ Int32)) :=
  if (gi r 2) ≤ v6 then out1 (bX2_roundsTo_68 r v2 v4 v5) else (fX2_makes r v6 v3).bind fun z2 => if z2 = 0 then bX2_roundsTo_62 r v2 v3 v4 v5 v6 else gd (inR v6 8) ((some (v5 ||| ((1 : Int32) <<< ((ga r 10 (Int32.toNatClampNeg v6)) &&& 31)))).bind fun x4 => bX2_roundsTo_62 r v2 v3 v4 x4 v6)
set_option maxRecDepth 100000 in
set_option maxHeartbeats 4000000 in
theorem wX2_roundsTo_29 {p : Program} {l : Launch} {e : Env} {s : State} {m : MethodId} {args : Array Value} {below : List Frame} {meth : Method} {c : Code} {Γ : Gm} {A : Nat → Prop} {G : Gs} {o : Nat} {r : Rec} {v2 : Int32} {v3 : Int32} {v4 : Int32} {v5 : Int32} {v6 : Int32} {q : ((Int32 × Int32) ⊕ ((Int32 × Int32) ⊕ Int32))} {fin : Int32} (C : Cx p s m args meth c yX2_roundsTo cX2_roundsTo 7 (some .int) Γ A) (hk : kd Γ o = some 2) (hf : bX2_roundsTo_29 r v2 v3 v4 v5 v6 = some q) (hq : (KC (fun st : Int32 × Int32 => Wk p l e { frames := 2, cells := 0, slots := 0, locals := 43 } s m args below meth c Γ A (ug G o r) (some (.int fin)) 29 7 [(0, .ref (ad Γ o)), (2, .int v2), (3, .int v3), (4, .int v4), (5, .int st.1), (6, .int st.2)] [] (ug G o r)) (KC (fun st : Int32 × Int32 => Wk p l e { frames := 2, cells := 0, slots := 0, locals := 43 } s m args below meth c Γ A (ug G o r) (some (.int fin)) 5 7 [(0, .ref (ad Γ o)), (2, .int v2), (3, .int st.1), (4, .int st.2)] [] (ug G o r)) (fun x => x = fin))) q) : Wk p l e { frames := 2, cells := 0, slots := 0, locals := 43 } s m args below meth c Γ A (ug G o r) (some (.int fin)) 29 7 [(0, .ref (ad Γ o)), (2, .int v2), (3, .int v3), (4, .int v4), (5, .int v5), (6, .int v6)] [] (ug G o r) := by
  intro H locs ls hw hS hl
  unfold bX2_roundsTo_29 at hf
  obtain ⟨hx, hb, hml, hr, hown, htw, hlocks, hE⟩ := id C
  have hown : s.vm.findClass RX2 = some m.cls := hown
  refine lv_iload hx hb dX2_roundsTo_29 (lv_at hl 5 rfl) ?_
  refine lv_aload_n hx hb dX2_roundsTo_31 rfl (lv_at hl 0 rfl) ?_
  refine va_get (ci := 2) (v := .int (gi r 2)) (C := RX2) (T := TX2) (N := 11) hx hb htw uwX2 hown hE.1 (wo_me hw hk) 0 rfl rfl 2 (by decide) (htw _ mw171) (fun _ h9 => h9) rfl dX2_roundsTo_32 ?_
  refine lv_icmp_ge (tgt := 68) hx hb dX2_roundsTo_35 (by decide) (fun c6 => ?_) (fun c6 => ?_)
  · have hf := ifp c6 hf
    obtain ⟨q1, hfq1, eq1⟩ := out1_some hf
    subst eq1
    have hf := hfq1
    have hq := hq.2 _ rfl
    exact wX2_roundsTo_68 C hk hf hq H locs ls hw hS (lv_sub hl [0, 1, 3, 4] rfl)
  · have hf := ifn c6 hf
    refine lv_aload_n hx hb dX2_roundsTo_38 rfl (lv_at hl 0 rfl) ?_
    refine lv_iload hx hb dX2_roundsTo_39 (lv_at hl 5 rfl) ?_
    refine lv_iload_n hx hb dX2_roundsTo_41 rfl (lv_at hl 2 rfl) ?_
    obtain ⟨z2, hz2, hf⟩ := bd hf
    refine cl_Vs (rest := []) (kX2_makes (l := l) (Γ := Γ) (A := A) (G := G) (o := o) hk hz2) ⟨hx, hb, hml, hown, htw⟩ hE hw hS (wo_me hw hk) (q0 := 0) rfl rfl mw896 mw898 mw35 mw120 mw899 pdX2_makes ⟨Nat.le_of_ble_eq_true rfl, Nat.le_of_ble_eq_true rfl⟩ rfl rfl hl.1 (Nat.le_of_ble_eq_true rfl) dX2_roundsTo_42 (fun H locs hw hS => ?_)
    refine lv_if_eq (tgt := 62) hx hb dX2_roundsTo_45 (by decide) (fun c5 => ?_) (fun c5 => ?_)
    · have hf := ifp c5 hf
      exact wX2_roundsTo_62 C hk hf hq H locs ls hw hS hl
    · have hf := ifn c5 hf
      refine lv_iload hx hb dX2_roundsTo_48 (lv_at hl 4 rfl) ?_
      refine lv_iconst (v := 1) hx hb dX2_roundsTo_50 (by decide) ?_
      refine lv_aload_n hx hb dX2_roundsTo_51 rfl (lv_at hl 0 rfl) ?_
      refine va_get (ci := 2) (v := .ref (aa Γ o 10)) (C := RX2) (T := TX2) (N := 11) hx hb htw uwX2 hown hE.1 (wo_me hw hk) 0 rfl rfl 10 (by decide) (htw _ mw190) (fun _ h9 => h9) rfl dX2_roundsTo_52 ?_
      refine lv_iload hx hb dX2_roundsTo_55 (lv_at hl 5 rfl) ?_
      obtain ⟨g3, hf⟩ := gd_some hf
      refine va_iald hx hb hE.1 (wo_me hw hk) 8 0 rfl rfl (inR_in g3) dX2_roundsTo_57 ?_
      refine lv_ishl hx hb dX2_roundsTo_58 ?_
      refine lv_ior hx hb dX2_roundsTo_59 ?_
      obtain ⟨x4, hx4, hf⟩ := bd hf
      have hx4 := Option.some.inj hx4
      refine tp1i hx4 ?_
      refine lv_istore (lv' := [(5, .int x4), (0, .ref (ad Γ o)), (2, .int v2), (3, .int v3), (4, .int v4), (6, .int v6)]) hx hb dX2_roundsTo_60 hl (by decide) rfl (fun ls hl => ?_)
      exact wX2_roundsTo_62 C hk hf hq H locs ls hw hS (lv_sub hl [1, 2, 3, 4, 0, 5] rfl)

set_option maxRecDepth 100000 in
set_option maxHeartbeats 4000000 in
theorem lwX2_roundsTo_29 {p : Program} {l : Launch} {e : Env} {s : State} {m : MethodId} {args : Array Value} {below : List Frame} {meth : Method} {c : Code} {Γ : Gm} {A : Nat → Prop} {G : Gs} {o : Nat} {r : Rec} {v2 : Int32} {v3 : Int32} {v4 : Int32} {v5 : Int32} {v6 : Int32} {q : ((Int32 × Int32) ⊕ Int32)} {fin : Int32} (C : Cx p s m args meth c yX2_roundsTo cX2_roundsTo 7 (some .int) Γ A) (hk : kd Γ o = some 2) (hf : iter (fun st : Int32 × Int32 => bX2_roundsTo_29 r v2 v3 v4 st.1 st.2) (v5, v6) = some q) (hq : (KC (fun st : Int32 × Int32 => Wk p l e { frames := 2, cells := 0, slots := 0, locals := 43 } s m args below meth c Γ A (ug G o r) (some (.int fin)) 5 7 [(0, .ref (ad Γ o)), (2, .int v2), (3, .int st.1), (4, .int st.2)] [] (ug G o r)) (fun x => x = fin)) q) : Wk p l e { frames := 2, cells := 0, slots := 0, locals := 43 } s m args below meth c Γ A (ug G o r) (some (.int fin)) 29 7 [(0, .ref (ad Γ o)), (2, .int v2), (3, .int v3), (4, .int v4), (5, .int v5), (6, .int v6)] [] (ug G o r) := by
  intro H locs ls hw hS hl
  refine iter_walk (P := (fun st : Int32 × Int32 => Wk p l e { frames := 2, cells := 0, slots := 0, locals := 43 } s m args below meth c Γ A (ug G o r) (some (.int fin)) 29 7 [(0, .ref (ad Γ o)), (2, .int v2), (3, .int v3), (4, .int v4), (5, .int st.1), (6, .int st.2)] [] (ug G o r))) (K := (KC (fun st : Int32 × Int32 => Wk p l e { frames := 2, cells := 0, slots := 0, locals := 43 } s m args below meth c Γ A (ug G o r) (some (.int fin)) 5 7 [(0, .ref (ad Γ o)), (2, .int v2), (3, .int st.1), (4, .int st.2)] [] (ug G o r)) (fun x => x = fin))) (fun st q hq1 h1 h2 => ?_) hf hq H locs ls hw hS hl
  exact wX2_roundsTo_29 (v5 := st.1) (v6 := st.2) C hk hq1 ⟨h1, h2⟩

noncomputable def bX2_roundsTo_5 (r : Rec) (v2 : Int32) (v3 : Int32) (v4 : Int32) : Option ((Int32 × Int32) ⊕ Int32) :=
  if 10 < v4 then some (.inr ((-1))) else (fX9_hasBit v3 v2).bind fun z7 => if z7 = 0 then iter (fun st : Int32 × Int32 => bX2_roundsTo_29 r v2 v3 v4 st.1 st.2) (v3, 0) else some (.inr (v4))
set_option maxRecDepth 100000 in
set_option maxHeartbeats 4000000 in
theorem wX2_roundsTo_5 {p : Program} {l : Launch} {e : Env} {s : State} {m : MethodId} {args : Array Value} {below : List Frame} {meth : Method} {c : Code} {Γ : Gm} {A : Nat → Prop} {G : Gs} {o : Nat} {r : Rec} {v2 : Int32} {v3 : Int32} {v4 : Int32} {q : ((Int32 × Int32) ⊕ Int32)} {fin : Int32} (C : Cx p s m args meth c yX2_roundsTo cX2_roundsTo 7 (some .int) Γ A) (hk : kd Γ o = some 2) (hf : bX2_roundsTo_5 r v2 v3 v4 = some q) (hq : (KC (fun st : Int32 × Int32 => Wk p l e { frames := 2, cells := 0, slots := 0, locals := 43 } s m args below meth c Γ A (ug G o r) (some (.int fin)) 5 7 [(0, .ref (ad Γ o)), (2, .int v2), (3, .int st.1), (4, .int st.2)] [] (ug G o r)) (fun x => x = fin)) q) : Wk p l e { frames := 2, cells := 0, slots := 0, locals := 43 } s m args below meth c Γ A (ug G o r) (some (.int fin)) 5 7 [(0, .ref (ad Γ o)), (2, .int v2), (3, .int v3), (4, .int v4)] [] (ug G o r) := by
  intro H locs ls hw hS hl
  unfold bX2_roundsTo_5 at hf
  obtain ⟨hx, hb, hml, hr, hown, htw, hlocks, hE⟩ := id C
  have hown : s.vm.findClass RX2 = some m.cls := hown
  refine lv_iload hx hb dX2_roundsTo_5 (lv_at hl 3 rfl) ?_
  refine lv_bipush (v := 10) hx hb dX2_roundsTo_7 (by decide) ?_
  refine lv_icmp_gt (tgt := 77) hx hb dX2_roundsTo_9 (by decide) (fun c9 => ?_) (fun c9 => ?_)
  · have hf := ifp c9 hf
    refine lv_iconst (v := (-1)) hx hb dX2_roundsTo_77 (by decide) ?_
    obtain rfl := Option.some.inj hf
    have hq := hq.2 _ rfl
    subst hq
    exact rt_i C hw hS dX2_roundsTo_78
  · have hf := ifn c9 hf
    refine lv_iload_n hx hb dX2_roundsTo_12 rfl (lv_at hl 2 rfl) ?_
    refine lv_iload_n hx hb dX2_roundsTo_13 rfl (lv_at hl 1 rfl) ?_
    obtain ⟨z7, hz7, hf⟩ := bd hf
    refine cl_SN (rest := []) (kX9_hasBit (l := l) (Γ := Γ) (A := A) (G := (ug G o r)) hz7) ⟨hx, hb, hml, hown, htw⟩ hE hw hS (nw8 hE.2.2.1) mw717 mw118 mw718 pdX9_hasBit ⟨Nat.le_of_ble_eq_true rfl, Nat.le_of_ble_eq_true rfl⟩ rfl rfl hl.1 (Nat.le_of_ble_eq_true rfl) dX2_roundsTo_14 (fun H locs hw hS => ?_)
    refine lv_if_eq (tgt := 23) hx hb dX2_roundsTo_17 (by decide) (fun c8 => ?_) (fun c8 => ?_)
    · have hf := ifp c8 hf
      refine lv_iload_n hx hb dX2_roundsTo_23 rfl (lv_at hl 2 rfl) ?_
      refine lv_istore (lv' := [(5, .int v3), (0, .ref (ad Γ o)), (2, .int v2), (3, .int v3), (4, .int v4)]) hx hb dX2_roundsTo_24 hl (by decide) rfl (fun ls hl => ?_)
      refine lv_iconst (v := 0) hx hb dX2_roundsTo_26 (by decide) ?_
      refine lv_istore (lv' := [(6, .int 0), (5, .int v3), (0, .ref (ad Γ o)), (2, .int v2), (3, .int v3), (4, .int v4)]) hx hb dX2_roundsTo_27 hl (by decide) rfl (fun ls hl => ?_)
      exact lwX2_roundsTo_29 C hk hf hq H locs ls hw hS (lv_sub hl [2, 3, 4, 5, 1, 0] rfl)
    · have hf := ifn c8 hf
      refine lv_iload hx hb dX2_roundsTo_20 (lv_at hl 3 rfl) ?_
      obtain rfl := Option.some.inj hf
      have hq := hq.2 _ rfl
      subst hq
      exact rt_i C hw hS dX2_roundsTo_22

set_option maxRecDepth 100000 in
set_option maxHeartbeats 4000000 in
theorem lwX2_roundsTo_5 {p : Program} {l : Launch} {e : Env} {s : State} {m : MethodId} {args : Array Value} {below : List Frame} {meth : Method} {c : Code} {Γ : Gm} {A : Nat → Prop} {G : Gs} {o : Nat} {r : Rec} {v2 : Int32} {v3 : Int32} {v4 : Int32} {q : Int32} {fin : Int32} (C : Cx p s m args meth c yX2_roundsTo cX2_roundsTo 7 (some .int) Γ A) (hk : kd Γ o = some 2) (hf : iter (fun st : Int32 × Int32 => bX2_roundsTo_5 r v2 st.1 st.2) (v3, v4) = some q) (hq : (fun x => x = fin) q) : Wk p l e { frames := 2, cells := 0, slots := 0, locals := 43 } s m args below meth c Γ A (ug G o r) (some (.int fin)) 5 7 [(0, .ref (ad Γ o)), (2, .int v2), (3, .int v3), (4, .int v4)] [] (ug G o r) := by
  intro H locs ls hw hS hl
  refine iter_walk (P := (fun st : Int32 × Int32 => Wk p l e { frames := 2, cells := 0, slots := 0, locals := 43 } s m args below meth c Γ A (ug G o r) (some (.int fin)) 5 7 [(0, .ref (ad Γ o)), (2, .int v2), (3, .int st.1), (4, .int st.2)] [] (ug G o r))) (K := (fun x => x = fin)) (fun st q hq1 h1 h2 => ?_) hf hq H locs ls hw hS hl
  exact wX2_roundsTo_5 (v3 := st.1) (v4 := st.2) C hk hq1 ⟨h1, h2⟩

noncomputable def fX2_roundsTo (r : Rec) (v1 : Int32) (v2 : Int32) : Option Int32 :=
  iter (fun st : Int32 × Int32 => bX2_roundsTo_5 r v2 st.1 st.2) (v1, 0)
set_option maxRecDepth 100000 in
set_option maxHeartbeats 4000000 in
theorem wX2_roundsTo_e {p : Program} {l : Launch} {e : Env} {s : State} {m : MethodId} {args : Array Value} {below : List Frame} {meth : Method} {c : Code} {Γ : Gm} {A : Nat → Prop} {G : Gs} {o : Nat} {r : Rec} {v1 : Int32} {v2 : Int32} {q : Int32} {fin : Int32} (C : Cx p s m args meth c yX2_roundsTo cX2_roundsTo 7 (some .int) Γ A) (hk : kd Γ o = some 2) (hf : fX2_roundsTo r v1 v2 = some q) (hq : (fun x => x = fin) q) : Wk p l e { frames := 2, cells := 0, slots := 0, locals := 43 } s m args below meth c Γ A (ug G o r) (some (.int fin)) 0 7 [(0, .ref (ad Γ o)), (1, .int v1), (2, .int v2)] [] (ug G o r) := by
  intro H locs ls hw hS hl
  unfold fX2_roundsTo at hf
  obtain ⟨hx, hb, hml, hr, hown, htw, hlocks, hE⟩ := id C
  have hown : s.vm.findClass RX2 = some m.cls := hown
  refine lv_iload_n hx hb dX2_roundsTo_0 rfl (lv_at hl 1 rfl) ?_
  refine lv_istore_n (lv' := [(3, .int v1), (0, .ref (ad Γ o)), (1, .int v1), (2, .int v2)]) hx hb dX2_roundsTo_1 rfl hl (by decide) rfl (fun ls hl => ?_)
  refine lv_iconst (v := 0) hx hb dX2_roundsTo_2 (by decide) ?_
  refine lv_istore (lv' := [(4, .int 0), (3, .int v1), (0, .ref (ad Γ o)), (1, .int v1), (2, .int v2)]) hx hb dX2_roundsTo_3 hl (by decide) rfl (fun ls hl => ?_)
  exact lwX2_roundsTo_5 C hk hf hq H locs ls hw hS (lv_sub hl [2, 4, 1, 0] rfl)

theorem kX2_roundsTo {l : Launch} {Γ : Gm} {A : Nat → Prop} {G : Gs} {o : Nat} {r : Rec} {v1 : Int32} {v2 : Int32} {fin : Int32} (hk : kd Γ o = some 2) (hf : fX2_roundsTo r v1 v2 = some fin) : Kt l yX2_roundsTo cX2_roundsTo 7 (some .int) 2 43 Γ A (ug G o r) (ug G o r) [.ref (ad Γ o), .int v1, .int v2] (some (.int fin)) :=
  kt_of (by decide) (Nat.le_of_ble_eq_true rfl) (fun p e s m args below meth c C => wX2_roundsTo_e C hk hf rfl)
theorem kgX2_roundsTo {l : Launch} {Γ : Gm} {A : Nat → Prop} {G : Gs} {o : Nat} {v1 : Int32} {v2 : Int32} {fin : Int32} (hk : kd Γ o = some 2) (hf : fX2_roundsTo (G o) v1 v2 = some fin) : Kt l yX2_roundsTo cX2_roundsTo 7 (some .int) 2 43 Γ A G G [.ref (ad Γ o), .int v1, .int v2] (some (.int fin)) := by
  have h := kX2_roundsTo (l := l) (A := A) (G := G) (r := G o) hk hf
  rw [ug_self] at h
  exact h
