noncomputable def bX2_worthOfAll_60 (r : Rec) (v1 : Int32) (v2 : Int32) (v3 : Int32) (v4 : Int32) : Option ((Int32 × Int32) ⊕ Int32) :=
  some (.inl (v3, v4 + 1))
set_option maxRecDepth 100000 in
set_option maxHeartbeats 4000000 in
theorem wX2_worthOfAll_60 {p : Program} {l : Launch} {e : Env} {s : State} {m : MethodId} {args : Array Value} {below : List Frame} {meth : Method} {c : Code} {Γ : Gm} {A : Nat → Prop} {G : Gs} {o : Nat} {r : Rec} {v1 : Int32} {v2 : Int32} {v3 : Int32} {v4 : Int32} {q : ((Int32 × Int32) ⊕ Int32)} {fin : Int32} (C : Cx p s m args meth c yX2_worthOfAll cX2_worthOfAll 6 (some .int) Γ A) (hk : kd Γ o = some 2) (hf : bX2_worthOfAll_60 r v1 v2 v3 v4 = some q) (hq : (KC (fun st : Int32 × Int32 => Wk p l e { frames := 2, cells := 0, slots := 0, locals := 46 } s m args below meth c Γ A (ug G o r) (some (.int fin)) 5 6 [(0, .ref (ad Γ o)), (1, .int v1), (2, .int v2), (3, .int st.1), (4, .int st.2)] [] (ug G o r)) (fun x => x = fin)) q) : Wk p l e { frames := 2, cells := 0, slots := 0, locals := 46 } s m args below meth c Γ A (ug G o r) (some (.int fin)) 60 6 [(0, .ref (ad Γ o)), (1, .int v1), (2, .int v2), (3, .int v3), (4, .int v4)] [] (ug G o r) := by
  intro H locs ls hw hS hl
  unfold bX2_worthOfAll_60 at hf
  obtain ⟨hx, hb, hml, hr, hown, htw, hlocks, hE⟩ := id C
  have hown : s.vm.findClass RX2 = some m.cls := hown
  refine lv_iinc (v := v4 + 1) (lv' := [(4, .int (v4 + 1)), (0, .ref (ad Γ o)), (1, .int v1), (2, .int v2), (3, .int v3)]) hx hb dX2_worthOfAll_60 hl (k := 4) rfl (by rfl) (by decide) rfl (fun ls hl => ?_)
  refine lv_goto (tgt := 5) hx hb dX2_worthOfAll_63 (by decide) ?_
  obtain rfl := Option.some.inj hf
  exact hq.1 _ rfl H locs ls hw hS (lv_sub hl [1, 2, 3, 4, 0] rfl)

noncomputable def bX2_worthOfAll_49 (r : Rec) (v1 : Int32) (v2 : Int32) (v4 : Int32) (v5 : Int32) (s0 : Int32) (s1 : Int32) (s2 : Int32) (s4 : Int32) : Option ((Int32 × Int32) ⊕ ((Int32 × Int32) ⊕ Int32)) :=
  (fX2_worthIfTaste r s2 s1 s0).bind fun z1 => some (.inl (s4 + z1, v5 + 1))
set_option maxRecDepth 100000 in
set_option maxHeartbeats 4000000 in
theorem wX2_worthOfAll_49 {p : Program} {l : Launch} {e : Env} {s : State} {m : MethodId} {args : Array Value} {below : List Frame} {meth : Method} {c : Code} {Γ : Gm} {A : Nat → Prop} {G : Gs} {o : Nat} {r : Rec} {v1 : Int32} {v2 : Int32} {v4 : Int32} {v5 : Int32} {s0 : Int32} {s1 : Int32} {s2 : Int32} {s4 : Int32} {q : ((Int32 × Int32) ⊕ ((Int32 × Int32) ⊕ Int32))} {fin : Int32} (C : Cx p s m args meth c yX2_worthOfAll cX2_worthOfAll 6 (some .int) Γ A) (hk : kd Γ o = some 2) (hf : bX2_worthOfAll_49 r v1 v2 v4 v5 s0 s1 s2 s4 = some q) (hq : (KC (fun st : Int32 × Int32 => Wk p l e { frames := 2, cells := 0, slots := 0, locals := 46 } s m args below meth c Γ A (ug G o r) (some (.int fin)) 17 6 [(0, .ref (ad Γ o)), (1, .int v1), (2, .int v2), (3, .int st.1), (4, .int v4), (5, .int st.2)] [] (ug G o r)) (KC (fun st : Int32 × Int32 => Wk p l e { frames := 2, cells := 0, slots := 0, locals := 46 } s m args below meth c Γ A (ug G o r) (some (.int fin)) 5 6 [(0, .ref (ad Γ o)), (1, .int v1), (2, .int v2), (3, .int st.1), (4, .int st.2)] [] (ug G o r)) (fun x => x = fin))) q) : Wk p l e { frames := 2, cells := 0, slots := 0, locals := 46 } s m args below meth c Γ A (ug G o r) (some (.int fin)) 49 6 [(0, .ref (ad Γ o)), (1, .int v1), (2, .int v2), (4, .int v4), (5, .int v5)] [.int s0, .int s1, .int s2, .ref (ad Γ o), .int s4] (ug G o r) := by
  intro H locs ls hw hS hl
  unfold bX2_worthOfAll_49 at hf
  obtain ⟨hx, hb, hml, hr, hown, htw, hlocks, hE⟩ := id C
  have hown : s.vm.findClass RX2 = some m.cls := hown
  obtain ⟨z1, hz1, hf⟩ := bd hf
  refine cl_Vs (rest := [.int s4]) (kX2_worthIfTaste (l := l) (Γ := Γ) (A := A) (G := G) (o := o) hk hz1) ⟨hx, hb, hml, hown, htw⟩ hE hw hS (wo_me hw hk) (q0 := 0) rfl rfl mw712 mw713 mw714 mw120 mw715 pdX2_worthIfTaste ⟨Nat.le_of_ble_eq_true rfl, Nat.le_of_ble_eq_true rfl⟩ rfl rfl hl.1 (Nat.le_of_ble_eq_true rfl) dX2_worthOfAll_49 (fun H locs hw hS => ?_)
  refine lv_iadd hx hb dX2_worthOfAll_52 ?_
  refine lv_istore_n (lv' := [(3, .int (s4 + z1)), (0, .ref (ad Γ o)), (1, .int v1), (2, .int v2), (4, .int v4), (5, .int v5)]) hx hb dX2_worthOfAll_53 rfl hl (by decide) rfl (fun ls hl => ?_)
  refine lv_iinc (v := v5 + 1) (lv' := [(5, .int (v5 + 1)), (3, .int (s4 + z1)), (0, .ref (ad Γ o)), (1, .int v1), (2, .int v2), (4, .int v4)]) hx hb dX2_worthOfAll_54 hl (k := 5) rfl (by rfl) (by decide) rfl (fun ls hl => ?_)
  refine lv_goto (tgt := 17) hx hb dX2_worthOfAll_57 (by decide) ?_
  obtain rfl := Option.some.inj hf
  exact hq.1 _ rfl H locs ls hw hS (lv_sub hl [2, 3, 4, 1, 5, 0] rfl)

noncomputable def bX2_worthOfAll_17 (r : Rec) (v1 : Int32) (v2 : Int32) (v3 : Int32) (v4 : Int32) (v5 : Int32) : Option ((Int32 × Int32) ⊕ ((Int32 × Int32) ⊕ Int32)) :=
  if (gi r 1) ≤ v5 then out1 (bX2_worthOfAll_60 r v1 v2 v3 v4) else if v4 = v1 then bX2_worthOfAll_49 r v1 v2 v4 v5 v2 v4 v5 v3 else gd (inR v4 8) (bX2_worthOfAll_49 r v1 v2 v4 v5 (ga r 3 (Int32.toNatClampNeg v4)) v4 v5 v3)
set_option maxRecDepth 100000 in
set_option maxHeartbeats 4000000 in
theorem wX2_worthOfAll_17 {p : Program} {l : Launch} {e : Env} {s : State} {m : MethodId} {args : Array Value} {below : List Frame} {meth : Method} {c : Code} {Γ : Gm} {A : Nat → Prop} {G : Gs} {o : Nat} {r : Rec} {v1 : Int32} {v2 : Int32} {v3 : Int32} {v4 : Int32} {v5 : Int32} {q : ((Int32 × Int32) ⊕ ((Int32 × Int32) ⊕ Int32))} {fin : Int32} (C : Cx p s m args meth c yX2_worthOfAll cX2_worthOfAll 6 (some .int) Γ A) (hk : kd Γ o = some 2) (hf : bX2_worthOfAll_17 r v1 v2 v3 v4 v5 = some q) (hq : (KC (fun st : Int32 × Int32 => Wk p l e { frames := 2, cells := 0, slots := 0, locals := 46 } s m args below meth c Γ A (ug G o r) (some (.int fin)) 17 6 [(0, .ref (ad Γ o)), (1, .int v1), (2, .int v2), (3, .int st.1), (4, .int v4), (5, .int st.2)] [] (ug G o r)) (KC (fun st : Int32 × Int32 => Wk p l e { frames := 2, cells := 0, slots := 0, locals := 46 } s m args below meth c Γ A (ug G o r) (some (.int fin)) 5 6 [(0, .ref (ad Γ o)), (1, .int v1), (2, .int v2), (3, .int st.1), (4, .int st.2)] [] (ug G o r)) (fun x => x = fin))) q) : Wk p l e { frames := 2, cells := 0, slots := 0, locals := 46 } s m args below meth c Γ A (ug G o r) (some (.int fin)) 17 6 [(0, .ref (ad Γ o)), (1, .int v1), (2, .int v2), (3, .int v3), (4, .int v4), (5, .int v5)] [] (ug G o r) := by
  intro H locs ls hw hS hl
  unfold bX2_worthOfAll_17 at hf
  obtain ⟨hx, hb, hml, hr, hown, htw, hlocks, hE⟩ := id C
  have hown : s.vm.findClass RX2 = some m.cls := hown
  refine lv_iload hx hb dX2_worthOfAll_17 (lv_at hl 5 rfl) ?_
  refine lv_aload_n hx hb dX2_worthOfAll_19 rfl (lv_at hl 0 rfl) ?_
  refine va_get (ci := 2) (v := .int (gi r 1)) (C := RX2) (T := TX2) (N := 11) hx hb htw uwX2 hown hE.1 (wo_me hw hk) 0 rfl rfl 1 (by decide) (htw _ mw165) (fun _ h9 => h9) rfl dX2_worthOfAll_20 ?_
  refine lv_icmp_ge (tgt := 60) hx hb dX2_worthOfAll_23 (by decide) (fun c5 => ?_) (fun c5 => ?_)
  · have hf := ifp c5 hf
    obtain ⟨q2, hfq2, eq2⟩ := out1_some hf
    subst eq2
    have hf := hfq2
    have hq := hq.2 _ rfl
    exact wX2_worthOfAll_60 C hk hf hq H locs ls hw hS (lv_sub hl [0, 1, 2, 3, 4] rfl)
  · have hf := ifn c5 hf
    refine lv_iload_n hx hb dX2_worthOfAll_26 rfl (lv_at hl 3 rfl) ?_
    refine lv_aload_n hx hb dX2_worthOfAll_27 rfl (lv_at hl 0 rfl) ?_
    refine lv_iload hx hb dX2_worthOfAll_28 (lv_at hl 5 rfl) ?_
    refine lv_iload hx hb dX2_worthOfAll_30 (lv_at hl 4 rfl) ?_
    refine lv_iload hx hb dX2_worthOfAll_32 (lv_at hl 4 rfl) ?_
    refine lv_iload_n hx hb dX2_worthOfAll_34 rfl (lv_at hl 1 rfl) ?_
    refine lv_icmp_ne (tgt := 42) hx hb dX2_worthOfAll_35 (by decide) (fun c4 => ?_) (fun c4 => ?_)
    · have hf := ifn c4 hf
      refine lv_aload_n hx hb dX2_worthOfAll_42 rfl (lv_at hl 0 rfl) ?_
      refine va_get (ci := 2) (v := .ref (aa Γ o 3)) (C := RX2) (T := TX2) (N := 11) hx hb htw uwX2 hown hE.1 (wo_me hw hk) 0 rfl rfl 3 (by decide) (htw _ mw173) (fun _ h9 => h9) rfl dX2_worthOfAll_43 ?_
      refine lv_iload hx hb dX2_worthOfAll_46 (lv_at hl 4 rfl) ?_
      obtain ⟨g3, hf⟩ := gd_some hf
      refine va_iald hx hb hE.1 (wo_me hw hk) 1 0 rfl rfl (inR_in g3) dX2_worthOfAll_48 ?_
      exact wX2_worthOfAll_49 C hk hf hq H locs ls hw hS (lv_sub hl [0, 1, 2, 4, 5] rfl)
    · have hf := ifp c4 hf
      refine lv_iload_n hx hb dX2_worthOfAll_38 rfl (lv_at hl 2 rfl) ?_
      refine lv_goto (tgt := 49) hx hb dX2_worthOfAll_39 (by decide) ?_
      exact wX2_worthOfAll_49 C hk hf hq H locs ls hw hS (lv_sub hl [0, 1, 2, 4, 5] rfl)

set_option maxRecDepth 100000 in
set_option maxHeartbeats 4000000 in
theorem lwX2_worthOfAll_17 {p : Program} {l : Launch} {e : Env} {s : State} {m : MethodId} {args : Array Value} {below : List Frame} {meth : Method} {c : Code} {Γ : Gm} {A : Nat → Prop} {G : Gs} {o : Nat} {r : Rec} {v1 : Int32} {v2 : Int32} {v3 : Int32} {v4 : Int32} {v5 : Int32} {q : ((Int32 × Int32) ⊕ Int32)} {fin : Int32} (C : Cx p s m args meth c yX2_worthOfAll cX2_worthOfAll 6 (some .int) Γ A) (hk : kd Γ o = some 2) (hf : iter (fun st : Int32 × Int32 => bX2_worthOfAll_17 r v1 v2 st.1 v4 st.2) (v3, v5) = some q) (hq : (KC (fun st : Int32 × Int32 => Wk p l e { frames := 2, cells := 0, slots := 0, locals := 46 } s m args below meth c Γ A (ug G o r) (some (.int fin)) 5 6 [(0, .ref (ad Γ o)), (1, .int v1), (2, .int v2), (3, .int st.1), (4, .int st.2)] [] (ug G o r)) (fun x => x = fin)) q) : Wk p l e { frames := 2, cells := 0, slots := 0, locals := 46 } s m args below meth c Γ A (ug G o r) (some (.int fin)) 17 6 [(0, .ref (ad Γ o)), (1, .int v1), (2, .int v2), (3, .int v3), (4, .int v4), (5, .int v5)] [] (ug G o r) := by
  intro H locs ls hw hS hl
  refine iter_walk (P := (fun st : Int32 × Int32 => Wk p l e { frames := 2, cells := 0, slots := 0, locals := 46 } s m args below meth c Γ A (ug G o r) (some (.int fin)) 17 6 [(0, .ref (ad Γ o)), (1, .int v1), (2, .int v2), (3, .int st.1), (4, .int v4), (5, .int st.2)] [] (ug G o r))) (K := (KC (fun st : Int32 × Int32 => Wk p l e { frames := 2, cells := 0, slots := 0, locals := 46 } s m args below meth c Γ A (ug G o r) (some (.int fin)) 5 6 [(0, .ref (ad Γ o)), (1, .int v1), (2, .int v2), (3, .int st.1), (4, .int st.2)] [] (ug G o r)) (fun x => x = fin))) (fun st q hq1 h1 h2 => ?_) hf hq H locs ls hw hS hl
  exact wX2_worthOfAll_17 (v3 := st.1) (v5 := st.2) C hk hq1 ⟨h1, h2⟩

noncomputable def bX2_worthOfAll_5 (r : Rec) (v1 : Int32) (v2 : Int32) (v3 : Int32) (v4 : Int32) : Option ((Int32 × Int32) ⊕ Int32) :=
  if (gi r 0) ≤ v4 then some (.inr (v3)) else iter (fun st : Int32 × Int32 => bX2_worthOfAll_17 r v1 v2 st.1 v4 st.2) (v3, 0)
set_option maxRecDepth 100000 in
set_option maxHeartbeats 4000000 in
theorem wX2_worthOfAll_5 {p : Program} {l : Launch} {e : Env} {s : State} {m : MethodId} {args : Array Value} {below : List Frame} {meth : Method} {c : Code} {Γ : Gm} {A : Nat → Prop} {G : Gs} {o : Nat} {r : Rec} {v1 : Int32} {v2 : Int32} {v3 : Int32} {v4 : Int32} {q : ((Int32 × Int32) ⊕ Int32)} {fin : Int32} (C : Cx p s m args meth c yX2_worthOfAll cX2_worthOfAll 6 (some .int) Γ A) (hk : kd Γ o = some 2) (hf : bX2_worthOfAll_5 r v1 v2 v3 v4 = some q) (hq : (KC (fun st : Int32 × Int32 => Wk p l e { frames := 2, cells := 0, slots := 0, locals := 46 } s m args below meth c Γ A (ug G o r) (some (.int fin)) 5 6 [(0, .ref (ad Γ o)), (1, .int v1), (2, .int v2), (3, .int st.1), (4, .int st.2)] [] (ug G o r)) (fun x => x = fin)) q) : Wk p l e { frames := 2, cells := 0, slots := 0, locals := 46 } s m args below meth c Γ A (ug G o r) (some (.int fin)) 5 6 [(0, .ref (ad Γ o)), (1, .int v1), (2, .int v2), (3, .int v3), (4, .int v4)] [] (ug G o r) := by
  intro H locs ls hw hS hl
  unfold bX2_worthOfAll_5 at hf
  obtain ⟨hx, hb, hml, hr, hown, htw, hlocks, hE⟩ := id C
  have hown : s.vm.findClass RX2 = some m.cls := hown
  refine lv_iload hx hb dX2_worthOfAll_5 (lv_at hl 4 rfl) ?_
  refine lv_aload_n hx hb dX2_worthOfAll_7 rfl (lv_at hl 0 rfl) ?_
  refine va_get (ci := 2) (v := .int (gi r 0)) (C := RX2) (T := TX2) (N := 11) hx hb htw uwX2 hown hE.1 (wo_me hw hk) 0 rfl rfl 0 (by decide) (htw _ mw160) (fun _ h9 => h9) rfl dX2_worthOfAll_8 ?_
  refine lv_icmp_ge (tgt := 66) hx hb dX2_worthOfAll_11 (by decide) (fun c6 => ?_) (fun c6 => ?_)
  · have hf := ifp c6 hf
    refine lv_iload_n hx hb dX2_worthOfAll_66 rfl (lv_at hl 3 rfl) ?_
    obtain rfl := Option.some.inj hf
    have hq := hq.2 _ rfl
    subst hq
    exact rt_i C hw hS dX2_worthOfAll_67
  · have hf := ifn c6 hf
    refine lv_iconst (v := 0) hx hb dX2_worthOfAll_14 (by decide) ?_
    refine lv_istore (lv' := [(5, .int 0), (0, .ref (ad Γ o)), (1, .int v1), (2, .int v2), (3, .int v3), (4, .int v4)]) hx hb dX2_worthOfAll_15 hl (by decide) rfl (fun ls hl => ?_)
    exact lwX2_worthOfAll_17 C hk hf hq H locs ls hw hS (lv_sub hl [1, 2, 3, 4, 5, 0] rfl)

set_option maxRecDepth 100000 in
set_option maxHeartbeats 4000000 in
theorem lwX2_worthOfAll_5 {p : Program} {l : Launch} {e : Env} {s : State} {m : MethodId} {args : Array Value} {below : List Frame} {meth : Method} {c : Code} {Γ : Gm} {A : Nat → Prop} {G : Gs} {o : Nat} {r : Rec} {v1 : Int32} {v2 : Int32} {v3 : Int32} {v4 : Int32} {q : Int32} {fin : Int32} (C : Cx p s m args meth c yX2_worthOfAll cX2_worthOfAll 6 (some .int) Γ A) (hk : kd Γ o = some 2) (hf : iter (fun st : Int32 × Int32 => bX2_worthOfAll_5 r v1 v2 st.1 st.2) (v3, v4) = some q) (hq : (fun x => x = fin) q) : Wk p l e { frames := 2, cells := 0, slots := 0, locals := 46 } s m args below meth c Γ A (ug G o r) (some (.int fin)) 5 6 [(0, .ref (ad Γ o)), (1, .int v1), (2, .int v2), (3, .int v3), (4, .int v4)] [] (ug G o r) := by
  intro H locs ls hw hS hl
  refine iter_walk (P := (fun st : Int32 × Int32 => Wk p l e { frames := 2, cells := 0, slots := 0, locals := 46 } s m args below meth c Γ A (ug G o r) (some (.int fin)) 5 6 [(0, .ref (ad Γ o)), (1, .int v1), (2, .int v2), (3, .int st.1), (4, .int st.2)] [] (ug G o r))) (K := (fun x => x = fin)) (fun st q hq1 h1 h2 => ?_) hf hq H locs ls hw hS hl
  exact wX2_worthOfAll_5 (v3 := st.1) (v4 := st.2) C hk hq1 ⟨h1, h2⟩

noncomputable def fX2_worthOfAll (r : Rec) (v1 : Int32) (v2 : Int32) : Option Int32 :=
  iter (fun st : Int32 × Int32 => bX2_worthOfAll_5 r v1 v2 st.1 st.2) (0, 0)
set_option maxRecDepth 100000 in
set_option maxHeartbeats 4000000 in
theorem wX2_worthOfAll_e {p : Program} {l : Launch} {e : Env} {s : State} {m : MethodId} {args : Array Value} {below : List Frame} {meth : Method} {c : Code} {Γ : Gm} {A : Nat → Prop} {G : Gs} {o : Nat} {r : Rec} {v1 : Int32} {v2 : Int32} {q : Int32} {fin : Int32} (C : Cx p s m args meth c yX2_worthOfAll cX2_worthOfAll 6 (some .int) Γ A) (hk : kd Γ o = some 2) (hf : fX2_worthOfAll r v1 v2 = some q) (hq : (fun x => x = fin) q) : Wk p l e { frames := 2, cells := 0, slots := 0, locals := 46 } s m args below meth c Γ A (ug G o r) (some (.int fin)) 0 6 [(0, .ref (ad Γ o)), (1, .int v1), (2, .int v2)] [] (ug G o r) := by
  intro H locs ls hw hS hl
  unfold fX2_worthOfAll at hf
  obtain ⟨hx, hb, hml, hr, hown, htw, hlocks, hE⟩ := id C
  have hown : s.vm.findClass RX2 = some m.cls := hown
  refine lv_iconst (v := 0) hx hb dX2_worthOfAll_0 (by decide) ?_
  refine lv_istore_n (lv' := [(3, .int 0), (0, .ref (ad Γ o)), (1, .int v1), (2, .int v2)]) hx hb dX2_worthOfAll_1 rfl hl (by decide) rfl (fun ls hl => ?_)
  refine lv_iconst (v := 0) hx hb dX2_worthOfAll_2 (by decide) ?_
  refine lv_istore (lv' := [(4, .int 0), (3, .int 0), (0, .ref (ad Γ o)), (1, .int v1), (2, .int v2)]) hx hb dX2_worthOfAll_3 hl (by decide) rfl (fun ls hl => ?_)
  exact lwX2_worthOfAll_5 C hk hf hq H locs ls hw hS (lv_sub hl [2, 3, 4, 1, 0] rfl)

theorem kX2_worthOfAll {l : Launch} {Γ : Gm} {A : Nat → Prop} {G : Gs} {o : Nat} {r : Rec} {v1 : Int32} {v2 : Int32} {fin : Int32} (hk : kd Γ o = some 2) (hf : fX2_worthOfAll r v1 v2 = some fin) : Kt l yX2_worthOfAll cX2_worthOfAll 6 (some .int) 2 46 Γ A (ug G o r) (ug G o r) [.ref (ad Γ o), .int v1, .int v2] (some (.int fin)) :=
  kt_of (by decide) (Nat.le_of_ble_eq_true rfl) (fun p e s m args below meth c C => wX2_worthOfAll_e C hk hf rfl)
theorem kgX2_worthOfAll {l : Launch} {Γ : Gm} {A : Nat → Prop} {G : Gs} {o : Nat} {v1 : Int32} {v2 : Int32} {fin : Int32} (hk : kd Γ o = some 2) (hf : fX2_worthOfAll (G o) v1 v2 = some fin) : Kt l yX2_worthOfAll cX2_worthOfAll 6 (some .int) 2 46 Γ A G G [.ref (ad Γ o), .int v1, .int v2] (some (.int fin)) := by
  have h := kX2_worthOfAll (l := l) (A := A) (G := G) (r := G o) hk hf
  rw [ug_self] at h
  exact h
noncomputable def bX2_fittestTaste_55 (r : Rec) (v1 : Int32) (v2 : Int32) (v3 : Int32) : Option ((Int32 × Int32 × Int32) ⊕ Int32) :=
  some (.inl (v1, v2, v3 + 1))
set_option maxRecDepth 100000 in
set_option maxHeartbeats 4000000 in
theorem wX2_fittestTaste_55 {p : Program} {l : Launch} {e : Env} {s : State} {m : MethodId} {args : Array Value} {below : List Frame} {meth : Method} {c : Code} {Γ : Gm} {A : Nat → Prop} {G : Gs} {o : Nat} {r : Rec} {v1 : Int32} {v2 : Int32} {v3 : Int32} {q : ((Int32 × Int32 × Int32) ⊕ Int32)} {fin : Int32} (C : Cx p s m args meth c yX2_fittestTaste cX2_fittestTaste 6 (some .int) Γ A) (hk : kd Γ o = some 2) (hf : bX2_fittestTaste_55 r v1 v2 v3 = some q) (hq : (KC (fun st : Int32 × Int32 × Int32 => Wk p l e { frames := 3, cells := 0, slots := 0, locals := 71 } s m args below meth c Γ A (ug G o r) (some (.int fin)) 6 6 [(0, .ref (ad Γ o)), (1, .int st.1), (2, .int st.2.1), (3, .int st.2.2)] [] (ug G o r)) (fun x => x = fin)) q) : Wk p l e { frames := 3, cells := 0, slots := 0, locals := 71 } s m args below meth c Γ A (ug G o r) (some (.int fin)) 55 6 [(0, .ref (ad Γ o)), (1, .int v1), (2, .int v2), (3, .int v3)] [] (ug G o r) := by
  intro H locs ls hw hS hl
  unfold bX2_fittestTaste_55 at hf
  obtain ⟨hx, hb, hml, hr, hown, htw, hlocks, hE⟩ := id C
  have hown : s.vm.findClass RX2 = some m.cls := hown
  refine lv_iinc (v := v3 + 1) (lv' := [(3, .int (v3 + 1)), (0, .ref (ad Γ o)), (1, .int v1), (2, .int v2)]) hx hb dX2_fittestTaste_55 hl (k := 3) rfl (by rfl) (by decide) rfl (fun ls hl => ?_)
  refine lv_goto (tgt := 6) hx hb dX2_fittestTaste_58 (by decide) ?_
  obtain rfl := Option.some.inj hf
  exact hq.1 _ rfl H locs ls hw hS (lv_sub hl [1, 2, 3, 0] rfl)

noncomputable def bX2_fittestTaste_49 (r : Rec) (v1 : Int32) (v2 : Int32) (v3 : Int32) (v4 : Int32) : Option ((Int32 × Int32 × Int32) ⊕ ((Int32 × Int32 × Int32) ⊕ Int32)) :=
  some (.inl (v1, v2, v4 + 1))
set_option maxRecDepth 100000 in
set_option maxHeartbeats 4000000 in
theorem wX2_fittestTaste_49 {p : Program} {l : Launch} {e : Env} {s : State} {m : MethodId} {args : Array Value} {below : List Frame} {meth : Method} {c : Code} {Γ : Gm} {A : Nat → Prop} {G : Gs} {o : Nat} {r : Rec} {v1 : Int32} {v2 : Int32} {v3 : Int32} {v4 : Int32} {q : ((Int32 × Int32 × Int32) ⊕ ((Int32 × Int32 × Int32) ⊕ Int32))} {fin : Int32} (C : Cx p s m args meth c yX2_fittestTaste cX2_fittestTaste 6 (some .int) Γ A) (hk : kd Γ o = some 2) (hf : bX2_fittestTaste_49 r v1 v2 v3 v4 = some q) (hq : (KC (fun st : Int32 × Int32 × Int32 => Wk p l e { frames := 3, cells := 0, slots := 0, locals := 71 } s m args below meth c Γ A (ug G o r) (some (.int fin)) 17 6 [(0, .ref (ad Γ o)), (1, .int st.1), (2, .int st.2.1), (3, .int v3), (4, .int st.2.2)] [] (ug G o r)) (KC (fun st : Int32 × Int32 × Int32 => Wk p l e { frames := 3, cells := 0, slots := 0, locals := 71 } s m args below meth c Γ A (ug G o r) (some (.int fin)) 6 6 [(0, .ref (ad Γ o)), (1, .int st.1), (2, .int st.2.1), (3, .int st.2.2)] [] (ug G o r)) (fun x => x = fin))) q) : Wk p l e { frames := 3, cells := 0, slots := 0, locals := 71 } s m args below meth c Γ A (ug G o r) (some (.int fin)) 49 6 [(0, .ref (ad Γ o)), (1, .int v1), (2, .int v2), (3, .int v3), (4, .int v4)] [] (ug G o r) := by
  intro H locs ls hw hS hl
  unfold bX2_fittestTaste_49 at hf
  obtain ⟨hx, hb, hml, hr, hown, htw, hlocks, hE⟩ := id C
  have hown : s.vm.findClass RX2 = some m.cls := hown
  refine lv_iinc (v := v4 + 1) (lv' := [(4, .int (v4 + 1)), (0, .ref (ad Γ o)), (1, .int v1), (2, .int v2), (3, .int v3)]) hx hb dX2_fittestTaste_49 hl (k := 4) rfl (by rfl) (by decide) rfl (fun ls hl => ?_)
  refine lv_goto (tgt := 17) hx hb dX2_fittestTaste_52 (by decide) ?_
  obtain rfl := Option.some.inj hf
  exact hq.1 _ rfl H locs ls hw hS (lv_sub hl [1, 2, 3, 4, 0] rfl)

noncomputable def bX2_fittestTaste_17 (r : Rec) (v1 : Int32) (v2 : Int32) (v3 : Int32) (v4 : Int32) : Option ((Int32 × Int32 × Int32) ⊕ ((Int32 × Int32 × Int32) ⊕ Int32)) :=
  if 4 ≤ v4 then out1 (bX2_fittestTaste_55 r v1 v2 v3) else (fX2_worthOfAll r v3 v4).bind fun z2 => if z2 ≤ v2 then bX2_fittestTaste_49 r v1 v2 v3 v4 else bX2_fittestTaste_49 r ((10 * v3) + v4) z2 v3 v4
set_option maxRecDepth 100000 in
set_option maxHeartbeats 4000000 in
theorem wX2_fittestTaste_17 {p : Program} {l : Launch} {e : Env} {s : State} {m : MethodId} {args : Array Value} {below : List Frame} {meth : Method} {c : Code} {Γ : Gm} {A : Nat → Prop} {G : Gs} {o : Nat} {r : Rec} {v1 : Int32} {v2 : Int32} {v3 : Int32} {v4 : Int32} {q : ((Int32 × Int32 × Int32) ⊕ ((Int32 × Int32 × Int32) ⊕ Int32))} {fin : Int32} (C : Cx p s m args meth c yX2_fittestTaste cX2_fittestTaste 6 (some .int) Γ A) (hk : kd Γ o = some 2) (hf : bX2_fittestTaste_17 r v1 v2 v3 v4 = some q) (hq : (KC (fun st : Int32 × Int32 × Int32 => Wk p l e { frames := 3, cells := 0, slots := 0, locals := 71 } s m args below meth c Γ A (ug G o r) (some (.int fin)) 17 6 [(0, .ref (ad Γ o)), (1, .int st.1), (2, .int st.2.1), (3, .int v3), (4, .int st.2.2)] [] (ug G o r)) (KC (fun st : Int32 × Int32 × Int32 => Wk p l e { frames := 3, cells := 0, slots := 0, locals := 71 } s m args below meth c Γ A (ug G o r) (some (.int fin)) 6 6 [(0, .ref (ad Γ o)), (1, .int st.1), (2, .int st.2.1), (3, .int st.2.2)] [] (ug G o r)) (fun x => x = fin))) q) : Wk p l e { frames := 3, cells := 0, slots := 0, locals := 71 } s m args below meth c Γ A (ug G o r) (some (.int fin)) 17 6 [(0, .ref (ad Γ o)), (1, .int v1), (2, .int v2), (3, .int v3), (4, .int v4)] [] (ug G o r) := by
  intro H locs ls hw hS hl
  unfold bX2_fittestTaste_17 at hf
  obtain ⟨hx, hb, hml, hr, hown, htw, hlocks, hE⟩ := id C
  have hown : s.vm.findClass RX2 = some m.cls := hown
  refine lv_iload hx hb dX2_fittestTaste_17 (lv_at hl 4 rfl) ?_
  refine lv_iconst (v := 4) hx hb dX2_fittestTaste_19 (by decide) ?_
  refine lv_icmp_ge (tgt := 55) hx hb dX2_fittestTaste_20 (by decide) (fun c4 => ?_) (fun c4 => ?_)
  · have hf := ifp c4 hf
    obtain ⟨q1, hfq1, eq1⟩ := out1_some hf
    subst eq1
    have hf := hfq1
    have hq := hq.2 _ rfl
    exact wX2_fittestTaste_55 C hk hf hq H locs ls hw hS (lv_sub hl [0, 1, 2, 3] rfl)
  · have hf := ifn c4 hf
    refine lv_aload_n hx hb dX2_fittestTaste_23 rfl (lv_at hl 0 rfl) ?_
    refine lv_iload_n hx hb dX2_fittestTaste_24 rfl (lv_at hl 3 rfl) ?_
    refine lv_iload hx hb dX2_fittestTaste_25 (lv_at hl 4 rfl) ?_
    obtain ⟨z2, hz2, hf⟩ := bd hf
    refine cl_Vs (rest := []) (kX2_worthOfAll (l := l) (Γ := Γ) (A := A) (G := G) (o := o) hk hz2) ⟨hx, hb, hml, hown, htw⟩ hE hw hS (wo_me hw hk) (q0 := 0) rfl rfl mw1121 mw1122 mw1123 mw120 mw1124 pdX2_worthOfAll ⟨Nat.le_of_ble_eq_true rfl, Nat.le_of_ble_eq_true rfl⟩ rfl rfl hl.1 (Nat.le_of_ble_eq_true rfl) dX2_fittestTaste_27 (fun H locs hw hS => ?_)
    refine lv_istore (lv' := [(5, .int z2), (0, .ref (ad Γ o)), (1, .int v1), (2, .int v2), (3, .int v3), (4, .int v4)]) hx hb dX2_fittestTaste_30 hl (by decide) rfl (fun ls hl => ?_)
    refine lv_iload hx hb dX2_fittestTaste_32 (lv_at hl 0 rfl) ?_
    refine lv_iload_n hx hb dX2_fittestTaste_34 rfl (lv_at hl 3 rfl) ?_
    refine lv_icmp_le (tgt := 49) hx hb dX2_fittestTaste_35 (by decide) (fun c3 => ?_) (fun c3 => ?_)
    · have hf := ifp c3 hf
      exact wX2_fittestTaste_49 C hk hf hq H locs ls hw hS (lv_sub hl [1, 2, 3, 4, 5] rfl)
    · have hf := ifn c3 hf
      refine lv_iload hx hb dX2_fittestTaste_38 (lv_at hl 0 rfl) ?_
      refine lv_istore_n (lv' := [(2, .int z2), (5, .int z2), (0, .ref (ad Γ o)), (1, .int v1), (3, .int v3), (4, .int v4)]) hx hb dX2_fittestTaste_40 rfl hl (by decide) rfl (fun ls hl => ?_)
      refine lv_bipush (v := 10) hx hb dX2_fittestTaste_41 (by decide) ?_
      refine lv_iload_n hx hb dX2_fittestTaste_43 rfl (lv_at hl 4 rfl) ?_
      refine lv_imul hx hb dX2_fittestTaste_44 ?_
      refine lv_iload hx hb dX2_fittestTaste_45 (lv_at hl 5 rfl) ?_
      refine lv_iadd hx hb dX2_fittestTaste_47 ?_
      refine lv_istore_n (lv' := [(1, .int ((10 * v3) + v4)), (2, .int z2), (5, .int z2), (0, .ref (ad Γ o)), (3, .int v3), (4, .int v4)]) hx hb dX2_fittestTaste_48 rfl hl (by decide) rfl (fun ls hl => ?_)
      exact wX2_fittestTaste_49 C hk hf hq H locs ls hw hS (lv_sub hl [3, 0, 1, 4, 5] rfl)

set_option maxRecDepth 100000 in
set_option maxHeartbeats 4000000 in
theorem lwX2_fittestTaste_17 {p : Program} {l : Launch} {e : Env} {s : State} {m : MethodId} {args : Array Value} {below : List Frame} {meth : Method} {c : Code} {Γ : Gm} {A : Nat → Prop} {G : Gs} {o : Nat} {r : Rec} {v1 : Int32} {v2 : Int32} {v3 : Int32} {v4 : Int32} {q : ((Int32 × Int32 × Int32) ⊕ Int32)} {fin : Int32} (C : Cx p s m args meth c yX2_fittestTaste cX2_fittestTaste 6 (some .int) Γ A) (hk : kd Γ o = some 2) (hf : iter (fun st : Int32 × Int32 × Int32 => bX2_fittestTaste_17 r st.1 st.2.1 v3 st.2.2) (v1, v2, v4) = some q) (hq : (KC (fun st : Int32 × Int32 × Int32 => Wk p l e { frames := 3, cells := 0, slots := 0, locals := 71 } s m args below meth c Γ A (ug G o r) (some (.int fin)) 6 6 [(0, .ref (ad Γ o)), (1, .int st.1), (2, .int st.2.1), (3, .int st.2.2)] [] (ug G o r)) (fun x => x = fin)) q) : Wk p l e { frames := 3, cells := 0, slots := 0, locals := 71 } s m args below meth c Γ A (ug G o r) (some (.int fin)) 17 6 [(0, .ref (ad Γ o)), (1, .int v1), (2, .int v2), (3, .int v3), (4, .int v4)] [] (ug G o r) := by
  intro H locs ls hw hS hl
  refine iter_walk (P := (fun st : Int32 × Int32 × Int32 => Wk p l e { frames := 3, cells := 0, slots := 0, locals := 71 } s m args below meth c Γ A (ug G o r) (some (.int fin)) 17 6 [(0, .ref (ad Γ o)), (1, .int st.1), (2, .int st.2.1), (3, .int v3), (4, .int st.2.2)] [] (ug G o r))) (K := (KC (fun st : Int32 × Int32 × Int32 => Wk p l e { frames := 3, cells := 0, slots := 0, locals := 71 } s m args below meth c Γ A (ug G o r) (some (.int fin)) 6 6 [(0, .ref (ad Γ o)), (1, .int st.1), (2, .int st.2.1), (3, .int st.2.2)] [] (ug G o r)) (fun x => x = fin))) (fun st q hq1 h1 h2 => ?_) hf hq H locs ls hw hS hl
  exact wX2_fittestTaste_17 (v1 := st.1) (v2 := st.2.1) (v4 := st.2.2) C hk hq1 ⟨h1, h2⟩

noncomputable def bX2_fittestTaste_6 (r : Rec) (v1 : Int32) (v2 : Int32) (v3 : Int32) : Option ((Int32 × Int32 × Int32) ⊕ Int32) :=
  if (gi r 0) ≤ v3 then some (.inr (v1)) else iter (fun st : Int32 × Int32 × Int32 => bX2_fittestTaste_17 r st.1 st.2.1 v3 st.2.2) (v1, v2, 0)
set_option maxRecDepth 100000 in
set_option maxHeartbeats 4000000 in
theorem wX2_fittestTaste_6 {p : Program} {l : Launch} {e : Env} {s : State} {m : MethodId} {args : Array Value} {below : List Frame} {meth : Method} {c : Code} {Γ : Gm} {A : Nat → Prop} {G : Gs} {o : Nat} {r : Rec} {v1 : Int32} {v2 : Int32} {v3 : Int32} {q : ((Int32 × Int32 × Int32) ⊕ Int32)} {fin : Int32} (C : Cx p s m args meth c yX2_fittestTaste cX2_fittestTaste 6 (some .int) Γ A) (hk : kd Γ o = some 2) (hf : bX2_fittestTaste_6 r v1 v2 v3 = some q) (hq : (KC (fun st : Int32 × Int32 × Int32 => Wk p l e { frames := 3, cells := 0, slots := 0, locals := 71 } s m args below meth c Γ A (ug G o r) (some (.int fin)) 6 6 [(0, .ref (ad Γ o)), (1, .int st.1), (2, .int st.2.1), (3, .int st.2.2)] [] (ug G o r)) (fun x => x = fin)) q) : Wk p l e { frames := 3, cells := 0, slots := 0, locals := 71 } s m args below meth c Γ A (ug G o r) (some (.int fin)) 6 6 [(0, .ref (ad Γ o)), (1, .int v1), (2, .int v2), (3, .int v3)] [] (ug G o r) := by
  intro H locs ls hw hS hl
  unfold bX2_fittestTaste_6 at hf
  obtain ⟨hx, hb, hml, hr, hown, htw, hlocks, hE⟩ := id C
  have hown : s.vm.findClass RX2 = some m.cls := hown
  refine lv_iload_n hx hb dX2_fittestTaste_6 rfl (lv_at hl 3 rfl) ?_
  refine lv_aload_n hx hb dX2_fittestTaste_7 rfl (lv_at hl 0 rfl) ?_
  refine va_get (ci := 2) (v := .int (gi r 0)) (C := RX2) (T := TX2) (N := 11) hx hb htw uwX2 hown hE.1 (wo_me hw hk) 0 rfl rfl 0 (by decide) (htw _ mw160) (fun _ h9 => h9) rfl dX2_fittestTaste_8 ?_
  refine lv_icmp_ge (tgt := 61) hx hb dX2_fittestTaste_11 (by decide) (fun c5 => ?_) (fun c5 => ?_)
  · have hf := ifp c5 hf
    refine lv_iload_n hx hb dX2_fittestTaste_61 rfl (lv_at hl 1 rfl) ?_
    obtain rfl := Option.some.inj hf
    have hq := hq.2 _ rfl
    subst hq
    exact rt_i C hw hS dX2_fittestTaste_62
  · have hf := ifn c5 hf
    refine lv_iconst (v := 0) hx hb dX2_fittestTaste_14 (by decide) ?_
    refine lv_istore (lv' := [(4, .int 0), (0, .ref (ad Γ o)), (1, .int v1), (2, .int v2), (3, .int v3)]) hx hb dX2_fittestTaste_15 hl (by decide) rfl (fun ls hl => ?_)
    exact lwX2_fittestTaste_17 C hk hf hq H locs ls hw hS (lv_sub hl [1, 2, 3, 4, 0] rfl)

set_option maxRecDepth 100000 in
set_option maxHeartbeats 4000000 in
theorem lwX2_fittestTaste_6 {p : Program} {l : Launch} {e : Env} {s : State} {m : MethodId} {args : Array Value} {below : List Frame} {meth : Method} {c : Code} {Γ : Gm} {A : Nat → Prop} {G : Gs} {o : Nat} {r : Rec} {v1 : Int32} {v2 : Int32} {v3 : Int32} {q : Int32} {fin : Int32} (C : Cx p s m args meth c yX2_fittestTaste cX2_fittestTaste 6 (some .int) Γ A) (hk : kd Γ o = some 2) (hf : iter (fun st : Int32 × Int32 × Int32 => bX2_fittestTaste_6 r st.1 st.2.1 st.2.2) (v1, v2, v3) = some q) (hq : (fun x => x = fin) q) : Wk p l e { frames := 3, cells := 0, slots := 0, locals := 71 } s m args below meth c Γ A (ug G o r) (some (.int fin)) 6 6 [(0, .ref (ad Γ o)), (1, .int v1), (2, .int v2), (3, .int v3)] [] (ug G o r) := by
  intro H locs ls hw hS hl
  refine iter_walk (P := (fun st : Int32 × Int32 × Int32 => Wk p l e { frames := 3, cells := 0, slots := 0, locals := 71 } s m args below meth c Γ A (ug G o r) (some (.int fin)) 6 6 [(0, .ref (ad Γ o)), (1, .int st.1), (2, .int st.2.1), (3, .int st.2.2)] [] (ug G o r))) (K := (fun x => x = fin)) (fun st q hq1 h1 h2 => ?_) hf hq H locs ls hw hS hl
  exact wX2_fittestTaste_6 (v1 := st.1) (v2 := st.2.1) (v3 := st.2.2) C hk hq1 ⟨h1, h2⟩

noncomputable def fX2_fittestTaste (r : Rec) : Option Int32 :=
  iter (fun st : Int32 × Int32 × Int32 => bX2_fittestTaste_6 r st.1 st.2.1 st.2.2) (0, (-1), 0)
set_option maxRecDepth 100000 in
set_option maxHeartbeats 4000000 in
theorem wX2_fittestTaste_e {p : Program} {l : Launch} {e : Env} {s : State} {m : MethodId} {args : Array Value} {below : List Frame} {meth : Method} {c : Code} {Γ : Gm} {A : Nat → Prop} {G : Gs} {o : Nat} {r : Rec} {q : Int32} {fin : Int32} (C : Cx p s m args meth c yX2_fittestTaste cX2_fittestTaste 6 (some .int) Γ A) (hk : kd Γ o = some 2) (hf : fX2_fittestTaste r = some q) (hq : (fun x => x = fin) q) : Wk p l e { frames := 3, cells := 0, slots := 0, locals := 71 } s m args below meth c Γ A (ug G o r) (some (.int fin)) 0 6 [(0, .ref (ad Γ o))] [] (ug G o r) := by
  intro H locs ls hw hS hl
  unfold fX2_fittestTaste at hf
  obtain ⟨hx, hb, hml, hr, hown, htw, hlocks, hE⟩ := id C
  have hown : s.vm.findClass RX2 = some m.cls := hown
  refine lv_iconst (v := 0) hx hb dX2_fittestTaste_0 (by decide) ?_
  refine lv_istore_n (lv' := [(1, .int 0), (0, .ref (ad Γ o))]) hx hb dX2_fittestTaste_1 rfl hl (by decide) rfl (fun ls hl => ?_)
  refine lv_iconst (v := (-1)) hx hb dX2_fittestTaste_2 (by decide) ?_
  refine lv_istore_n (lv' := [(2, .int (-1)), (1, .int 0), (0, .ref (ad Γ o))]) hx hb dX2_fittestTaste_3 rfl hl (by decide) rfl (fun ls hl => ?_)
  refine lv_iconst (v := 0) hx hb dX2_fittestTaste_4 (by decide) ?_
  refine lv_istore_n (lv' := [(3, .int 0), (2, .int (-1)), (1, .int 0), (0, .ref (ad Γ o))]) hx hb dX2_fittestTaste_5 rfl hl (by decide) rfl (fun ls hl => ?_)
  exact lwX2_fittestTaste_6 C hk hf hq H locs ls hw hS (lv_sub hl [3, 2, 1, 0] rfl)

theorem kX2_fittestTaste {l : Launch} {Γ : Gm} {A : Nat → Prop} {G : Gs} {o : Nat} {r : Rec} {fin : Int32} (hk : kd Γ o = some 2) (hf : fX2_fittestTaste r = some fin) : Kt l yX2_fittestTaste cX2_fittestTaste 6 (some .int) 3 71 Γ A (ug G o r) (ug G o r) [.ref (ad Γ o)] (some (.int fin)) :=
  kt_of (by decide) (Nat.le_of_ble_eq_true rfl) (fun p e s m args below meth c C => wX2_fittestTaste_e C hk hf rfl)
theorem kgX2_fittestTaste {l : Launch} {Γ : Gm} {A : Nat → Prop} {G : Gs} {o : Nat} {fin : Int32} (hk : kd Γ o = some 2) (hf : fX2_fittestTaste (G o) = some fin) : Kt l yX2_fittestTaste cX2_fittestTaste 6 (some .int) 3 71 Γ A G G [.ref (ad Γ o)] (some (.int fin)) := by
  have h := kX2_fittestTaste (l := l) (A := A) (G := G) (r := G o) hk hf
  rw [ug_self] at h
  exact h
noncomputable def bX2_knownBy_71 (r : Rec) (v1 : Int32) (v3 : Int32) (s0 : Int32) (s1 : Int32) : Option ((Int32 × Int32) ⊕ Int32) :=
  some (.inl (s1 ||| s0, v3 + 1))
set_option maxRecDepth 100000 in
set_option maxHeartbeats 4000000 in
theorem wX2_knownBy_71 {p : Program} {l : Launch} {e : Env} {s : State} {m : MethodId} {args : Array Value} {below : List Frame} {meth : Method} {c : Code} {Γ : Gm} {A : Nat → Prop} {G : Gs} {o : Nat} {r : Rec} {v1 : Int32} {v3 : Int32} {s0 : Int32} {s1 : Int32} {q : ((Int32 × Int32) ⊕ Int32)} {fin : Int32} (C : Cx p s m args meth c yX2_knownBy cX2_knownBy 6 (some .int) Γ A) (hk : kd Γ o = some 2) (hf : bX2_knownBy_71 r v1 v3 s0 s1 = some q) (hq : (KC (fun st : Int32 × Int32 => Wk p l e { frames := 1, cells := 0, slots := 0, locals := 21 } s m args below meth c Γ A (ug G o r) (some (.int fin)) 4 6 [(0, .ref (ad Γ o)), (1, .int v1), (2, .int st.1), (3, .int st.2)] [] (ug G o r)) (fun x => x = fin)) q) : Wk p l e { frames := 1, cells := 0, slots := 0, locals := 21 } s m args below meth c Γ A (ug G o r) (some (.int fin)) 71 6 [(0, .ref (ad Γ o)), (1, .int v1), (3, .int v3)] [.int s0, .int s1] (ug G o r) := by
  intro H locs ls hw hS hl
  unfold bX2_knownBy_71 at hf
  obtain ⟨hx, hb, hml, hr, hown, htw, hlocks, hE⟩ := id C
  have hown : s.vm.findClass RX2 = some m.cls := hown
  refine lv_ior hx hb dX2_knownBy_71 ?_
  refine lv_istore_n (lv' := [(2, .int (s1 ||| s0)), (0, .ref (ad Γ o)), (1, .int v1), (3, .int v3)]) hx hb dX2_knownBy_72 rfl hl (by decide) rfl (fun ls hl => ?_)
  refine lv_iinc (v := v3 + 1) (lv' := [(3, .int (v3 + 1)), (2, .int (s1 ||| s0)), (0, .ref (ad Γ o)), (1, .int v1)]) hx hb dX2_knownBy_73 hl (k := 3) rfl (by rfl) (by decide) rfl (fun ls hl => ?_)
  refine lv_goto (tgt := 4) hx hb dX2_knownBy_76 (by decide) ?_
  obtain rfl := Option.some.inj hf
  exact hq.1 _ rfl H locs ls hw hS (lv_sub hl [2, 3, 1, 0] rfl)

noncomputable def bX2_knownBy_57 (r : Rec) (v1 : Int32) (v2 : Int32) (v3 : Int32) (v4 : Int32) : Option ((Int32 × Int32) ⊕ Int32) :=
  if v4 = v1 then bX2_knownBy_71 r v1 v3 ((1 : Int32) <<< (v3 &&& 31)) v2 else bX2_knownBy_71 r v1 v3 0 v2
set_option maxRecDepth 100000 in
set_option maxHeartbeats 4000000 in
theorem wX2_knownBy_57 {p : Program} {l : Launch} {e : Env} {s : State} {m : MethodId} {args : Array Value} {below : List Frame} {meth : Method} {c : Code} {Γ : Gm} {A : Nat → Prop} {G : Gs} {o : Nat} {r : Rec} {v1 : Int32} {v2 : Int32} {v3 : Int32} {v4 : Int32} {q : ((Int32 × Int32) ⊕ Int32)} {fin : Int32} (C : Cx p s m args meth c yX2_knownBy cX2_knownBy 6 (some .int) Γ A) (hk : kd Γ o = some 2) (hf : bX2_knownBy_57 r v1 v2 v3 v4 = some q) (hq : (KC (fun st : Int32 × Int32 => Wk p l e { frames := 1, cells := 0, slots := 0, locals := 21 } s m args below meth c Γ A (ug G o r) (some (.int fin)) 4 6 [(0, .ref (ad Γ o)), (1, .int v1), (2, .int st.1), (3, .int st.2)] [] (ug G o r)) (fun x => x = fin)) q) : Wk p l e { frames := 1, cells := 0, slots := 0, locals := 21 } s m args below meth c Γ A (ug G o r) (some (.int fin)) 57 6 [(0, .ref (ad Γ o)), (1, .int v1), (2, .int v2), (3, .int v3), (4, .int v4)] [] (ug G o r) := by
  intro H locs ls hw hS hl
  unfold bX2_knownBy_57 at hf
  obtain ⟨hx, hb, hml, hr, hown, htw, hlocks, hE⟩ := id C
  have hown : s.vm.findClass RX2 = some m.cls := hown
  refine lv_iload_n hx hb dX2_knownBy_57 rfl (lv_at hl 2 rfl) ?_
  refine lv_iload hx hb dX2_knownBy_58 (lv_at hl 4 rfl) ?_
  refine lv_iload_n hx hb dX2_knownBy_60 rfl (lv_at hl 1 rfl) ?_
  refine lv_icmp_ne (tgt := 70) hx hb dX2_knownBy_61 (by decide) (fun c1 => ?_) (fun c1 => ?_)
  · have hf := ifn c1 hf
    refine lv_iconst (v := 0) hx hb dX2_knownBy_70 (by decide) ?_
    exact wX2_knownBy_71 C hk hf hq H locs ls hw hS (lv_sub hl [0, 1, 3] rfl)
  · have hf := ifp c1 hf
    refine lv_iconst (v := 1) hx hb dX2_knownBy_64 (by decide) ?_
    refine lv_iload_n hx hb dX2_knownBy_65 rfl (lv_at hl 3 rfl) ?_
    refine lv_ishl hx hb dX2_knownBy_66 ?_
    refine lv_goto (tgt := 71) hx hb dX2_knownBy_67 (by decide) ?_
    exact wX2_knownBy_71 C hk hf hq H locs ls hw hS (lv_sub hl [0, 1, 3] rfl)

noncomputable def bX2_knownBy_48 (r : Rec) (v1 : Int32) (v2 : Int32) (v3 : Int32) (v5 : Int32) (s0 : Int32) (s1 : Int32) : Option ((Int32 × Int32) ⊕ ((Int32 × Int32) ⊕ Int32)) :=
  some (.inl (s1 + s0, v5 + 1))
set_option maxRecDepth 100000 in
set_option maxHeartbeats 4000000 in
theorem wX2_knownBy_48 {p : Program} {l : Launch} {e : Env} {s : State} {m : MethodId} {args : Array Value} {below : List Frame} {meth : Method} {c : Code} {Γ : Gm} {A : Nat → Prop} {G : Gs} {o : Nat} {r : Rec} {v1 : Int32} {v2 : Int32} {v3 : Int32} {v5 : Int32} {s0 : Int32} {s1 : Int32} {q : ((Int32 × Int32) ⊕ ((Int32 × Int32) ⊕ Int32))} {fin : Int32} (C : Cx p s m args meth c yX2_knownBy cX2_knownBy 6 (some .int) Γ A) (hk : kd Γ o = some 2) (hf : bX2_knownBy_48 r v1 v2 v3 v5 s0 s1 = some q) (hq : (KC (fun st : Int32 × Int32 => Wk p l e { frames := 1, cells := 0, slots := 0, locals := 21 } s m args below meth c Γ A (ug G o r) (some (.int fin)) 18 6 [(0, .ref (ad Γ o)), (1, .int v1), (2, .int v2), (3, .int v3), (4, .int st.1), (5, .int st.2)] [] (ug G o r)) (KC (fun st : Int32 × Int32 => Wk p l e { frames := 1, cells := 0, slots := 0, locals := 21 } s m args below meth c Γ A (ug G o r) (some (.int fin)) 4 6 [(0, .ref (ad Γ o)), (1, .int v1), (2, .int st.1), (3, .int st.2)] [] (ug G o r)) (fun x => x = fin))) q) : Wk p l e { frames := 1, cells := 0, slots := 0, locals := 21 } s m args below meth c Γ A (ug G o r) (some (.int fin)) 48 6 [(0, .ref (ad Γ o)), (1, .int v1), (2, .int v2), (3, .int v3), (5, .int v5)] [.int s0, .int s1] (ug G o r) := by
  intro H locs ls hw hS hl
  unfold bX2_knownBy_48 at hf
  obtain ⟨hx, hb, hml, hr, hown, htw, hlocks, hE⟩ := id C
  have hown : s.vm.findClass RX2 = some m.cls := hown
  refine lv_iadd hx hb dX2_knownBy_48 ?_
  refine lv_istore (lv' := [(4, .int (s1 + s0)), (0, .ref (ad Γ o)), (1, .int v1), (2, .int v2), (3, .int v3), (5, .int v5)]) hx hb dX2_knownBy_49 hl (by decide) rfl (fun ls hl => ?_)
  refine lv_iinc (v := v5 + 1) (lv' := [(5, .int (v5 + 1)), (4, .int (s1 + s0)), (0, .ref (ad Γ o)), (1, .int v1), (2, .int v2), (3, .int v3)]) hx hb dX2_knownBy_51 hl (k := 5) rfl (by rfl) (by decide) rfl (fun ls hl => ?_)
  refine lv_goto (tgt := 18) hx hb dX2_knownBy_54 (by decide) ?_
  obtain rfl := Option.some.inj hf
  exact hq.1 _ rfl H locs ls hw hS (lv_sub hl [2, 3, 4, 5, 1, 0] rfl)

noncomputable def bX2_knownBy_18 (r : Rec) (v1 : Int32) (v2 : Int32) (v3 : Int32) (v4 : Int32) (v5 : Int32) : Option ((Int32 × Int32) ⊕ ((Int32 × Int32) ⊕ Int32)) :=
  if (gi r 0) ≤ v5 then out1 (bX2_knownBy_57 r v1 v2 v3 v4) else gd (inR v5 8) ((fX9_hasBit (ga r 5 (Int32.toNatClampNeg v5)) v3).bind fun z4 => if z4 = 0 then bX2_knownBy_48 r v1 v2 v3 v5 0 v4 else bX2_knownBy_48 r v1 v2 v3 v5 1 v4)
set_option maxRecDepth 100000 in
set_option maxHeartbeats 4000000 in
theorem wX2_knownBy_18 {p : Program} {l : Launch} {e : Env} {s : State} {m : MethodId} {args : Array Value} {below : List Frame} {meth : Method} {c : Code} {Γ : Gm} {A : Nat → Prop} {G : Gs} {o : Nat} {r : Rec} {v1 : Int32} {v2 : Int32} {v3 : Int32} {v4 : Int32} {v5 : Int32} {q : ((Int32 × Int32) ⊕ ((Int32 × Int32) ⊕ Int32))} {fin : Int32} (C : Cx p s m args meth c yX2_knownBy cX2_knownBy 6 (some .int) Γ A) (hk : kd Γ o = some 2) (hf : bX2_knownBy_18 r v1 v2 v3 v4 v5 = some q) (hq : (KC (fun st : Int32 × Int32 => Wk p l e { frames := 1, cells := 0, slots := 0, locals := 21 } s m args below meth c Γ A (ug G o r) (some (.int fin)) 18 6 [(0, .ref (ad Γ o)), (1, .int v1), (2, .int v2), (3, .int v3), (4, .int st.1), (5, .int st.2)] [] (ug G o r)) (KC (fun st : Int32 × Int32 => Wk p l e { frames := 1, cells := 0, slots := 0, locals := 21 } s m args below meth c Γ A (ug G o r) (some (.int fin)) 4 6 [(0, .ref (ad Γ o)), (1, .int v1), (2, .int st.1), (3, .int st.2)] [] (ug G o r)) (fun x => x = fin))) q) : Wk p l e { frames := 1, cells := 0, slots := 0, locals := 21 } s m args below meth c Γ A (ug G o r) (some (.int fin)) 18 6 [(0, .ref (ad Γ o)), (1, .int v1), (2, .int v2), (3, .int v3), (4, .int v4), (5, .int v5)] [] (ug G o r) := by
  intro H locs ls hw hS hl
  unfold bX2_knownBy_18 at hf
  obtain ⟨hx, hb, hml, hr, hown, htw, hlocks, hE⟩ := id C
  have hown : s.vm.findClass RX2 = some m.cls := hown
  refine lv_iload hx hb dX2_knownBy_18 (lv_at hl 5 rfl) ?_
  refine lv_aload_n hx hb dX2_knownBy_20 rfl (lv_at hl 0 rfl) ?_
  refine va_get (ci := 2) (v := .int (gi r 0)) (C := RX2) (T := TX2) (N := 11) hx hb htw uwX2 hown hE.1 (wo_me hw hk) 0 rfl rfl 0 (by decide) (htw _ mw160) (fun _ h9 => h9) rfl dX2_knownBy_21 ?_
  refine lv_icmp_ge (tgt := 57) hx hb dX2_knownBy_24 (by decide) (fun c6 => ?_) (fun c6 => ?_)
  · have hf := ifp c6 hf
    obtain ⟨q2, hfq2, eq2⟩ := out1_some hf
    subst eq2
    have hf := hfq2
    have hq := hq.2 _ rfl
    exact wX2_knownBy_57 C hk hf hq H locs ls hw hS (lv_sub hl [0, 1, 2, 3, 4] rfl)
  · have hf := ifn c6 hf
    refine lv_iload hx hb dX2_knownBy_27 (lv_at hl 4 rfl) ?_
    refine lv_aload_n hx hb dX2_knownBy_29 rfl (lv_at hl 0 rfl) ?_
    refine va_get (ci := 2) (v := .ref (aa Γ o 5)) (C := RX2) (T := TX2) (N := 11) hx hb htw uwX2 hown hE.1 (wo_me hw hk) 0 rfl rfl 5 (by decide) (htw _ mw178) (fun _ h9 => h9) rfl dX2_knownBy_30 ?_
    refine lv_iload hx hb dX2_knownBy_33 (lv_at hl 5 rfl) ?_
    obtain ⟨g3, hf⟩ := gd_some hf
    refine va_iald hx hb hE.1 (wo_me hw hk) 3 0 rfl rfl (inR_in g3) dX2_knownBy_35 ?_
    refine lv_iload_n hx hb dX2_knownBy_36 rfl (lv_at hl 3 rfl) ?_
    obtain ⟨z4, hz4, hf⟩ := bd hf
    refine cl_SN (rest := [.int v4]) (kX9_hasBit (l := l) (Γ := Γ) (A := A) (G := (ug G o r)) hz4) ⟨hx, hb, hml, hown, htw⟩ hE hw hS (nw8 hE.2.2.1) mw717 mw118 mw718 pdX9_hasBit ⟨Nat.le_of_ble_eq_true rfl, Nat.le_of_ble_eq_true rfl⟩ rfl rfl hl.1 (Nat.le_of_ble_eq_true rfl) dX2_knownBy_37 (fun H locs hw hS => ?_)
    refine lv_if_eq (tgt := 47) hx hb dX2_knownBy_40 (by decide) (fun c5 => ?_) (fun c5 => ?_)
    · have hf := ifp c5 hf
      refine lv_iconst (v := 0) hx hb dX2_knownBy_47 (by decide) ?_
      exact wX2_knownBy_48 C hk hf hq H locs ls hw hS (lv_sub hl [0, 1, 2, 3, 5] rfl)
    · have hf := ifn c5 hf
      refine lv_iconst (v := 1) hx hb dX2_knownBy_43 (by decide) ?_
      refine lv_goto (tgt := 48) hx hb dX2_knownBy_44 (by decide) ?_
      exact wX2_knownBy_48 C hk hf hq H locs ls hw hS (lv_sub hl [0, 1, 2, 3, 5] rfl)

set_option maxRecDepth 100000 in
set_option maxHeartbeats 4000000 in
theorem lwX2_knownBy_18 {p : Program} {l : Launch} {e : Env} {s : State} {m : MethodId} {args : Array Value} {below : List Frame} {meth : Method} {c : Code} {Γ : Gm} {A : Nat → Prop} {G : Gs} {o : Nat} {r : Rec} {v1 : Int32} {v2 : Int32} {v3 : Int32} {v4 : Int32} {v5 : Int32} {q : ((Int32 × Int32) ⊕ Int32)} {fin : Int32} (C : Cx p s m args meth c yX2_knownBy cX2_knownBy 6 (some .int) Γ A) (hk : kd Γ o = some 2) (hf : iter (fun st : Int32 × Int32 => bX2_knownBy_18 r v1 v2 v3 st.1 st.2) (v4, v5) = some q) (hq : (KC (fun st : Int32 × Int32 => Wk p l e { frames := 1, cells := 0, slots := 0, locals := 21 } s m args below meth c Γ A (ug G o r) (some (.int fin)) 4 6 [(0, .ref (ad Γ o)), (1, .int v1), (2, .int st.1), (3, .int st.2)] [] (ug G o r)) (fun x => x = fin)) q) : Wk p l e { frames := 1, cells := 0, slots := 0, locals := 21 } s m args below meth c Γ A (ug G o r) (some (.int fin)) 18 6 [(0, .ref (ad Γ o)), (1, .int v1), (2, .int v2), (3, .int v3), (4, .int v4), (5, .int v5)] [] (ug G o r) := by
  intro H locs ls hw hS hl
  refine iter_walk (P := (fun st : Int32 × Int32 => Wk p l e { frames := 1, cells := 0, slots := 0, locals := 21 } s m args below meth c Γ A (ug G o r) (some (.int fin)) 18 6 [(0, .ref (ad Γ o)), (1, .int v1), (2, .int v2), (3, .int v3), (4, .int st.1), (5, .int st.2)] [] (ug G o r))) (K := (KC (fun st : Int32 × Int32 => Wk p l e { frames := 1, cells := 0, slots := 0, locals := 21 } s m args below meth c Γ A (ug G o r) (some (.int fin)) 4 6 [(0, .ref (ad Γ o)), (1, .int v1), (2, .int st.1), (3, .int st.2)] [] (ug G o r)) (fun x => x = fin))) (fun st q hq1 h1 h2 => ?_) hf hq H locs ls hw hS hl
  exact wX2_knownBy_18 (v4 := st.1) (v5 := st.2) C hk hq1 ⟨h1, h2⟩

noncomputable def bX2_knownBy_4 (r : Rec) (v1 : Int32) (v2 : Int32) (v3 : Int32) : Option ((Int32 × Int32) ⊕ Int32) :=
  if (gi r 1) ≤ v3 then some (.inr (v2)) else iter (fun st : Int32 × Int32 => bX2_knownBy_18 r v1 v2 v3 st.1 st.2) (0, 0)
set_option maxRecDepth 100000 in
set_option maxHeartbeats 4000000 in
theorem wX2_knownBy_4 {p : Program} {l : Launch} {e : Env} {s : State} {m : MethodId} {args : Array Value} {below : List Frame} {meth : Method} {c : Code} {Γ : Gm} {A : Nat → Prop} {G : Gs} {o : Nat} {r : Rec} {v1 : Int32} {v2 : Int32} {v3 : Int32} {q : ((Int32 × Int32) ⊕ Int32)} {fin : Int32} (C : Cx p s m args meth c yX2_knownBy cX2_knownBy 6 (some .int) Γ A) (hk : kd Γ o = some 2) (hf : bX2_knownBy_4 r v1 v2 v3 = some q) (hq : (KC (fun st : Int32 × Int32 => Wk p l e { frames := 1, cells := 0, slots := 0, locals := 21 } s m args below meth c Γ A (ug G o r) (some (.int fin)) 4 6 [(0, .ref (ad Γ o)), (1, .int v1), (2, .int st.1), (3, .int st.2)] [] (ug G o r)) (fun x => x = fin)) q) : Wk p l e { frames := 1, cells := 0, slots := 0, locals := 21 } s m args below meth c Γ A (ug G o r) (some (.int fin)) 4 6 [(0, .ref (ad Γ o)), (1, .int v1), (2, .int v2), (3, .int v3)] [] (ug G o r) := by
  intro H locs ls hw hS hl
  unfold bX2_knownBy_4 at hf
  obtain ⟨hx, hb, hml, hr, hown, htw, hlocks, hE⟩ := id C
  have hown : s.vm.findClass RX2 = some m.cls := hown
  refine lv_iload_n hx hb dX2_knownBy_4 rfl (lv_at hl 3 rfl) ?_
  refine lv_aload_n hx hb dX2_knownBy_5 rfl (lv_at hl 0 rfl) ?_
  refine va_get (ci := 2) (v := .int (gi r 1)) (C := RX2) (T := TX2) (N := 11) hx hb htw uwX2 hown hE.1 (wo_me hw hk) 0 rfl rfl 1 (by decide) (htw _ mw165) (fun _ h9 => h9) rfl dX2_knownBy_6 ?_
  refine lv_icmp_ge (tgt := 79) hx hb dX2_knownBy_9 (by decide) (fun c7 => ?_) (fun c7 => ?_)
  · have hf := ifp c7 hf
    refine lv_iload_n hx hb dX2_knownBy_79 rfl (lv_at hl 2 rfl) ?_
    obtain rfl := Option.some.inj hf
    have hq := hq.2 _ rfl
    subst hq
    exact rt_i C hw hS dX2_knownBy_80
  · have hf := ifn c7 hf
    refine lv_iconst (v := 0) hx hb dX2_knownBy_12 (by decide) ?_
    refine lv_istore (lv' := [(4, .int 0), (0, .ref (ad Γ o)), (1, .int v1), (2, .int v2), (3, .int v3)]) hx hb dX2_knownBy_13 hl (by decide) rfl (fun ls hl => ?_)
    refine lv_iconst (v := 0) hx hb dX2_knownBy_15 (by decide) ?_
    refine lv_istore (lv' := [(5, .int 0), (4, .int 0), (0, .ref (ad Γ o)), (1, .int v1), (2, .int v2), (3, .int v3)]) hx hb dX2_knownBy_16 hl (by decide) rfl (fun ls hl => ?_)
    exact lwX2_knownBy_18 C hk hf hq H locs ls hw hS (lv_sub hl [2, 3, 4, 5, 1, 0] rfl)

set_option maxRecDepth 100000 in
set_option maxHeartbeats 4000000 in
theorem lwX2_knownBy_4 {p : Program} {l : Launch} {e : Env} {s : State} {m : MethodId} {args : Array Value} {below : List Frame} {meth : Method} {c : Code} {Γ : Gm} {A : Nat → Prop} {G : Gs} {o : Nat} {r : Rec} {v1 : Int32} {v2 : Int32} {v3 : Int32} {q : Int32} {fin : Int32} (C : Cx p s m args meth c yX2_knownBy cX2_knownBy 6 (some .int) Γ A) (hk : kd Γ o = some 2) (hf : iter (fun st : Int32 × Int32 => bX2_knownBy_4 r v1 st.1 st.2) (v2, v3) = some q) (hq : (fun x => x = fin) q) : Wk p l e { frames := 1, cells := 0, slots := 0, locals := 21 } s m args below meth c Γ A (ug G o r) (some (.int fin)) 4 6 [(0, .ref (ad Γ o)), (1, .int v1), (2, .int v2), (3, .int v3)] [] (ug G o r) := by
  intro H locs ls hw hS hl
  refine iter_walk (P := (fun st : Int32 × Int32 => Wk p l e { frames := 1, cells := 0, slots := 0, locals := 21 } s m args below meth c Γ A (ug G o r) (some (.int fin)) 4 6 [(0, .ref (ad Γ o)), (1, .int v1), (2, .int st.1), (3, .int st.2)] [] (ug G o r))) (K := (fun x => x = fin)) (fun st q hq1 h1 h2 => ?_) hf hq H locs ls hw hS hl
  exact wX2_knownBy_4 (v2 := st.1) (v3 := st.2) C hk hq1 ⟨h1, h2⟩

noncomputable def fX2_knownBy (r : Rec) (v1 : Int32) : Option Int32 :=
  iter (fun st : Int32 × Int32 => bX2_knownBy_4 r v1 st.1 st.2) (0, 0)
set_option maxRecDepth 100000 in
set_option maxHeartbeats 4000000 in
theorem wX2_knownBy_e {p : Program} {l : Launch} {e : Env} {s : State} {m : MethodId} {args : Array Value} {below : List Frame} {meth : Method} {c : Code} {Γ : Gm} {A : Nat → Prop} {G : Gs} {o : Nat} {r : Rec} {v1 : Int32} {q : Int32} {fin : Int32} (C : Cx p s m args meth c yX2_knownBy cX2_knownBy 6 (some .int) Γ A) (hk : kd Γ o = some 2) (hf : fX2_knownBy r v1 = some q) (hq : (fun x => x = fin) q) : Wk p l e { frames := 1, cells := 0, slots := 0, locals := 21 } s m args below meth c Γ A (ug G o r) (some (.int fin)) 0 6 [(0, .ref (ad Γ o)), (1, .int v1)] [] (ug G o r) := by
  intro H locs ls hw hS hl
  unfold fX2_knownBy at hf
  obtain ⟨hx, hb, hml, hr, hown, htw, hlocks, hE⟩ := id C
  have hown : s.vm.findClass RX2 = some m.cls := hown
  refine lv_iconst (v := 0) hx hb dX2_knownBy_0 (by decide) ?_
  refine lv_istore_n (lv' := [(2, .int 0), (0, .ref (ad Γ o)), (1, .int v1)]) hx hb dX2_knownBy_1 rfl hl (by decide) rfl (fun ls hl => ?_)
  refine lv_iconst (v := 0) hx hb dX2_knownBy_2 (by decide) ?_
  refine lv_istore_n (lv' := [(3, .int 0), (2, .int 0), (0, .ref (ad Γ o)), (1, .int v1)]) hx hb dX2_knownBy_3 rfl hl (by decide) rfl (fun ls hl => ?_)
  exact lwX2_knownBy_4 C hk hf hq H locs ls hw hS (lv_sub hl [2, 3, 1, 0] rfl)

theorem kX2_knownBy {l : Launch} {Γ : Gm} {A : Nat → Prop} {G : Gs} {o : Nat} {r : Rec} {v1 : Int32} {fin : Int32} (hk : kd Γ o = some 2) (hf : fX2_knownBy r v1 = some fin) : Kt l yX2_knownBy cX2_knownBy 6 (some .int) 1 21 Γ A (ug G o r) (ug G o r) [.ref (ad Γ o), .int v1] (some (.int fin)) :=
  kt_of (by decide) (Nat.le_of_ble_eq_true rfl) (fun p e s m args below meth c C => wX2_knownBy_e C hk hf rfl)
theorem kgX2_knownBy {l : Launch} {Γ : Gm} {A : Nat → Prop} {G : Gs} {o : Nat} {v1 : Int32} {fin : Int32} (hk : kd Γ o = some 2) (hf : fX2_knownBy (G o) v1 = some fin) : Kt l yX2_knownBy cX2_knownBy 6 (some .int) 1 21 Γ A G G [.ref (ad Γ o), .int v1] (some (.int fin)) := by
  have h := kX2_knownBy (l := l) (A := A) (G := G) (r := G o) hk hf
  rw [ug_self] at h
  exact h
noncomputable def fX3_addTo (v0 : Int32) (v1 : Int32) (v2 : Int32) : Option Int32 :=
  if v2 < ((v0 - v0 / 128 * 128) + v1) then some ((((v0 / 128) + 1) * 128) + v1) else some (v0 + v1)
set_option maxRecDepth 100000 in
set_option maxHeartbeats 4000000 in
theorem wX3_addTo_e {p : Program} {l : Launch} {e : Env} {s : State} {m : MethodId} {args : Array Value} {below : List Frame} {meth : Method} {c : Code} {Γ : Gm} {A : Nat → Prop} {G : Gs} {v0 : Int32} {v1 : Int32} {v2 : Int32} {q : Int32} {fin : Int32} (C : Cx p s m args meth c yX3_addTo cX3_addTo 3 (some .int) Γ A) (hf : fX3_addTo v0 v1 v2 = some q) (hq : (fun x => x = fin) q) : Wk p l e { frames := 0, cells := 0, slots := 0, locals := 0 } s m args below meth c Γ A G (some (.int fin)) 0 3 [(0, .int v0), (1, .int v1), (2, .int v2)] [] G := by
  intro H locs ls hw hS hl
  unfold fX3_addTo at hf
  obtain ⟨hx, hb, hml, hr, hown, htw, hlocks, hE⟩ := id C
  have hown : s.vm.findClass RX3 = some m.cls := hown
  refine lv_iload_n hx hb dX3_addTo_0 rfl (lv_at hl 0 rfl) ?_
  refine lv_sipush (v := 128) hx hb dX3_addTo_1 (by decide) ?_
  refine lv_irem hx hb dX3_addTo_4 (by decide) ?_
  refine lv_iload_n hx hb dX3_addTo_5 rfl (lv_at hl 1 rfl) ?_
  refine lv_iadd hx hb dX3_addTo_6 ?_
  refine lv_iload_n hx hb dX3_addTo_7 rfl (lv_at hl 2 rfl) ?_
  refine lv_icmp_gt (tgt := 15) hx hb dX3_addTo_8 (by decide) (fun c1 => ?_) (fun c1 => ?_)
  · have hf := ifp c1 hf
    refine lv_iload_n hx hb dX3_addTo_15 rfl (lv_at hl 0 rfl) ?_
    refine lv_sipush (v := 128) hx hb dX3_addTo_16 (by decide) ?_
    refine lv_idiv hx hb dX3_addTo_19 (by decide) ?_
    refine lv_iconst (v := 1) hx hb dX3_addTo_20 (by decide) ?_
    refine lv_iadd hx hb dX3_addTo_21 ?_
    refine lv_sipush (v := 128) hx hb dX3_addTo_22 (by decide) ?_
    refine lv_imul hx hb dX3_addTo_25 ?_
    refine lv_iload_n hx hb dX3_addTo_26 rfl (lv_at hl 1 rfl) ?_
    refine lv_iadd hx hb dX3_addTo_27 ?_
    obtain rfl := Option.some.inj hf
    subst hq
    exact rt_i C hw hS dX3_addTo_28
  · have hf := ifn c1 hf
    refine lv_iload_n hx hb dX3_addTo_11 rfl (lv_at hl 0 rfl) ?_
    refine lv_iload_n hx hb dX3_addTo_12 rfl (lv_at hl 1 rfl) ?_
    refine lv_iadd hx hb dX3_addTo_13 ?_
    obtain rfl := Option.some.inj hf
    subst hq
    exact rt_i C hw hS dX3_addTo_14

theorem kX3_addTo {l : Launch} {Γ : Gm} {A : Nat → Prop} {G : Gs} {v0 : Int32} {v1 : Int32} {v2 : Int32} {fin : Int32} (hf : fX3_addTo v0 v1 v2 = some fin) : Kt l yX3_addTo cX3_addTo 3 (some .int) 0 0 Γ A G G [.int v0, .int v1, .int v2] (some (.int fin)) :=
  kt_of (by decide) (Nat.le_of_ble_eq_true rfl) (fun p e s m args below meth c C => wX3_addTo_e C hf rfl)
noncomputable def bX3_fewest_94 (g : Gs) (v1 : Nat) : Option (Gs × Int32) :=
  (fX2_allSecrets (g v1)).bind fun z1 => gd (inR z1 1024) (some ((g, (ga (g 301) 0 (Int32.toNatClampNeg z1)) / 128)))
set_option maxRecDepth 100000 in
set_option maxHeartbeats 4000000 in
theorem wX3_fewest_94 {p : Program} {l : Launch} {e : Env} {s : State} {m : MethodId} {args : Array Value} {below : List Frame} {meth : Method} {c : Code} {Γ : Gm} {A : Nat → Prop} {g : Gs} {v1 : Nat} {q : (Gs × Int32)} {fin : Gs × Int32} (C : Cx p s m args meth c yX3_fewest cX3_fewest 6 (some .int) Γ A) (hv1 : kd Γ v1 = some 2) (hf : bX3_fewest_94 g v1 = some q) (hq : (fun x => x = fin) q) : Wk p l e { frames := 2, cells := 0, slots := 0, locals := 40 } s m args below meth c Γ A fin.1 (some (.int fin.2)) 94 6 [(0, .ref (ad Γ 301)), (1, .ref (ad Γ v1))] [] g := by
  intro H locs ls hw hS hl
  unfold bX3_fewest_94 at hf
  obtain ⟨hx, hb, hml, hr, hown, htw, hlocks, hE⟩ := id C
  have hown : s.vm.findClass RX3 = some m.cls := hown
  refine lv_aload_n hx hb dX3_fewest_94 rfl (lv_at hl 0 rfl) ?_
  refine va_get (ci := 3) (v := .ref (aa Γ 301 0)) (C := RX3) (T := TX3) (N := 3) hx hb htw uwX3 hown hE.1 (hw _ _ (wf_301 hE)) 0 rfl rfl 0 (by decide) (htw _ mw395) (fun _ h9 => h9) rfl dX3_fewest_95 ?_
  refine lv_aload_n hx hb dX3_fewest_98 rfl (lv_at hl 1 rfl) ?_
  obtain ⟨z1, hz1, hf⟩ := bd hf
  refine cl_Vs (rest := [.ref (aa Γ 301 0)]) (kgX2_allSecrets (l := l) (Γ := Γ) (A := A) (G := g) (o := v1) hv1 hz1) ⟨hx, hb, hml, hown, htw⟩ hE hw hS (hw _ _ hv1) (q0 := 0) rfl rfl mw962 mw857 mw858 mw120 mw859 pdX2_allSecrets ⟨Nat.le_of_ble_eq_true rfl, Nat.le_of_ble_eq_true rfl⟩ rfl rfl hl.1 (Nat.le_of_ble_eq_true rfl) dX3_fewest_99 (fun H locs hw hS => ?_)
  obtain ⟨g2, hf⟩ := gd_some hf
  refine va_iald hx hb hE.1 (hw _ _ (wf_301 hE)) 1 0 rfl rfl (inR_in g2) dX3_fewest_102 ?_
  refine lv_sipush (v := 128) hx hb dX3_fewest_103 (by decide) ?_
  refine lv_idiv hx hb dX3_fewest_106 (by decide) ?_
  obtain rfl := Option.some.inj hf
  subst hq
  exact rt_i C hw hS dX3_fewest_107

noncomputable def bX3_fewest_80 (g : Gs) (v1 : Nat) (v2 : Int32) (v3 : Int32) (v4 : Int32) : Option ((Int32 × Gs) ⊕ (Gs × Int32)) :=
  gd (inR v3 1024) ((some (ug g 301 (sa (g 301) 0 (upd (ga (g 301) 0) (Int32.toNatClampNeg v3) v4)))).bind fun g4 => some (.inl (v3 + 1, g4)))
set_option maxRecDepth 100000 in
set_option maxHeartbeats 4000000 in
theorem wX3_fewest_80 {p : Program} {l : Launch} {e : Env} {s : State} {m : MethodId} {args : Array Value} {below : List Frame} {meth : Method} {c : Code} {Γ : Gm} {A : Nat → Prop} {g : Gs} {v1 : Nat} {v2 : Int32} {v3 : Int32} {v4 : Int32} {q : ((Int32 × Gs) ⊕ (Gs × Int32))} {fin : Gs × Int32} (C : Cx p s m args meth c yX3_fewest cX3_fewest 6 (some .int) Γ A) (hv1 : kd Γ v1 = some 2) (hf : bX3_fewest_80 g v1 v2 v3 v4 = some q) (hq : (KC (fun st : Int32 × Gs => Wk p l e { frames := 2, cells := 0, slots := 0, locals := 40 } s m args below meth c Γ A fin.1 (some (.int fin.2)) 9 6 [(0, .ref (ad Γ 301)), (1, .ref (ad Γ v1)), (2, .int v2), (3, .int st.1)] [] st.2) (fun x => x = fin)) q) : Wk p l e { frames := 2, cells := 0, slots := 0, locals := 40 } s m args below meth c Γ A fin.1 (some (.int fin.2)) 80 6 [(0, .ref (ad Γ 301)), (1, .ref (ad Γ v1)), (2, .int v2), (3, .int v3), (4, .int v4)] [] g := by
  intro H locs ls hw hS hl
  unfold bX3_fewest_80 at hf
  obtain ⟨hx, hb, hml, hr, hown, htw, hlocks, hE⟩ := id C
  have hown : s.vm.findClass RX3 = some m.cls := hown
  refine lv_aload_n hx hb dX3_fewest_80 rfl (lv_at hl 0 rfl) ?_
  refine va_get (ci := 3) (v := .ref (aa Γ 301 0)) (C := RX3) (T := TX3) (N := 3) hx hb htw uwX3 hown hE.1 (hw _ _ (wf_301 hE)) 0 rfl rfl 0 (by decide) (htw _ mw395) (fun _ h9 => h9) rfl dX3_fewest_81 ?_
  refine lv_iload_n hx hb dX3_fewest_84 rfl (lv_at hl 3 rfl) ?_
  refine lv_iload hx hb dX3_fewest_85 (lv_at hl 4 rfl) ?_
  obtain ⟨g3, hf⟩ := gd_some hf
  obtain ⟨g4, hg4, hf⟩ := bd hf
  have hg4 := Option.some.inj hg4
  refine wo_iastG hx hb hE hw hS (wf_301 hE) (q0 := 1) rfl (inR_in g3) (sa3_0 rfl) hg4 dX3_fewest_87 (fun H locs hw hS => ?_)
  refine lv_iinc (v := v3 + 1) (lv' := [(3, .int (v3 + 1)), (0, .ref (ad Γ 301)), (1, .ref (ad Γ v1)), (2, .int v2), (4, .int v4)]) hx hb dX3_fewest_88 hl (k := 3) rfl (by rfl) (by decide) rfl (fun ls hl => ?_)
  refine lv_goto (tgt := 9) hx hb dX3_fewest_91 (by decide) ?_
  obtain rfl := Option.some.inj hf
  exact hq.1 _ rfl H locs ls hw hS (lv_sub hl [1, 2, 3, 0] rfl)

noncomputable def bX3_fewest_74 (g : Gs) (v1 : Nat) (v2 : Int32) (v3 : Int32) (v4 : Int32) (v5 : Int32) : Option ((Int32 × Int32) ⊕ ((Int32 × Gs) ⊕ (Gs × Int32))) :=
  some (.inl (v4, v5 + 1))
set_option maxRecDepth 100000 in
set_option maxHeartbeats 4000000 in
theorem wX3_fewest_74 {p : Program} {l : Launch} {e : Env} {s : State} {m : MethodId} {args : Array Value} {below : List Frame} {meth : Method} {c : Code} {Γ : Gm} {A : Nat → Prop} {g : Gs} {v1 : Nat} {v2 : Int32} {v3 : Int32} {v4 : Int32} {v5 : Int32} {q : ((Int32 × Int32) ⊕ ((Int32 × Gs) ⊕ (Gs × Int32)))} {fin : Gs × Int32} (C : Cx p s m args meth c yX3_fewest cX3_fewest 6 (some .int) Γ A) (hv1 : kd Γ v1 = some 2) (hf : bX3_fewest_74 g v1 v2 v3 v4 v5 = some q) (hq : (KC (fun st : Int32 × Int32 => Wk p l e { frames := 2, cells := 0, slots := 0, locals := 40 } s m args below meth c Γ A fin.1 (some (.int fin.2)) 25 6 [(0, .ref (ad Γ 301)), (1, .ref (ad Γ v1)), (2, .int v2), (3, .int v3), (4, .int st.1), (5, .int st.2)] [] g) (KC (fun st : Int32 × Gs => Wk p l e { frames := 2, cells := 0, slots := 0, locals := 40 } s m args below meth c Γ A fin.1 (some (.int fin.2)) 9 6 [(0, .ref (ad Γ 301)), (1, .ref (ad Γ v1)), (2, .int v2), (3, .int st.1)] [] st.2) (fun x => x = fin))) q) : Wk p l e { frames := 2, cells := 0, slots := 0, locals := 40 } s m args below meth c Γ A fin.1 (some (.int fin.2)) 74 6 [(0, .ref (ad Γ 301)), (1, .ref (ad Γ v1)), (2, .int v2), (3, .int v3), (4, .int v4), (5, .int v5)] [] g := by
  intro H locs ls hw hS hl
  unfold bX3_fewest_74 at hf
  obtain ⟨hx, hb, hml, hr, hown, htw, hlocks, hE⟩ := id C
  have hown : s.vm.findClass RX3 = some m.cls := hown
  refine lv_iinc (v := v5 + 1) (lv' := [(5, .int (v5 + 1)), (0, .ref (ad Γ 301)), (1, .ref (ad Γ v1)), (2, .int v2), (3, .int v3), (4, .int v4)]) hx hb dX3_fewest_74 hl (k := 5) rfl (by rfl) (by decide) rfl (fun ls hl => ?_)
  refine lv_goto (tgt := 25) hx hb dX3_fewest_77 (by decide) ?_
  obtain rfl := Option.some.inj hf
  exact hq.1 _ rfl H locs ls hw hS (lv_sub hl [1, 2, 3, 4, 5, 0] rfl)

noncomputable def bX3_fewest_25 (g : Gs) (v1 : Nat) (v2 : Int32) (v3 : Int32) (v4 : Int32) (v5 : Int32) : Option ((Int32 × Int32) ⊕ ((Int32 × Gs) ⊕ (Gs × Int32))) :=
  if (gi (g v1) 1) ≤ v5 then out1 (bX3_fewest_80 g v1 v2 v3 v4) else (fX9_hasBit v3 v5).bind fun z6 => if z6 = 0 then bX3_fewest_74 g v1 v2 v3 v4 v5 else (some (v3 &&& (((1 : Int32) <<< (v5 &&& 31)) ^^^ (-1)))).bind fun x7 => gd (inR x7 1024) (gd (inR v5 10) ((fX3_addTo (ga (g 301) 0 (Int32.toNatClampNeg x7)) (ga (g v1) 7 (Int32.toNatClampNeg v5)) v2).bind fun z10 => (some (mni v4 z10)).bind fun x11 => bX3_fewest_74 g v1 v2 v3 x11 v5))
set_option maxRecDepth 100000 in
set_option maxHeartbeats 4000000 in
theorem wX3_fewest_25 {p : Program} {l : Launch} {e : Env} {s : State} {m : MethodId} {args : Array Value} {below : List Frame} {meth : Method} {c : Code} {Γ : Gm} {A : Nat → Prop} {g : Gs} {v1 : Nat} {v2 : Int32} {v3 : Int32} {v4 : Int32} {v5 : Int32} {q : ((Int32 × Int32) ⊕ ((Int32 × Gs) ⊕ (Gs × Int32)))} {fin : Gs × Int32} (C : Cx p s m args meth c yX3_fewest cX3_fewest 6 (some .int) Γ A) (hv1 : kd Γ v1 = some 2) (hf : bX3_fewest_25 g v1 v2 v3 v4 v5 = some q) (hq : (KC (fun st : Int32 × Int32 => Wk p l e { frames := 2, cells := 0, slots := 0, locals := 40 } s m args below meth c Γ A fin.1 (some (.int fin.2)) 25 6 [(0, .ref (ad Γ 301)), (1, .ref (ad Γ v1)), (2, .int v2), (3, .int v3), (4, .int st.1), (5, .int st.2)] [] g) (KC (fun st : Int32 × Gs => Wk p l e { frames := 2, cells := 0, slots := 0, locals := 40 } s m args below meth c Γ A fin.1 (some (.int fin.2)) 9 6 [(0, .ref (ad Γ 301)), (1, .ref (ad Γ v1)), (2, .int v2), (3, .int st.1)] [] st.2) (fun x => x = fin))) q) : Wk p l e { frames := 2, cells := 0, slots := 0, locals := 40 } s m args below meth c Γ A fin.1 (some (.int fin.2)) 25 6 [(0, .ref (ad Γ 301)), (1, .ref (ad Γ v1)), (2, .int v2), (3, .int v3), (4, .int v4), (5, .int v5)] [] g := by
  intro H locs ls hw hS hl
  unfold bX3_fewest_25 at hf
  obtain ⟨hx, hb, hml, hr, hown, htw, hlocks, hE⟩ := id C
  have hown : s.vm.findClass RX3 = some m.cls := hown
  refine lv_iload hx hb dX3_fewest_25 (lv_at hl 5 rfl) ?_
  refine lv_aload_n hx hb dX3_fewest_27 rfl (lv_at hl 1 rfl) ?_
  refine va_get (ci := 2) (v := .int (gi (g v1) 1)) (C := RX2) (T := TX2) (N := 11) hx hb htw uwX2 hown hE.1 (hw _ _ hv1) 0 rfl rfl 1 (by decide) (htw _ mw167) (fun _ h9 => h9) rfl dX3_fewest_28 ?_
  refine lv_icmp_ge (tgt := 80) hx hb dX3_fewest_31 (by decide) (fun c13 => ?_) (fun c13 => ?_)
  · have hf := ifp c13 hf
    obtain ⟨q5, hfq5, eq5⟩ := out1_some hf
    subst eq5
    have hf := hfq5
    have hq := hq.2 _ rfl
    exact wX3_fewest_80 C hv1 hf hq H locs ls hw hS (lv_sub hl [0, 1, 2, 3, 4] rfl)
  · have hf := ifn c13 hf
    refine lv_iload_n hx hb dX3_fewest_34 rfl (lv_at hl 3 rfl) ?_
    refine lv_iload hx hb dX3_fewest_35 (lv_at hl 5 rfl) ?_
    obtain ⟨z6, hz6, hf⟩ := bd hf
    refine cl_SN (rest := []) (kX9_hasBit (l := l) (Γ := Γ) (A := A) (G := g) hz6) ⟨hx, hb, hml, hown, htw⟩ hE hw hS (nw14 hE.2.2.1) mw717 mw118 mw718 pdX9_hasBit ⟨Nat.le_of_ble_eq_true rfl, Nat.le_of_ble_eq_true rfl⟩ rfl rfl hl.1 (Nat.le_of_ble_eq_true rfl) dX3_fewest_37 (fun H locs hw hS => ?_)
    refine lv_if_eq (tgt := 74) hx hb dX3_fewest_40 (by decide) (fun c12 => ?_) (fun c12 => ?_)
    · have hf := ifp c12 hf
      exact wX3_fewest_74 C hv1 hf hq H locs ls hw hS hl
    · have hf := ifn c12 hf
      refine lv_iload hx hb dX3_fewest_43 (lv_at hl 4 rfl) ?_
      refine lv_aload_n hx hb dX3_fewest_45 rfl (lv_at hl 0 rfl) ?_
      refine va_get (ci := 3) (v := .ref (aa Γ 301 0)) (C := RX3) (T := TX3) (N := 3) hx hb htw uwX3 hown hE.1 (hw _ _ (wf_301 hE)) 0 rfl rfl 0 (by decide) (htw _ mw395) (fun _ h9 => h9) rfl dX3_fewest_46 ?_
      refine lv_iload_n hx hb dX3_fewest_49 rfl (lv_at hl 3 rfl) ?_
      refine lv_iconst (v := 1) hx hb dX3_fewest_50 (by decide) ?_
      refine lv_iload hx hb dX3_fewest_51 (lv_at hl 5 rfl) ?_
      refine lv_ishl hx hb dX3_fewest_53 ?_
      refine lv_iconst (v := (-1)) hx hb dX3_fewest_54 (by decide) ?_
      refine lv_ixor hx hb dX3_fewest_55 ?_
      refine lv_iand hx hb dX3_fewest_56 ?_
      obtain ⟨x7, hx7, hf⟩ := bd hf
      have hx7 := Option.some.inj hx7
      refine tp1i hx7 ?_
      obtain ⟨g8, hf⟩ := gd_some hf
      refine va_iald hx hb hE.1 (hw _ _ (wf_301 hE)) 1 0 rfl rfl (inR_in g8) dX3_fewest_57 ?_
      refine lv_aload_n hx hb dX3_fewest_58 rfl (lv_at hl 1 rfl) ?_
      refine va_get (ci := 2) (v := .ref (aa Γ v1 7)) (C := RX2) (T := TX2) (N := 11) hx hb htw uwX2 hown hE.1 (hw _ _ hv1) 0 rfl rfl 7 (by decide) (htw _ mw185) (fun _ h9 => h9) rfl dX3_fewest_59 ?_
      refine lv_iload hx hb dX3_fewest_62 (lv_at hl 5 rfl) ?_
      obtain ⟨g9, hf⟩ := gd_some hf
      refine va_iald hx hb hE.1 (hw _ _ hv1) 5 0 rfl rfl (inR_in g9) dX3_fewest_64 ?_
      refine lv_iload_n hx hb dX3_fewest_65 rfl (lv_at hl 2 rfl) ?_
      obtain ⟨z10, hz10, hf⟩ := bd hf
      refine cl_Ss (rest := [.int v4]) (kX3_addTo (l := l) (Γ := Γ) (A := A) (G := g) hz10) ⟨hx, hb, hml, hown, htw⟩ hE hw hS mw958 mw959 mw126 mw960 pdX3_addTo ⟨Nat.le_of_ble_eq_true rfl, Nat.le_of_ble_eq_true rfl⟩ rfl rfl hl.1 (Nat.le_of_ble_eq_true rfl) dX3_fewest_66 (fun H locs hw hS => ?_)
      refine va_mmin hx hb (hml.trans hl.1.symm) hown (htw _ mw961) (htw _ mw222) (htw _ mw122) (htw _ mw223) (Nat.le_of_ble_eq_true rfl) (Nat.le_of_ble_eq_true rfl) (Nat.le_refl _) (Nat.le_refl _) dX3_fewest_69 ?_
      obtain ⟨x11, hx11, hf⟩ := bd hf
      have hx11 := Option.some.inj hx11
      refine tp1i hx11 ?_
      refine lv_istore (lv' := [(4, .int x11), (0, .ref (ad Γ 301)), (1, .ref (ad Γ v1)), (2, .int v2), (3, .int v3), (5, .int v5)]) hx hb dX3_fewest_72 hl (by decide) rfl (fun ls hl => ?_)
      exact wX3_fewest_74 C hv1 hf hq H locs ls hw hS (lv_sub hl [1, 2, 3, 4, 0, 5] rfl)

set_option maxRecDepth 100000 in
set_option maxHeartbeats 4000000 in
theorem lwX3_fewest_25 {p : Program} {l : Launch} {e : Env} {s : State} {m : MethodId} {args : Array Value} {below : List Frame} {meth : Method} {c : Code} {Γ : Gm} {A : Nat → Prop} {g : Gs} {v1 : Nat} {v2 : Int32} {v3 : Int32} {v4 : Int32} {v5 : Int32} {q : ((Int32 × Gs) ⊕ (Gs × Int32))} {fin : Gs × Int32} (C : Cx p s m args meth c yX3_fewest cX3_fewest 6 (some .int) Γ A) (hv1 : kd Γ v1 = some 2) (hf : iter (fun st : Int32 × Int32 => bX3_fewest_25 g v1 v2 v3 st.1 st.2) (v4, v5) = some q) (hq : (KC (fun st : Int32 × Gs => Wk p l e { frames := 2, cells := 0, slots := 0, locals := 40 } s m args below meth c Γ A fin.1 (some (.int fin.2)) 9 6 [(0, .ref (ad Γ 301)), (1, .ref (ad Γ v1)), (2, .int v2), (3, .int st.1)] [] st.2) (fun x => x = fin)) q) : Wk p l e { frames := 2, cells := 0, slots := 0, locals := 40 } s m args below meth c Γ A fin.1 (some (.int fin.2)) 25 6 [(0, .ref (ad Γ 301)), (1, .ref (ad Γ v1)), (2, .int v2), (3, .int v3), (4, .int v4), (5, .int v5)] [] g := by
  intro H locs ls hw hS hl
  refine iter_walk (P := (fun st : Int32 × Int32 => Wk p l e { frames := 2, cells := 0, slots := 0, locals := 40 } s m args below meth c Γ A fin.1 (some (.int fin.2)) 25 6 [(0, .ref (ad Γ 301)), (1, .ref (ad Γ v1)), (2, .int v2), (3, .int v3), (4, .int st.1), (5, .int st.2)] [] g)) (K := (KC (fun st : Int32 × Gs => Wk p l e { frames := 2, cells := 0, slots := 0, locals := 40 } s m args below meth c Γ A fin.1 (some (.int fin.2)) 9 6 [(0, .ref (ad Γ 301)), (1, .ref (ad Γ v1)), (2, .int v2), (3, .int st.1)] [] st.2) (fun x => x = fin))) (fun st q hq1 h1 h2 => ?_) hf hq H locs ls hw hS hl
  exact wX3_fewest_25 (v4 := st.1) (v5 := st.2) C hv1 hq1 ⟨h1, h2⟩

noncomputable def bX3_fewest_9 (g : Gs) (v1 : Nat) (v2 : Int32) (v3 : Int32) : Option ((Int32 × Gs) ⊕ (Gs × Int32)) :=
  (fX2_secretSets (g v1)).bind fun z14 => if z14 ≤ v3 then out1 (bX3_fewest_94 g v1) else iter (fun st : Int32 × Int32 => bX3_fewest_25 g v1 v2 v3 st.1 st.2) (1408, 0)
set_option maxRecDepth 100000 in
set_option maxHeartbeats 4000000 in
theorem wX3_fewest_9 {p : Program} {l : Launch} {e : Env} {s : State} {m : MethodId} {args : Array Value} {below : List Frame} {meth : Method} {c : Code} {Γ : Gm} {A : Nat → Prop} {g : Gs} {v1 : Nat} {v2 : Int32} {v3 : Int32} {q : ((Int32 × Gs) ⊕ (Gs × Int32))} {fin : Gs × Int32} (C : Cx p s m args meth c yX3_fewest cX3_fewest 6 (some .int) Γ A) (hv1 : kd Γ v1 = some 2) (hf : bX3_fewest_9 g v1 v2 v3 = some q) (hq : (KC (fun st : Int32 × Gs => Wk p l e { frames := 2, cells := 0, slots := 0, locals := 40 } s m args below meth c Γ A fin.1 (some (.int fin.2)) 9 6 [(0, .ref (ad Γ 301)), (1, .ref (ad Γ v1)), (2, .int v2), (3, .int st.1)] [] st.2) (fun x => x = fin)) q) : Wk p l e { frames := 2, cells := 0, slots := 0, locals := 40 } s m args below meth c Γ A fin.1 (some (.int fin.2)) 9 6 [(0, .ref (ad Γ 301)), (1, .ref (ad Γ v1)), (2, .int v2), (3, .int v3)] [] g := by
  intro H locs ls hw hS hl
  unfold bX3_fewest_9 at hf
  obtain ⟨hx, hb, hml, hr, hown, htw, hlocks, hE⟩ := id C
  have hown : s.vm.findClass RX3 = some m.cls := hown
  refine lv_iload_n hx hb dX3_fewest_9 rfl (lv_at hl 3 rfl) ?_
  refine lv_aload_n hx hb dX3_fewest_10 rfl (lv_at hl 1 rfl) ?_
  obtain ⟨z14, hz14, hf⟩ := bd hf
  refine cl_Vs (rest := [.int v3]) (kgX2_secretSets (l := l) (Γ := Γ) (A := A) (G := g) (o := v1) hv1 hz14) ⟨hx, hb, hml, hown, htw⟩ hE hw hS (hw _ _ hv1) (q0 := 0) rfl rfl mw956 mw851 mw852 mw120 mw853 pdX2_secretSets ⟨Nat.le_of_ble_eq_true rfl, Nat.le_of_ble_eq_true rfl⟩ rfl rfl hl.1 (Nat.le_of_ble_eq_true rfl) dX3_fewest_11 (fun H locs hw hS => ?_)
  refine lv_icmp_ge (tgt := 94) hx hb dX3_fewest_14 (by decide) (fun c16 => ?_) (fun c16 => ?_)
  · have hf := ifp c16 hf
    obtain ⟨q15, hfq15, eq15⟩ := out1_some hf
    subst eq15
    have hf := hfq15
    have hq := hq.2 _ rfl
    exact wX3_fewest_94 C hv1 hf hq H locs ls hw hS (lv_sub hl [0, 1] rfl)
  · have hf := ifn c16 hf
    refine lv_sipush (v := 1408) hx hb dX3_fewest_17 (by decide) ?_
    refine lv_istore (lv' := [(4, .int 1408), (0, .ref (ad Γ 301)), (1, .ref (ad Γ v1)), (2, .int v2), (3, .int v3)]) hx hb dX3_fewest_20 hl (by decide) rfl (fun ls hl => ?_)
    refine lv_iconst (v := 0) hx hb dX3_fewest_22 (by decide) ?_
    refine lv_istore (lv' := [(5, .int 0), (4, .int 1408), (0, .ref (ad Γ 301)), (1, .ref (ad Γ v1)), (2, .int v2), (3, .int v3)]) hx hb dX3_fewest_23 hl (by decide) rfl (fun ls hl => ?_)
    exact lwX3_fewest_25 C hv1 hf hq H locs ls hw hS (lv_sub hl [2, 3, 4, 5, 1, 0] rfl)

set_option maxRecDepth 100000 in
set_option maxHeartbeats 4000000 in
theorem lwX3_fewest_9 {p : Program} {l : Launch} {e : Env} {s : State} {m : MethodId} {args : Array Value} {below : List Frame} {meth : Method} {c : Code} {Γ : Gm} {A : Nat → Prop} {g : Gs} {v1 : Nat} {v2 : Int32} {v3 : Int32} {q : (Gs × Int32)} {fin : Gs × Int32} (C : Cx p s m args meth c yX3_fewest cX3_fewest 6 (some .int) Γ A) (hv1 : kd Γ v1 = some 2) (hf : iter (fun st : Int32 × Gs => bX3_fewest_9 st.2 v1 v2 st.1) (v3, g) = some q) (hq : (fun x => x = fin) q) : Wk p l e { frames := 2, cells := 0, slots := 0, locals := 40 } s m args below meth c Γ A fin.1 (some (.int fin.2)) 9 6 [(0, .ref (ad Γ 301)), (1, .ref (ad Γ v1)), (2, .int v2), (3, .int v3)] [] g := by
  intro H locs ls hw hS hl
  refine iter_walk (P := (fun st : Int32 × Gs => Wk p l e { frames := 2, cells := 0, slots := 0, locals := 40 } s m args below meth c Γ A fin.1 (some (.int fin.2)) 9 6 [(0, .ref (ad Γ 301)), (1, .ref (ad Γ v1)), (2, .int v2), (3, .int st.1)] [] st.2)) (K := (fun x => x = fin)) (fun st q hq1 h1 h2 => ?_) hf hq H locs ls hw hS hl
  exact wX3_fewest_9 (g := st.2) (v3 := st.1) C hv1 hq1 ⟨h1, h2⟩

noncomputable def fX3_fewest (g : Gs) (v1 : Nat) (v2 : Int32) : Option (Gs × Int32) :=
  (some (ug g 301 (sa (g 301) 0 (upd (ga (g 301) 0) (Int32.toNatClampNeg 0) v2)))).bind fun g17 => iter (fun st : Int32 × Gs => bX3_fewest_9 st.2 v1 v2 st.1) (1, g17)
set_option maxRecDepth 100000 in
set_option maxHeartbeats 4000000 in
theorem wX3_fewest_e {p : Program} {l : Launch} {e : Env} {s : State} {m : MethodId} {args : Array Value} {below : List Frame} {meth : Method} {c : Code} {Γ : Gm} {A : Nat → Prop} {g : Gs} {v1 : Nat} {v2 : Int32} {q : (Gs × Int32)} {fin : Gs × Int32} (C : Cx p s m args meth c yX3_fewest cX3_fewest 6 (some .int) Γ A) (hv1 : kd Γ v1 = some 2) (hf : fX3_fewest g v1 v2 = some q) (hq : (fun x => x = fin) q) : Wk p l e { frames := 2, cells := 0, slots := 0, locals := 40 } s m args below meth c Γ A fin.1 (some (.int fin.2)) 0 6 [(0, .ref (ad Γ 301)), (1, .ref (ad Γ v1)), (2, .int v2)] [] g := by
  intro H locs ls hw hS hl
  unfold fX3_fewest at hf
  obtain ⟨hx, hb, hml, hr, hown, htw, hlocks, hE⟩ := id C
  have hown : s.vm.findClass RX3 = some m.cls := hown
  refine lv_aload_n hx hb dX3_fewest_0 rfl (lv_at hl 0 rfl) ?_
  refine va_get (ci := 3) (v := .ref (aa Γ 301 0)) (C := RX3) (T := TX3) (N := 3) hx hb htw uwX3 hown hE.1 (hw _ _ (wf_301 hE)) 0 rfl rfl 0 (by decide) (htw _ mw395) (fun _ h9 => h9) rfl dX3_fewest_1 ?_
  refine lv_iconst (v := 0) hx hb dX3_fewest_4 (by decide) ?_
  refine lv_iload_n hx hb dX3_fewest_5 rfl (lv_at hl 2 rfl) ?_
  obtain ⟨g17, hg17, hf⟩ := bd hf
  have hg17 := Option.some.inj hg17
  refine wo_iastG hx hb hE hw hS (wf_301 hE) (q0 := 1) rfl (inR_in (i := 0) (n := 1024) (by decide)) (sa3_0 rfl) hg17 dX3_fewest_6 (fun H locs hw hS => ?_)
  refine lv_iconst (v := 1) hx hb dX3_fewest_7 (by decide) ?_
  refine lv_istore_n (lv' := [(3, .int 1), (0, .ref (ad Γ 301)), (1, .ref (ad Γ v1)), (2, .int v2)]) hx hb dX3_fewest_8 rfl hl (by decide) rfl (fun ls hl => ?_)
  exact lwX3_fewest_9 C hv1 hf hq H locs ls hw hS (lv_sub hl [1, 2, 3, 0] rfl)

theorem kX3_fewest {l : Launch} {Γ : Gm} {A : Nat → Prop} {g : Gs} {v1 : Nat} {v2 : Int32} {fin : Gs × Int32} (hv1 : kd Γ v1 = some 2) (hf : fX3_fewest g v1 v2 = some fin) : Kt l yX3_fewest cX3_fewest 6 (some .int) 2 40 Γ A g fin.1 [.ref (ad Γ 301), .ref (ad Γ v1), .int v2] (some (.int fin.2)) :=
  kt_of (by decide) (Nat.le_of_ble_eq_true rfl) (fun p e s m args below meth c C => wX3_fewest_e C hv1 hf rfl)
noncomputable def bX3_place_117 (g : Gs) (rc : Gs → Nat → Int32 → Int32 → Int32 → Option (Gs × Int32)) (v0 : Nat) (v1 : Int32) (v2 : Int32) (v3 : Int32) (v6 : Int32) (v7 : Int32) : Option ((Int32 × Gs) ⊕ (Gs × Int32)) :=
  if v7 = 0 then some (.inl (v6 + 1, g)) else some (.inr ((g, 0)))
set_option maxRecDepth 100000 in
set_option maxHeartbeats 4000000 in
theorem wX3_place_117 {p : Program} {l : Launch} {e : Env} {s : State} {m : MethodId} {args : Array Value} {below : List Frame} {meth : Method} {c : Code} {Γ : Gm} {A : Nat → Prop} {Fd Ld : Nat} {g : Gs} {rc : Gs → Nat → Int32 → Int32 → Int32 → Option (Gs × Int32)} {v0 : Nat} {v1 : Int32} {v2 : Int32} {v3 : Int32} {v6 : Int32} {v7 : Int32} {q : ((Int32 × Gs) ⊕ (Gs × Int32))} {fin : Gs × Int32} (C : Cx p s m args meth c yX3_place cX3_place 8 (some .boolean) Γ A) (hrc : ∀ (g : Gs) (v1 : Nat) (v2 v3 v4 : Int32) (fin : Gs × Int32), kd Γ v1 = some 2 → rc g v1 v2 v3 v4 = some fin → Kt l yX3_place cX3_place 8 (some .boolean) Fd Ld Γ A g fin.1 [.ref (ad Γ v1), .int v2, .int v3, .int v4, .ref (aa Γ 301 1), .ref (aa Γ 301 2)] (some (.int fin.2))) (hv0 : kd Γ v0 = some 2) (hf : bX3_place_117 g rc v0 v1 v2 v3 v6 v7 = some q) (hq : (KC (fun st : Int32 × Gs => Wk p l e { frames := (Fd + 1), cells := 0, slots := 0, locals := (Ld + 27) } s m args below meth c Γ A fin.1 (some (.int fin.2)) 20 8 [(0, .ref (ad Γ v0)), (1, .int v1), (2, .int v2), (3, .int v3), (4, .ref (aa Γ 301 1)), (5, .ref (aa Γ 301 2)), (6, .int st.1)] [] st.2) (fun x => x = fin)) q) : Wk p l e { frames := (Fd + 1), cells := 0, slots := 0, locals := (Ld + 27) } s m args below meth c Γ A fin.1 (some (.int fin.2)) 117 8 [(0, .ref (ad Γ v0)), (1, .int v1), (2, .int v2), (3, .int v3), (4, .ref (aa Γ 301 1)), (5, .ref (aa Γ 301 2)), (6, .int v6), (7, .int v7)] [] g := by
  intro H locs ls hw hS hl
  unfold bX3_place_117 at hf
  obtain ⟨hx, hb, hml, hr, hown, htw, hlocks, hE⟩ := id C
  have hown : s.vm.findClass RX3 = some m.cls := hown
  refine lv_iload hx hb dX3_place_117 (lv_at hl 7 rfl) ?_
  refine lv_if_eq (tgt := 124) hx hb dX3_place_119 (by decide) (fun c1 => ?_) (fun c1 => ?_)
  · have hf := ifp c1 hf
    refine lv_iinc (v := v6 + 1) (lv' := [(6, .int (v6 + 1)), (0, .ref (ad Γ v0)), (1, .int v1), (2, .int v2), (3, .int v3), (4, .ref (aa Γ 301 1)), (5, .ref (aa Γ 301 2)), (7, .int v7)]) hx hb dX3_place_124 hl (k := 6) rfl (by rfl) (by decide) rfl (fun ls hl => ?_)
    refine lv_goto (tgt := 20) hx hb dX3_place_127 (by decide) ?_
    obtain rfl := Option.some.inj hf
    exact hq.1 _ rfl H locs ls hw hS (lv_sub hl [1, 2, 3, 4, 5, 6, 0] rfl)
  · have hf := ifn c1 hf
    refine lv_iconst (v := 0) hx hb dX3_place_122 (by decide) ?_
    obtain rfl := Option.some.inj hf
    have hq := hq.2 _ rfl
    subst hq
    exact rt_z C (Or.inl rfl) hw hS dX3_place_123

noncomputable def bX3_place_47 (g : Gs) (rc : Gs → Nat → Int32 → Int32 → Int32 → Option (Gs × Int32)) (v0 : Nat) (v1 : Int32) (v2 : Int32) (v3 : Int32) (v6 : Int32) (s0 : Int32) : Option ((Int32 × Gs) ⊕ (Gs × Int32)) :=
  gd (inR v6 10) (gd (inR v3 10) (if v1 < ((ga (g 301) 1 (Int32.toNatClampNeg v6)) + (ga (g v0) 7 (Int32.toNatClampNeg v3))) then bX3_place_117 g rc v0 v1 v2 v3 v6 s0 else gd (inR v3 10) ((some (ug g 301 (sa (g 301) 2 (upd (ga (g 301) 2) (Int32.toNatClampNeg v3) v6)))).bind fun g5 => gd (inR v6 10) (gd (inR v3 10) (gd (inR v6 10) ((some (ug g5 301 (sa (g5 301) 1 (upd (ga (g5 301) 1) (Int32.toNatClampNeg v6) ((ga (g5 301) 1 (Int32.toNatClampNeg v6)) + (ga (g5 v0) 7 (Int32.toNatClampNeg v3))))))).bind fun g9 => (rc g9 v0 v1 v2 (v3 + 1)).bind fun z10 => if z10.2 = 0 then gd (inR v6 10) (gd (inR v3 10) (gd (inR v6 10) ((some (ug z10.1 301 (sa (z10.1 301) 1 (upd (ga (z10.1 301) 1) (Int32.toNatClampNeg v6) ((ga (z10.1 301) 1 (Int32.toNatClampNeg v6)) - (ga (z10.1 v0) 7 (Int32.toNatClampNeg v3))))))).bind fun g14 => bX3_place_117 g14 rc v0 v1 v2 v3 v6 s0))) else some (.inr ((z10.1, 1)))))))))
set_option maxRecDepth 100000 in
set_option maxHeartbeats 4000000 in
theorem wX3_place_47 {p : Program} {l : Launch} {e : Env} {s : State} {m : MethodId} {args : Array Value} {below : List Frame} {meth : Method} {c : Code} {Γ : Gm} {A : Nat → Prop} {Fd Ld : Nat} {g : Gs} {rc : Gs → Nat → Int32 → Int32 → Int32 → Option (Gs × Int32)} {v0 : Nat} {v1 : Int32} {v2 : Int32} {v3 : Int32} {v6 : Int32} {s0 : Int32} {q : ((Int32 × Gs) ⊕ (Gs × Int32))} {fin : Gs × Int32} (C : Cx p s m args meth c yX3_place cX3_place 8 (some .boolean) Γ A) (hrc : ∀ (g : Gs) (v1 : Nat) (v2 v3 v4 : Int32) (fin : Gs × Int32), kd Γ v1 = some 2 → rc g v1 v2 v3 v4 = some fin → Kt l yX3_place cX3_place 8 (some .boolean) Fd Ld Γ A g fin.1 [.ref (ad Γ v1), .int v2, .int v3, .int v4, .ref (aa Γ 301 1), .ref (aa Γ 301 2)] (some (.int fin.2))) (hv0 : kd Γ v0 = some 2) (hf : bX3_place_47 g rc v0 v1 v2 v3 v6 s0 = some q) (hq : (KC (fun st : Int32 × Gs => Wk p l e { frames := (Fd + 1), cells := 0, slots := 0, locals := (Ld + 27) } s m args below meth c Γ A fin.1 (some (.int fin.2)) 20 8 [(0, .ref (ad Γ v0)), (1, .int v1), (2, .int v2), (3, .int v3), (4, .ref (aa Γ 301 1)), (5, .ref (aa Γ 301 2)), (6, .int st.1)] [] st.2) (fun x => x = fin)) q) : Wk p l e { frames := (Fd + 1), cells := 0, slots := 0, locals := (Ld + 27) } s m args below meth c Γ A fin.1 (some (.int fin.2)) 47 8 [(0, .ref (ad Γ v0)), (1, .int v1), (2, .int v2), (3, .int v3), (4, .ref (aa Γ 301 1)), (5, .ref (aa Γ 301 2)), (6, .int v6)] [.int s0] g := by
  intro H locs ls hw hS hl
  unfold bX3_place_47 at hf
  obtain ⟨hx, hb, hml, hr, hown, htw, hlocks, hE⟩ := id C
  have hown : s.vm.findClass RX3 = some m.cls := hown
  refine lv_istore (lv' := [(7, .int s0), (0, .ref (ad Γ v0)), (1, .int v1), (2, .int v2), (3, .int v3), (4, .ref (aa Γ 301 1)), (5, .ref (aa Γ 301 2)), (6, .int v6)]) hx hb dX3_place_47 hl (by decide) rfl (fun ls hl => ?_)
  refine lv_aload hx hb dX3_place_49 (lv_at hl 5 rfl) ?_
  refine lv_iload hx hb dX3_place_51 (lv_at hl 7 rfl) ?_
  obtain ⟨g2, hf⟩ := gd_some hf
  refine va_iald hx hb hE.1 (hw _ _ (wf_301 hE)) 2 0 rfl rfl (inR_in g2) dX3_place_53 ?_
  refine lv_aload_n hx hb dX3_place_54 rfl (lv_at hl 1 rfl) ?_
  refine va_get (ci := 2) (v := .ref (aa Γ v0 7)) (C := RX2) (T := TX2) (N := 11) hx hb htw uwX2 hown hE.1 (hw _ _ hv0) 0 rfl rfl 7 (by decide) (htw _ mw185) (fun _ h9 => h9) rfl dX3_place_55 ?_
  refine lv_iload_n hx hb dX3_place_58 rfl (lv_at hl 4 rfl) ?_
  obtain ⟨g3, hf⟩ := gd_some hf
  refine va_iald hx hb hE.1 (hw _ _ hv0) 5 0 rfl rfl (inR_in g3) dX3_place_59 ?_
  refine lv_iadd hx hb dX3_place_60 ?_
  refine lv_iload_n hx hb dX3_place_61 rfl (lv_at hl 2 rfl) ?_
  refine lv_icmp_gt (tgt := 117) hx hb dX3_place_62 (by decide) (fun c16 => ?_) (fun c16 => ?_)
  · have hf := ifp c16 hf
    exact wX3_place_117 C hrc hv0 hf hq H locs ls hw hS (lv_sub hl [1, 2, 3, 4, 5, 6, 7, 0] rfl)
  · have hf := ifn c16 hf
    refine lv_aload hx hb dX3_place_65 (lv_at hl 6 rfl) ?_
    refine lv_iload_n hx hb dX3_place_67 rfl (lv_at hl 4 rfl) ?_
    refine lv_iload hx hb dX3_place_68 (lv_at hl 7 rfl) ?_
    obtain ⟨g4, hf⟩ := gd_some hf
    obtain ⟨g5, hg5, hf⟩ := bd hf
    have hg5 := Option.some.inj hg5
    refine wo_iastG hx hb hE hw hS (wf_301 hE) (q0 := 3) rfl (inR_in g4) (sa3_2 rfl) hg5 dX3_place_70 (fun H locs hw hS => ?_)
    refine lv_aload hx hb dX3_place_71 (lv_at hl 5 rfl) ?_
    refine lv_iload hx hb dX3_place_73 (lv_at hl 7 rfl) ?_
    refine lv_dup2_11 hx hb dX3_place_75 rfl rfl ?_
    obtain ⟨g6, hf⟩ := gd_some hf
    refine va_iald hx hb hE.1 (hw _ _ (wf_301 hE)) 2 0 rfl rfl (inR_in g6) dX3_place_76 ?_
    refine lv_aload_n hx hb dX3_place_77 rfl (lv_at hl 1 rfl) ?_
    refine va_get (ci := 2) (v := .ref (aa Γ v0 7)) (C := RX2) (T := TX2) (N := 11) hx hb htw uwX2 hown hE.1 (hw _ _ hv0) 0 rfl rfl 7 (by decide) (htw _ mw185) (fun _ h9 => h9) rfl dX3_place_78 ?_
    refine lv_iload_n hx hb dX3_place_81 rfl (lv_at hl 4 rfl) ?_
    obtain ⟨g7, hf⟩ := gd_some hf
    refine va_iald hx hb hE.1 (hw _ _ hv0) 5 0 rfl rfl (inR_in g7) dX3_place_82 ?_
    refine lv_iadd hx hb dX3_place_83 ?_
    obtain ⟨g8, hf⟩ := gd_some hf
    obtain ⟨g9, hg9, hf⟩ := bd hf
    have hg9 := Option.some.inj hg9
    refine wo_iastG hx hb hE hw hS (wf_301 hE) (q0 := 2) rfl (inR_in g8) (sa3_1 rfl) hg9 dX3_place_84 (fun H locs hw hS => ?_)
    refine lv_aload_n hx hb dX3_place_85 rfl (lv_at hl 1 rfl) ?_
    refine lv_iload_n hx hb dX3_place_86 rfl (lv_at hl 2 rfl) ?_
    refine lv_iload_n hx hb dX3_place_87 rfl (lv_at hl 3 rfl) ?_
    refine lv_iload_n hx hb dX3_place_88 rfl (lv_at hl 4 rfl) ?_
    refine lv_iconst (v := 1) hx hb dX3_place_89 (by decide) ?_
    refine lv_iadd hx hb dX3_place_90 ?_
    refine lv_aload hx hb dX3_place_91 (lv_at hl 5 rfl) ?_
    refine lv_aload hx hb dX3_place_93 (lv_at hl 6 rfl) ?_
    obtain ⟨z10, hz10, hf⟩ := bd hf
    refine cl_Ss (rest := []) (hrc _ _ _ _ _ _ hv0 hz10) ⟨hx, hb, hml, hown, htw⟩ hE hw hS mw1173 mw1174 mw126 mw1175 pdX3_place ⟨Nat.le_refl _, (by show 8 + (8 + 11) + Ld ≤ Ld + 27; omega)⟩ rfl rfl hl.1 (Nat.le_of_ble_eq_true rfl) dX3_place_95 (fun H locs hw hS => ?_)
    refine lv_if_eq (tgt := 103) hx hb dX3_place_98 (by decide) (fun c15 => ?_) (fun c15 => ?_)
    · have hf := ifp c15 hf
      refine lv_aload hx hb dX3_place_103 (lv_at hl 5 rfl) ?_
      refine lv_iload hx hb dX3_place_105 (lv_at hl 7 rfl) ?_
      refine lv_dup2_11 hx hb dX3_place_107 rfl rfl ?_
      obtain ⟨g11, hf⟩ := gd_some hf
      refine va_iald hx hb hE.1 (hw _ _ (wf_301 hE)) 2 0 rfl rfl (inR_in g11) dX3_place_108 ?_
      refine lv_aload_n hx hb dX3_place_109 rfl (lv_at hl 1 rfl) ?_
      refine va_get (ci := 2) (v := .ref (aa Γ v0 7)) (C := RX2) (T := TX2) (N := 11) hx hb htw uwX2 hown hE.1 (hw _ _ hv0) 0 rfl rfl 7 (by decide) (htw _ mw185) (fun _ h9 => h9) rfl dX3_place_110 ?_
      refine lv_iload_n hx hb dX3_place_113 rfl (lv_at hl 4 rfl) ?_
      obtain ⟨g12, hf⟩ := gd_some hf
      refine va_iald hx hb hE.1 (hw _ _ hv0) 5 0 rfl rfl (inR_in g12) dX3_place_114 ?_
      refine lv_isub hx hb dX3_place_115 ?_
      obtain ⟨g13, hf⟩ := gd_some hf
      obtain ⟨g14, hg14, hf⟩ := bd hf
      have hg14 := Option.some.inj hg14
      refine wo_iastG hx hb hE hw hS (wf_301 hE) (q0 := 2) rfl (inR_in g13) (sa3_1 rfl) hg14 dX3_place_116 (fun H locs hw hS => ?_)
      exact wX3_place_117 C hrc hv0 hf hq H locs ls hw hS (lv_sub hl [1, 2, 3, 4, 5, 6, 7, 0] rfl)
    · have hf := ifn c15 hf
      refine lv_iconst (v := 1) hx hb dX3_place_101 (by decide) ?_
      obtain rfl := Option.some.inj hf
      have hq := hq.2 _ rfl
      subst hq
      exact rt_z C (Or.inr rfl) hw hS dX3_place_102

noncomputable def bX3_place_20 (g : Gs) (rc : Gs → Nat → Int32 → Int32 → Int32 → Option (Gs × Int32)) (v0 : Nat) (v1 : Int32) (v2 : Int32) (v3 : Int32) (v6 : Int32) : Option ((Int32 × Gs) ⊕ (Gs × Int32)) :=
  if v2 ≤ v6 then some (.inr ((g, 0))) else if 10 ≤ v6 then some (.inr ((g, 0))) else gd (inR v6 10) (if (ga (g 301) 1 (Int32.toNatClampNeg v6)) = 0 then bX3_place_47 g rc v0 v1 v2 v3 v6 1 else bX3_place_47 g rc v0 v1 v2 v3 v6 0)
set_option maxRecDepth 100000 in
set_option maxHeartbeats 4000000 in
theorem wX3_place_20 {p : Program} {l : Launch} {e : Env} {s : State} {m : MethodId} {args : Array Value} {below : List Frame} {meth : Method} {c : Code} {Γ : Gm} {A : Nat → Prop} {Fd Ld : Nat} {g : Gs} {rc : Gs → Nat → Int32 → Int32 → Int32 → Option (Gs × Int32)} {v0 : Nat} {v1 : Int32} {v2 : Int32} {v3 : Int32} {v6 : Int32} {q : ((Int32 × Gs) ⊕ (Gs × Int32))} {fin : Gs × Int32} (C : Cx p s m args meth c yX3_place cX3_place 8 (some .boolean) Γ A) (hrc : ∀ (g : Gs) (v1 : Nat) (v2 v3 v4 : Int32) (fin : Gs × Int32), kd Γ v1 = some 2 → rc g v1 v2 v3 v4 = some fin → Kt l yX3_place cX3_place 8 (some .boolean) Fd Ld Γ A g fin.1 [.ref (ad Γ v1), .int v2, .int v3, .int v4, .ref (aa Γ 301 1), .ref (aa Γ 301 2)] (some (.int fin.2))) (hv0 : kd Γ v0 = some 2) (hf : bX3_place_20 g rc v0 v1 v2 v3 v6 = some q) (hq : (KC (fun st : Int32 × Gs => Wk p l e { frames := (Fd + 1), cells := 0, slots := 0, locals := (Ld + 27) } s m args below meth c Γ A fin.1 (some (.int fin.2)) 20 8 [(0, .ref (ad Γ v0)), (1, .int v1), (2, .int v2), (3, .int v3), (4, .ref (aa Γ 301 1)), (5, .ref (aa Γ 301 2)), (6, .int st.1)] [] st.2) (fun x => x = fin)) q) : Wk p l e { frames := (Fd + 1), cells := 0, slots := 0, locals := (Ld + 27) } s m args below meth c Γ A fin.1 (some (.int fin.2)) 20 8 [(0, .ref (ad Γ v0)), (1, .int v1), (2, .int v2), (3, .int v3), (4, .ref (aa Γ 301 1)), (5, .ref (aa Γ 301 2)), (6, .int v6)] [] g := by
  intro H locs ls hw hS hl
  unfold bX3_place_20 at hf
  obtain ⟨hx, hb, hml, hr, hown, htw, hlocks, hE⟩ := id C
  have hown : s.vm.findClass RX3 = some m.cls := hown
  refine lv_iload hx hb dX3_place_20 (lv_at hl 6 rfl) ?_
  refine lv_iload_n hx hb dX3_place_22 rfl (lv_at hl 2 rfl) ?_
  refine lv_icmp_ge (tgt := 130) hx hb dX3_place_23 (by decide) (fun c20 => ?_) (fun c20 => ?_)
  · have hf := ifp c20 hf
    refine lv_iconst (v := 0) hx hb dX3_place_130 (by decide) ?_
    obtain rfl := Option.some.inj hf
    have hq := hq.2 _ rfl
    subst hq
    exact rt_z C (Or.inl rfl) hw hS dX3_place_131
  · have hf := ifn c20 hf
    refine lv_iload hx hb dX3_place_26 (lv_at hl 6 rfl) ?_
    refine lv_aload hx hb dX3_place_28 (lv_at hl 4 rfl) ?_
    refine va_alen (v := 10) hx hb hE.1 (hw _ _ (wf_301 hE)) 2 0 rfl rfl rfl dX3_place_30 ?_
    refine lv_icmp_ge (tgt := 130) hx hb dX3_place_31 (by decide) (fun c19 => ?_) (fun c19 => ?_)
    · have hf := ifp c19 hf
      refine lv_iconst (v := 0) hx hb dX3_place_130 (by decide) ?_
      obtain rfl := Option.some.inj hf
      have hq := hq.2 _ rfl
      subst hq
      exact rt_z C (Or.inl rfl) hw hS dX3_place_131
    · have hf := ifn c19 hf
      refine lv_aload hx hb dX3_place_34 (lv_at hl 4 rfl) ?_
      refine lv_iload hx hb dX3_place_36 (lv_at hl 6 rfl) ?_
      obtain ⟨g17, hf⟩ := gd_some hf
      refine va_iald hx hb hE.1 (hw _ _ (wf_301 hE)) 2 0 rfl rfl (inR_in g17) dX3_place_38 ?_
      refine lv_if_ne (tgt := 46) hx hb dX3_place_39 (by decide) (fun c18 => ?_) (fun c18 => ?_)
      · have hf := ifn c18 hf
        refine lv_iconst (v := 0) hx hb dX3_place_46 (by decide) ?_
        exact wX3_place_47 C hrc hv0 hf hq H locs ls hw hS hl
      · have hf := ifp c18 hf
        refine lv_iconst (v := 1) hx hb dX3_place_42 (by decide) ?_
        refine lv_goto (tgt := 47) hx hb dX3_place_43 (by decide) ?_
        exact wX3_place_47 C hrc hv0 hf hq H locs ls hw hS hl

set_option maxRecDepth 100000 in
set_option maxHeartbeats 4000000 in
theorem lwX3_place_20 {p : Program} {l : Launch} {e : Env} {s : State} {m : MethodId} {args : Array Value} {below : List Frame} {meth : Method} {c : Code} {Γ : Gm} {A : Nat → Prop} {Fd Ld : Nat} {g : Gs} {rc : Gs → Nat → Int32 → Int32 → Int32 → Option (Gs × Int32)} {v0 : Nat} {v1 : Int32} {v2 : Int32} {v3 : Int32} {v6 : Int32} {q : (Gs × Int32)} {fin : Gs × Int32} (C : Cx p s m args meth c yX3_place cX3_place 8 (some .boolean) Γ A) (hrc : ∀ (g : Gs) (v1 : Nat) (v2 v3 v4 : Int32) (fin : Gs × Int32), kd Γ v1 = some 2 → rc g v1 v2 v3 v4 = some fin → Kt l yX3_place cX3_place 8 (some .boolean) Fd Ld Γ A g fin.1 [.ref (ad Γ v1), .int v2, .int v3, .int v4, .ref (aa Γ 301 1), .ref (aa Γ 301 2)] (some (.int fin.2))) (hv0 : kd Γ v0 = some 2) (hf : iter (fun st : Int32 × Gs => bX3_place_20 st.2 rc v0 v1 v2 v3 st.1) (v6, g) = some q) (hq : (fun x => x = fin) q) : Wk p l e { frames := (Fd + 1), cells := 0, slots := 0, locals := (Ld + 27) } s m args below meth c Γ A fin.1 (some (.int fin.2)) 20 8 [(0, .ref (ad Γ v0)), (1, .int v1), (2, .int v2), (3, .int v3), (4, .ref (aa Γ 301 1)), (5, .ref (aa Γ 301 2)), (6, .int v6)] [] g := by
  intro H locs ls hw hS hl
  refine iter_walk (P := (fun st : Int32 × Gs => Wk p l e { frames := (Fd + 1), cells := 0, slots := 0, locals := (Ld + 27) } s m args below meth c Γ A fin.1 (some (.int fin.2)) 20 8 [(0, .ref (ad Γ v0)), (1, .int v1), (2, .int v2), (3, .int v3), (4, .ref (aa Γ 301 1)), (5, .ref (aa Γ 301 2)), (6, .int st.1)] [] st.2)) (K := (fun x => x = fin)) (fun st q hq1 h1 h2 => ?_) hf hq H locs ls hw hS hl
  exact wX3_place_20 (g := st.2) (v6 := st.1) C hrc hv0 hq1 ⟨h1, h2⟩

noncomputable def fX3_place (g : Gs) (rc : Gs → Nat → Int32 → Int32 → Int32 → Option (Gs × Int32)) (v0 : Nat) (v1 : Int32) (v2 : Int32) (v3 : Int32) : Option (Gs × Int32) :=
  if (gi (g v0) 1) ≤ v3 then some ((g, 1)) else if v3 < 10 then iter (fun st : Int32 × Gs => bX3_place_20 st.2 rc v0 v1 v2 v3 st.1) (0, g) else some ((g, 1))
set_option maxRecDepth 100000 in
set_option maxHeartbeats 4000000 in
theorem wX3_place_e {p : Program} {l : Launch} {e : Env} {s : State} {m : MethodId} {args : Array Value} {below : List Frame} {meth : Method} {c : Code} {Γ : Gm} {A : Nat → Prop} {Fd Ld : Nat} {g : Gs} {rc : Gs → Nat → Int32 → Int32 → Int32 → Option (Gs × Int32)} {v0 : Nat} {v1 : Int32} {v2 : Int32} {v3 : Int32} {q : (Gs × Int32)} {fin : Gs × Int32} (C : Cx p s m args meth c yX3_place cX3_place 8 (some .boolean) Γ A) (hrc : ∀ (g : Gs) (v1 : Nat) (v2 v3 v4 : Int32) (fin : Gs × Int32), kd Γ v1 = some 2 → rc g v1 v2 v3 v4 = some fin → Kt l yX3_place cX3_place 8 (some .boolean) Fd Ld Γ A g fin.1 [.ref (ad Γ v1), .int v2, .int v3, .int v4, .ref (aa Γ 301 1), .ref (aa Γ 301 2)] (some (.int fin.2))) (hv0 : kd Γ v0 = some 2) (hf : fX3_place g rc v0 v1 v2 v3 = some q) (hq : (fun x => x = fin) q) : Wk p l e { frames := (Fd + 1), cells := 0, slots := 0, locals := (Ld + 27) } s m args below meth c Γ A fin.1 (some (.int fin.2)) 0 8 [(0, .ref (ad Γ v0)), (1, .int v1), (2, .int v2), (3, .int v3), (4, .ref (aa Γ 301 1)), (5, .ref (aa Γ 301 2))] [] g := by
  intro H locs ls hw hS hl
  unfold fX3_place at hf
  obtain ⟨hx, hb, hml, hr, hown, htw, hlocks, hE⟩ := id C
  have hown : s.vm.findClass RX3 = some m.cls := hown
  refine lv_iload_n hx hb dX3_place_0 rfl (lv_at hl 3 rfl) ?_
  refine lv_aload_n hx hb dX3_place_1 rfl (lv_at hl 0 rfl) ?_
  refine va_get (ci := 2) (v := .int (gi (g v0) 1)) (C := RX2) (T := TX2) (N := 11) hx hb htw uwX2 hown hE.1 (hw _ _ hv0) 0 rfl rfl 1 (by decide) (htw _ mw167) (fun _ h9 => h9) rfl dX3_place_2 ?_
  refine lv_icmp_ge (tgt := 15) hx hb dX3_place_5 (by decide) (fun c22 => ?_) (fun c22 => ?_)
  · have hf := ifp c22 hf
    refine lv_iconst (v := 1) hx hb dX3_place_15 (by decide) ?_
    obtain rfl := Option.some.inj hf
    subst hq
    exact rt_z C (Or.inr rfl) hw hS dX3_place_16
  · have hf := ifn c22 hf
    refine lv_iload_n hx hb dX3_place_8 rfl (lv_at hl 3 rfl) ?_
    refine lv_aload hx hb dX3_place_9 (lv_at hl 5 rfl) ?_
    refine va_alen (v := 10) hx hb hE.1 (hw _ _ (wf_301 hE)) 3 0 rfl rfl rfl dX3_place_11 ?_
    refine lv_icmp_lt (tgt := 17) hx hb dX3_place_12 (by decide) (fun c21 => ?_) (fun c21 => ?_)
    · have hf := ifp c21 hf
      refine lv_iconst (v := 0) hx hb dX3_place_17 (by decide) ?_
      refine lv_istore (lv' := [(6, .int 0), (0, .ref (ad Γ v0)), (1, .int v1), (2, .int v2), (3, .int v3), (4, .ref (aa Γ 301 1)), (5, .ref (aa Γ 301 2))]) hx hb dX3_place_18 hl (by decide) rfl (fun ls hl => ?_)
      exact lwX3_place_20 C hrc hv0 hf hq H locs ls hw hS (lv_sub hl [1, 2, 3, 4, 5, 6, 0] rfl)
    · have hf := ifn c21 hf
      refine lv_iconst (v := 1) hx hb dX3_place_15 (by decide) ?_
      obtain rfl := Option.some.inj hf
      subst hq
      exact rt_z C (Or.inr rfl) hw hS dX3_place_16

theorem kX3_place {Fd Ld : Nat} {l : Launch} {Γ : Gm} {A : Nat → Prop} {g : Gs} {rc : Gs → Nat → Int32 → Int32 → Int32 → Option (Gs × Int32)} {v0 : Nat} {v1 : Int32} {v2 : Int32} {v3 : Int32} {fin : Gs × Int32} (hrc : ∀ (g : Gs) (v1 : Nat) (v2 v3 v4 : Int32) (fin : Gs × Int32), kd Γ v1 = some 2 → rc g v1 v2 v3 v4 = some fin → Kt l yX3_place cX3_place 8 (some .boolean) Fd Ld Γ A g fin.1 [.ref (ad Γ v1), .int v2, .int v3, .int v4, .ref (aa Γ 301 1), .ref (aa Γ 301 2)] (some (.int fin.2))) (hv0 : kd Γ v0 = some 2) (hf : fX3_place g rc v0 v1 v2 v3 = some fin) : Kt l yX3_place cX3_place 8 (some .boolean) (Fd + 1) (Ld + 27) Γ A g fin.1 [.ref (ad Γ v0), .int v1, .int v2, .int v3, .ref (aa Γ 301 1), .ref (aa Γ 301 2)] (some (.int fin.2)) :=
  kt_of (by decide) (Nat.le_of_ble_eq_true rfl) (fun p e s m args below meth c C => wX3_place_e C hrc hv0 hf rfl)
noncomputable def fpl : Nat → Gs → Nat → Int32 → Int32 → Int32 → Option (Gs × Int32)
  | 0 => fun _ _ _ _ _ => none
  | d + 1 => fun g v1 v2 v3 v4 => fX3_place g (fpl d) v1 v2 v3 v4
theorem kpl {l : Launch} {Γ : Gm} {A : Nat → Prop} (d : Nat) : ∀ (g : Gs) (v1 : Nat) (v2 v3 v4 : Int32) (fin : Gs × Int32), kd Γ v1 = some 2 → fpl d g v1 v2 v3 v4 = some fin → Kt l yX3_place cX3_place 8 (some .boolean) d (27 * d) Γ A g fin.1 [.ref (ad Γ v1), .int v2, .int v3, .int v4, .ref (aa Γ 301 1), .ref (aa Γ 301 2)] (some (.int fin.2)) := by
  induction d with
  | zero => intro g v1 v2 v3 v4 fin hv hf; cases hf
  | succ d ih => intro g v1 v2 v3 v4 fin hv hf; exact kX3_place (Fd := d) (Ld := 27 * d) ih hv hf
theorem kpl12 {l : Launch} {Γ : Gm} {A : Nat → Prop} {g : Gs} {v1 : Nat} {v2 v3 v4 : Int32} {fin : Gs × Int32} (hv1 : kd Γ v1 = some 2) (hf : fpl 12 g v1 v2 v3 v4 = some fin) : Kt l yX3_place cX3_place 8 (some .boolean) 12 324 Γ A g fin.1 [.ref (ad Γ v1), .int v2, .int v3, .int v4, .ref (aa Γ 301 1), .ref (aa Γ 301 2)] (some (.int fin.2)) := kpl 12 g v1 v2 v3 v4 fin hv1 hf
noncomputable def fX3_whenTold (g : Gs) (v1 : Nat) (v2 : Int32) (v3 : Int32) : Option (Gs × Int32) :=
  (fX3_fewest g v1 v2).bind fun z1 => (some (ug z1.1 301 (sa (z1.1 301) 1 (fl 10 0 (ga (z1.1 301) 1))))).bind fun g2 => (fpl 12 g2 v1 v2 z1.2 0).bind fun z3 => if z3.2 = 0 then some ((z3.1, (-1))) else gd (inR v3 10) (some ((z3.1, ga (z3.1 301) 2 (Int32.toNatClampNeg v3))))
set_option maxRecDepth 100000 in
set_option maxHeartbeats 4000000 in
theorem wX3_whenTold_e {p : Program} {l : Launch} {e : Env} {s : State} {m : MethodId} {args : Array Value} {below : List Frame} {meth : Method} {c : Code} {Γ : Gm} {A : Nat → Prop} {g : Gs} {v1 : Nat} {v2 : Int32} {v3 : Int32} {q : (Gs × Int32)} {fin : Gs × Int32} (C : Cx p s m args meth c yX3_whenTold cX3_whenTold 5 (some .int) Γ A) (hv1 : kd Γ v1 = some 2) (hf : fX3_whenTold g v1 v2 v3 = some q) (hq : (fun x => x = fin) q) : Wk p l e { frames := 13, cells := 0, slots := 0, locals := 351 } s m args below meth c Γ A fin.1 (some (.int fin.2)) 0 5 [(0, .ref (ad Γ 301)), (1, .ref (ad Γ v1)), (2, .int v2), (3, .int v3)] [] g := by
  intro H locs ls hw hS hl
  unfold fX3_whenTold at hf
  obtain ⟨hx, hb, hml, hr, hown, htw, hlocks, hE⟩ := id C
  have hown : s.vm.findClass RX3 = some m.cls := hown
  refine lv_aload_n hx hb dX3_whenTold_0 rfl (lv_at hl 0 rfl) ?_
  refine lv_aload_n hx hb dX3_whenTold_1 rfl (lv_at hl 1 rfl) ?_
  refine lv_iload_n hx hb dX3_whenTold_2 rfl (lv_at hl 2 rfl) ?_
  obtain ⟨z1, hz1, hf⟩ := bd hf
  refine cl_Vs (rest := []) (kX3_fewest (l := l) (Γ := Γ) (A := A) hv1 hz1) ⟨hx, hb, hml, hown, htw⟩ hE hw hS (hw _ _ (wf_301 hE)) (q0 := 0) rfl rfl mw1171 mw953 mw954 mw126 mw955 pdX3_fewest ⟨Nat.le_of_ble_eq_true rfl, Nat.le_of_ble_eq_true rfl⟩ rfl rfl hl.1 (Nat.le_of_ble_eq_true rfl) dX3_whenTold_3 (fun H locs hw hS => ?_)
  refine lv_istore (lv' := [(4, .int z1.2), (0, .ref (ad Γ 301)), (1, .ref (ad Γ v1)), (2, .int v2), (3, .int v3)]) hx hb dX3_whenTold_6 hl (by decide) rfl (fun ls hl => ?_)
  refine lv_aload_n hx hb dX3_whenTold_8 rfl (lv_at hl 1 rfl) ?_
  refine va_get (ci := 3) (v := .ref (aa Γ 301 1)) (C := RX3) (T := TX3) (N := 3) hx hb htw uwX3 hown hE.1 (hw _ _ (wf_301 hE)) 0 rfl rfl 1 (by decide) (htw _ mw396) (fun _ h9 => h9) rfl dX3_whenTold_9 ?_
  refine lv_iconst (v := 0) hx hb dX3_whenTold_12 (by decide) ?_
  obtain ⟨g2, hg2, hf⟩ := bd hf
  have hg2 := Option.some.inj hg2
  refine cl_Sv (rest := []) (kfill (l := l) (A := A) (G := z1.1) (r := (z1.1 301)) (v := 0) (k := 1) (q0 := 2) (wf_301 hE) (Nat.lt_of_lt_of_le (Nat.lt_succ_self 10) (Nat.le_of_ble_eq_true rfl)) (fun _ => rfl) (fun _ _ => sa3_1 rfl)) ⟨hx, hb, hml, hown, htw⟩ hE (wo_gs hw) hS mw1172 mw605 mw135 mw606 pdJ7_fill_53178 ⟨Nat.le_of_ble_eq_true rfl, Nat.le_of_ble_eq_true rfl⟩ rfl rfl hl.1 (Nat.le_of_ble_eq_true rfl) dX3_whenTold_13 (fun H locs hw hS => ?_)
  rw [hg2] at hw
  refine lv_aload_n hx hb dX3_whenTold_16 rfl (lv_at hl 2 rfl) ?_
  refine lv_iload_n hx hb dX3_whenTold_17 rfl (lv_at hl 3 rfl) ?_
  refine lv_iload hx hb dX3_whenTold_18 (lv_at hl 0 rfl) ?_
  refine lv_iconst (v := 0) hx hb dX3_whenTold_20 (by decide) ?_
  refine lv_aload_n hx hb dX3_whenTold_21 rfl (lv_at hl 1 rfl) ?_
  refine va_get (ci := 3) (v := .ref (aa Γ 301 1)) (C := RX3) (T := TX3) (N := 3) hx hb htw uwX3 hown hE.1 (hw _ _ (wf_301 hE)) 0 rfl rfl 1 (by decide) (htw _ mw396) (fun _ h9 => h9) rfl dX3_whenTold_22 ?_
  refine lv_aload_n hx hb dX3_whenTold_25 rfl (lv_at hl 1 rfl) ?_
  refine va_get (ci := 3) (v := .ref (aa Γ 301 2)) (C := RX3) (T := TX3) (N := 3) hx hb htw uwX3 hown hE.1 (hw _ _ (wf_301 hE)) 0 rfl rfl 2 (by decide) (htw _ mw397) (fun _ h9 => h9) rfl dX3_whenTold_26 ?_
  obtain ⟨z3, hz3, hf⟩ := bd hf
  refine cl_Ss (rest := []) (kpl12 (l := l) (Γ := Γ) (A := A) hv1 hz3) ⟨hx, hb, hml, hown, htw⟩ hE hw hS mw1173 mw1174 mw126 mw1175 pdX3_place ⟨Nat.le_of_ble_eq_true rfl, Nat.le_of_ble_eq_true rfl⟩ rfl rfl hl.1 (Nat.le_of_ble_eq_true rfl) dX3_whenTold_29 (fun H locs hw hS => ?_)
  refine lv_if_eq (tgt := 44) hx hb dX3_whenTold_32 (by decide) (fun c5 => ?_) (fun c5 => ?_)
  · have hf := ifp c5 hf
    refine lv_iconst (v := (-1)) hx hb dX3_whenTold_44 (by decide) ?_
    obtain rfl := Option.some.inj hf
    subst hq
    exact rt_i C hw hS dX3_whenTold_45
  · have hf := ifn c5 hf
    refine lv_aload_n hx hb dX3_whenTold_35 rfl (lv_at hl 1 rfl) ?_
    refine va_get (ci := 3) (v := .ref (aa Γ 301 2)) (C := RX3) (T := TX3) (N := 3) hx hb htw uwX3 hown hE.1 (hw _ _ (wf_301 hE)) 0 rfl rfl 2 (by decide) (htw _ mw397) (fun _ h9 => h9) rfl dX3_whenTold_36 ?_
    refine lv_iload_n hx hb dX3_whenTold_39 rfl (lv_at hl 4 rfl) ?_
    obtain ⟨g4, hf⟩ := gd_some hf
    refine va_iald hx hb hE.1 (hw _ _ (wf_301 hE)) 3 0 rfl rfl (inR_in g4) dX3_whenTold_40 ?_
    refine lv_goto (tgt := 45) hx hb dX3_whenTold_41 (by decide) ?_
    obtain rfl := Option.some.inj hf
    subst hq
    exact rt_i C hw hS dX3_whenTold_45

theorem kX3_whenTold {l : Launch} {Γ : Gm} {A : Nat → Prop} {g : Gs} {v1 : Nat} {v2 : Int32} {v3 : Int32} {fin : Gs × Int32} (hv1 : kd Γ v1 = some 2) (hf : fX3_whenTold g v1 v2 v3 = some fin) : Kt l yX3_whenTold cX3_whenTold 5 (some .int) 13 351 Γ A g fin.1 [.ref (ad Γ 301), .ref (ad Γ v1), .int v2, .int v3] (some (.int fin.2)) :=
  kt_of (by decide) (Nat.le_of_ble_eq_true rfl) (fun p e s m args below meth c C => wX3_whenTold_e C hv1 hf rfl)
noncomputable def bX4_isBlank_12 : Option Int32 :=
  some (1)
set_option maxRecDepth 100000 in
set_option maxHeartbeats 4000000 in
theorem wX4_isBlank_12 {p : Program} {l : Launch} {e : Env} {s : State} {m : MethodId} {args : Array Value} {below : List Frame} {meth : Method} {c : Code} {Γ : Gm} {A : Nat → Prop} {G : Gs} {q : Int32} {fin : Int32} (C : Cx p s m args meth c yX4_isBlank cX4_isBlank 1 (some .boolean) Γ A) (hf : bX4_isBlank_12 = some q) (hq : (fun x => x = fin) q) : Wk p l e { frames := 0, cells := 0, slots := 0, locals := 0 } s m args below meth c Γ A G (some (.int fin)) 12 1 [] [] G := by
  intro H locs ls hw hS hl
  unfold bX4_isBlank_12 at hf
  obtain ⟨hx, hb, hml, hr, hown, htw, hlocks, hE⟩ := id C
  have hown : s.vm.findClass RX4 = some m.cls := hown
  refine lv_iconst (v := 1) hx hb dX4_isBlank_12 (by decide) ?_
  refine lv_goto (tgt := 17) hx hb dX4_isBlank_13 (by decide) ?_
  obtain rfl := Option.some.inj hf
  subst hq
  exact rt_z C (Or.inr rfl) hw hS dX4_isBlank_17

noncomputable def fX4_isBlank (v0 : Int32) : Option Int32 :=
  if v0 = 10 then bX4_isBlank_12 else if v0 = 32 then bX4_isBlank_12 else some (0)
set_option maxRecDepth 100000 in
set_option maxHeartbeats 4000000 in
theorem wX4_isBlank_e {p : Program} {l : Launch} {e : Env} {s : State} {m : MethodId} {args : Array Value} {below : List Frame} {meth : Method} {c : Code} {Γ : Gm} {A : Nat → Prop} {G : Gs} {v0 : Int32} {q : Int32} {fin : Int32} (C : Cx p s m args meth c yX4_isBlank cX4_isBlank 1 (some .boolean) Γ A) (hf : fX4_isBlank v0 = some q) (hq : (fun x => x = fin) q) : Wk p l e { frames := 0, cells := 0, slots := 0, locals := 0 } s m args below meth c Γ A G (some (.int fin)) 0 1 [(0, .int v0)] [] G := by
  intro H locs ls hw hS hl
  unfold fX4_isBlank at hf
  obtain ⟨hx, hb, hml, hr, hown, htw, hlocks, hE⟩ := id C
  have hown : s.vm.findClass RX4 = some m.cls := hown
  refine lv_iload_n hx hb dX4_isBlank_0 rfl (lv_at hl 0 rfl) ?_
  refine lv_bipush (v := 10) hx hb dX4_isBlank_1 (by decide) ?_
  refine lv_icmp_eq (tgt := 12) hx hb dX4_isBlank_3 (by decide) (fun c2 => ?_) (fun c2 => ?_)
  · have hf := ifp c2 hf
    exact wX4_isBlank_12 C hf hq H locs ls hw hS (lv_sub hl [] rfl)
  · have hf := ifn c2 hf
    refine lv_iload_n hx hb dX4_isBlank_6 rfl (lv_at hl 0 rfl) ?_
    refine lv_bipush (v := 32) hx hb dX4_isBlank_7 (by decide) ?_
    refine lv_icmp_ne (tgt := 16) hx hb dX4_isBlank_9 (by decide) (fun c1 => ?_) (fun c1 => ?_)
    · have hf := ifn c1 hf
      refine lv_iconst (v := 0) hx hb dX4_isBlank_16 (by decide) ?_
      obtain rfl := Option.some.inj hf
      subst hq
      exact rt_z C (Or.inl rfl) hw hS dX4_isBlank_17
    · have hf := ifp c1 hf
      exact wX4_isBlank_12 C hf hq H locs ls hw hS (lv_sub hl [] rfl)

theorem kX4_isBlank {l : Launch} {Γ : Gm} {A : Nat → Prop} {G : Gs} {v0 : Int32} {fin : Int32} (hf : fX4_isBlank v0 = some fin) : Kt l yX4_isBlank cX4_isBlank 1 (some .boolean) 0 0 Γ A G G [.int v0] (some (.int fin)) :=
  kt_of (by decide) (Nat.le_of_ble_eq_true rfl) (fun p e s m args below meth c C => wX4_isBlank_e C hf rfl)
noncomputable def fX4_isLetter (v0 : Int32) : Option Int32 :=
  if v0 < 97 then some (0) else if 122 < v0 then some (0) else some (1)
set_option maxRecDepth 100000 in
set_option maxHeartbeats 4000000 in
theorem wX4_isLetter_e {p : Program} {l : Launch} {e : Env} {s : State} {m : MethodId} {args : Array Value} {below : List Frame} {meth : Method} {c : Code} {Γ : Gm} {A : Nat → Prop} {G : Gs} {v0 : Int32} {q : Int32} {fin : Int32} (C : Cx p s m args meth c yX4_isLetter cX4_isLetter 1 (some .boolean) Γ A) (hf : fX4_isLetter v0 = some q) (hq : (fun x => x = fin) q) : Wk p l e { frames := 0, cells := 0, slots := 0, locals := 0 } s m args below meth c Γ A G (some (.int fin)) 0 1 [(0, .int v0)] [] G := by
  intro H locs ls hw hS hl
  unfold fX4_isLetter at hf
  obtain ⟨hx, hb, hml, hr, hown, htw, hlocks, hE⟩ := id C
  have hown : s.vm.findClass RX4 = some m.cls := hown
  refine lv_iload_n hx hb dX4_isLetter_0 rfl (lv_at hl 0 rfl) ?_
  refine lv_bipush (v := 97) hx hb dX4_isLetter_1 (by decide) ?_
  refine lv_icmp_lt (tgt := 16) hx hb dX4_isLetter_3 (by decide) (fun c2 => ?_) (fun c2 => ?_)
  · have hf := ifp c2 hf
    refine lv_iconst (v := 0) hx hb dX4_isLetter_16 (by decide) ?_
    obtain rfl := Option.some.inj hf
    subst hq
    exact rt_z C (Or.inl rfl) hw hS dX4_isLetter_17
  · have hf := ifn c2 hf
    refine lv_iload_n hx hb dX4_isLetter_6 rfl (lv_at hl 0 rfl) ?_
    refine lv_bipush (v := 122) hx hb dX4_isLetter_7 (by decide) ?_
    refine lv_icmp_gt (tgt := 16) hx hb dX4_isLetter_9 (by decide) (fun c1 => ?_) (fun c1 => ?_)
    · have hf := ifp c1 hf
      refine lv_iconst (v := 0) hx hb dX4_isLetter_16 (by decide) ?_
      obtain rfl := Option.some.inj hf
      subst hq
      exact rt_z C (Or.inl rfl) hw hS dX4_isLetter_17
    · have hf := ifn c1 hf
      refine lv_iconst (v := 1) hx hb dX4_isLetter_12 (by decide) ?_
      refine lv_goto (tgt := 17) hx hb dX4_isLetter_13 (by decide) ?_
      obtain rfl := Option.some.inj hf
      subst hq
      exact rt_z C (Or.inr rfl) hw hS dX4_isLetter_17

theorem kX4_isLetter {l : Launch} {Γ : Gm} {A : Nat → Prop} {G : Gs} {v0 : Int32} {fin : Int32} (hf : fX4_isLetter v0 = some fin) : Kt l yX4_isLetter cX4_isLetter 1 (some .boolean) 0 0 Γ A G G [.int v0] (some (.int fin)) :=
  kt_of (by decide) (Nat.le_of_ble_eq_true rfl) (fun p e s m args below meth c C => wX4_isLetter_e C hf rfl)
noncomputable def fX4_isDigit (v0 : Int32) : Option Int32 :=
  if v0 < 48 then some (0) else if 57 < v0 then some (0) else some (1)
set_option maxRecDepth 100000 in
set_option maxHeartbeats 4000000 in
theorem wX4_isDigit_e {p : Program} {l : Launch} {e : Env} {s : State} {m : MethodId} {args : Array Value} {below : List Frame} {meth : Method} {c : Code} {Γ : Gm} {A : Nat → Prop} {G : Gs} {v0 : Int32} {q : Int32} {fin : Int32} (C : Cx p s m args meth c yX4_isDigit cX4_isDigit 1 (some .boolean) Γ A) (hf : fX4_isDigit v0 = some q) (hq : (fun x => x = fin) q) : Wk p l e { frames := 0, cells := 0, slots := 0, locals := 0 } s m args below meth c Γ A G (some (.int fin)) 0 1 [(0, .int v0)] [] G := by
  intro H locs ls hw hS hl
  unfold fX4_isDigit at hf
  obtain ⟨hx, hb, hml, hr, hown, htw, hlocks, hE⟩ := id C
  have hown : s.vm.findClass RX4 = some m.cls := hown
  refine lv_iload_n hx hb dX4_isDigit_0 rfl (lv_at hl 0 rfl) ?_
  refine lv_bipush (v := 48) hx hb dX4_isDigit_1 (by decide) ?_
  refine lv_icmp_lt (tgt := 16) hx hb dX4_isDigit_3 (by decide) (fun c2 => ?_) (fun c2 => ?_)
  · have hf := ifp c2 hf
    refine lv_iconst (v := 0) hx hb dX4_isDigit_16 (by decide) ?_
    obtain rfl := Option.some.inj hf
    subst hq
    exact rt_z C (Or.inl rfl) hw hS dX4_isDigit_17
  · have hf := ifn c2 hf
    refine lv_iload_n hx hb dX4_isDigit_6 rfl (lv_at hl 0 rfl) ?_
    refine lv_bipush (v := 57) hx hb dX4_isDigit_7 (by decide) ?_
    refine lv_icmp_gt (tgt := 16) hx hb dX4_isDigit_9 (by decide) (fun c1 => ?_) (fun c1 => ?_)
    · have hf := ifp c1 hf
      refine lv_iconst (v := 0) hx hb dX4_isDigit_16 (by decide) ?_
      obtain rfl := Option.some.inj hf
      subst hq
      exact rt_z C (Or.inl rfl) hw hS dX4_isDigit_17
    · have hf := ifn c1 hf
      refine lv_iconst (v := 1) hx hb dX4_isDigit_12 (by decide) ?_
      refine lv_goto (tgt := 17) hx hb dX4_isDigit_13 (by decide) ?_
      obtain rfl := Option.some.inj hf
      subst hq
      exact rt_z C (Or.inr rfl) hw hS dX4_isDigit_17

theorem kX4_isDigit {l : Launch} {Γ : Gm} {A : Nat → Prop} {G : Gs} {v0 : Int32} {fin : Int32} (hf : fX4_isDigit v0 = some fin) : Kt l yX4_isDigit cX4_isDigit 1 (some .boolean) 0 0 Γ A G G [.int v0] (some (.int fin)) :=
  kt_of (by decide) (Nat.le_of_ble_eq_true rfl) (fun p e s m args below meth c C => wX4_isDigit_e C hf rfl)
noncomputable def bX4_nextToken_181 (r : Rec) (v1 : Int32) : Option Rec :=
  (some (si r 4 v1)).bind fun r1 => some (r1)
set_option maxRecDepth 100000 in
set_option maxHeartbeats 4000000 in
theorem wX4_nextToken_181 {p : Program} {l : Launch} {e : Env} {s : State} {m : MethodId} {args : Array Value} {below : List Frame} {meth : Method} {c : Code} {Γ : Gm} {A : Nat → Prop} {G : Gs} {o : Nat} {r : Rec} {v1 : Int32} {q : Rec} {fin : Rec} (C : Cx p s m args meth c yX4_nextToken cX4_nextToken 2 none Γ A) (hk : kd Γ o = some 4) (hf : bX4_nextToken_181 r v1 = some q) (hq : (fun x => x = fin) q) : Wk p l e { frames := 1, cells := 0, slots := 0, locals := 20 } s m args below meth c Γ A (ug G o fin) none 181 2 [(0, .ref (ad Γ o)), (1, .int v1)] [] (ug G o r) := by
  intro H locs ls hw hS hl
  unfold bX4_nextToken_181 at hf
  obtain ⟨hx, hb, hml, hr, hown, htw, hlocks, hE⟩ := id C
  have hown : s.vm.findClass RX4 = some m.cls := hown
  refine lv_aload_n hx hb dX4_nextToken_181 rfl (lv_at hl 0 rfl) ?_
  refine lv_iload_n hx hb dX4_nextToken_182 rfl (lv_at hl 1 rfl) ?_
  obtain ⟨r1, hr1, hf⟩ := bd hf
  have hr1 := Option.some.inj hr1
  refine wo_put (C := RX4) (T := TX4) (N := 14) (v := .int v1) (ty := .int) hx hb htw uwX4 tyX4 tyX4_ok nmX4 hown hE hw hS hk rfl rfl 4 (by decide) (htw _ mw287) (fun _ h9 => h9) rfl (tyX4_ok 4 (by decide)) rfl rfl (Nat.le_of_ble_eq_true rfl) (st4_4 hr1) dX4_nextToken_183 (fun H locs hw hS => ?_)
  obtain rfl := Option.some.inj hf
  subst hq
  exact rt_v C hw hS dX4_nextToken_186

noncomputable def bX4_nextToken_90 (r : Rec) (v1 : Int32) : Option Rec :=
  (some (si r 2 1)).bind fun r2 => bX4_nextToken_181 r2 v1
set_option maxRecDepth 100000 in
set_option maxHeartbeats 4000000 in
theorem wX4_nextToken_90 {p : Program} {l : Launch} {e : Env} {s : State} {m : MethodId} {args : Array Value} {below : List Frame} {meth : Method} {c : Code} {Γ : Gm} {A : Nat → Prop} {G : Gs} {o : Nat} {r : Rec} {v1 : Int32} {q : Rec} {fin : Rec} (C : Cx p s m args meth c yX4_nextToken cX4_nextToken 2 none Γ A) (hk : kd Γ o = some 4) (hf : bX4_nextToken_90 r v1 = some q) (hq : (fun x => x = fin) q) : Wk p l e { frames := 1, cells := 0, slots := 0, locals := 20 } s m args below meth c Γ A (ug G o fin) none 90 2 [(0, .ref (ad Γ o)), (1, .int v1)] [] (ug G o r) := by
  intro H locs ls hw hS hl
  unfold bX4_nextToken_90 at hf
  obtain ⟨hx, hb, hml, hr, hown, htw, hlocks, hE⟩ := id C
  have hown : s.vm.findClass RX4 = some m.cls := hown
  refine lv_aload_n hx hb dX4_nextToken_90 rfl (lv_at hl 0 rfl) ?_
  refine lv_iconst (v := 1) hx hb dX4_nextToken_91 (by decide) ?_
  obtain ⟨r2, hr2, hf⟩ := bd hf
  have hr2 := Option.some.inj hr2
  refine wo_put (C := RX4) (T := TX4) (N := 14) (v := .int 1) (ty := .int) hx hb htw uwX4 tyX4 tyX4_ok nmX4 hown hE hw hS hk rfl rfl 2 (by decide) (htw _ mw285) (fun _ h9 => h9) rfl (tyX4_ok 2 (by decide)) rfl rfl (Nat.le_of_ble_eq_true rfl) (st4_2 hr2) dX4_nextToken_92 (fun H locs hw hS => ?_)
  refine lv_goto (tgt := 181) hx hb dX4_nextToken_95 (by decide) ?_
  exact wX4_nextToken_181 C hk hf hq H locs ls hw hS hl

noncomputable def bX4_nextToken_64 (r : Rec) (v1 : Int32) : Option (Int32 ⊕ Rec) :=
  if (gi r 1) ≤ v1 then out1 (bX4_nextToken_90 r v1) else gd (inR v1 600) ((fX4_isLetter (ga r 0 (Int32.toNatClampNeg v1))).bind fun z5 => if z5 = 0 then out1 (bX4_nextToken_90 r v1) else some (.inl (v1 + 1)))
set_option maxRecDepth 100000 in
set_option maxHeartbeats 4000000 in
theorem wX4_nextToken_64 {p : Program} {l : Launch} {e : Env} {s : State} {m : MethodId} {args : Array Value} {below : List Frame} {meth : Method} {c : Code} {Γ : Gm} {A : Nat → Prop} {G : Gs} {o : Nat} {r : Rec} {v1 : Int32} {q : (Int32 ⊕ Rec)} {fin : Rec} (C : Cx p s m args meth c yX4_nextToken cX4_nextToken 2 none Γ A) (hk : kd Γ o = some 4) (hf : bX4_nextToken_64 r v1 = some q) (hq : (KC (fun st : Int32 => Wk p l e { frames := 1, cells := 0, slots := 0, locals := 20 } s m args below meth c Γ A (ug G o fin) none 64 2 [(0, .ref (ad Γ o)), (1, .int st)] [] (ug G o r)) (fun x => x = fin)) q) : Wk p l e { frames := 1, cells := 0, slots := 0, locals := 20 } s m args below meth c Γ A (ug G o fin) none 64 2 [(0, .ref (ad Γ o)), (1, .int v1)] [] (ug G o r) := by
  intro H locs ls hw hS hl
  unfold bX4_nextToken_64 at hf
  obtain ⟨hx, hb, hml, hr, hown, htw, hlocks, hE⟩ := id C
  have hown : s.vm.findClass RX4 = some m.cls := hown
  refine lv_iload_n hx hb dX4_nextToken_64 rfl (lv_at hl 1 rfl) ?_
  refine lv_aload_n hx hb dX4_nextToken_65 rfl (lv_at hl 0 rfl) ?_
  refine va_get (ci := 4) (v := .int (gi r 1)) (C := RX4) (T := TX4) (N := 14) hx hb htw uwX4 hown hE.1 (wo_me hw hk) 0 rfl rfl 1 (by decide) (htw _ mw284) (fun _ h9 => h9) rfl dX4_nextToken_66 ?_
  refine lv_icmp_ge (tgt := 90) hx hb dX4_nextToken_69 (by decide) (fun c8 => ?_) (fun c8 => ?_)
  · have hf := ifp c8 hf
    obtain ⟨q3, hfq3, eq3⟩ := out1_some hf
    subst eq3
    have hf := hfq3
    have hq := hq.2 _ rfl
    exact wX4_nextToken_90 C hk hf hq H locs ls hw hS hl
  · have hf := ifn c8 hf
    refine lv_aload_n hx hb dX4_nextToken_72 rfl (lv_at hl 0 rfl) ?_
    refine va_get (ci := 4) (v := .ref (aa Γ o 0)) (C := RX4) (T := TX4) (N := 14) hx hb htw uwX4 hown hE.1 (wo_me hw hk) 0 rfl rfl 0 (by decide) (htw _ mw283) (fun _ h9 => h9) rfl dX4_nextToken_73 ?_
    refine lv_iload_n hx hb dX4_nextToken_76 rfl (lv_at hl 1 rfl) ?_
    obtain ⟨g4, hf⟩ := gd_some hf
    refine va_bald hx hb hE.1 (wo_me hw hk) 1 1 rfl rfl (inR_in g4) dX4_nextToken_77 ?_
    obtain ⟨z5, hz5, hf⟩ := bd hf
    refine cl_Ss (rest := []) (kX4_isLetter (l := l) (Γ := Γ) (A := A) (G := (ug G o r)) hz5) ⟨hx, hb, hml, hown, htw⟩ hE hw hS mw494 mw495 mw123 mw496 pdX4_isLetter ⟨Nat.le_of_ble_eq_true rfl, Nat.le_of_ble_eq_true rfl⟩ rfl rfl hl.1 (Nat.le_of_ble_eq_true rfl) dX4_nextToken_78 (fun H locs hw hS => ?_)
    refine lv_if_eq (tgt := 90) hx hb dX4_nextToken_81 (by decide) (fun c7 => ?_) (fun c7 => ?_)
    · have hf := ifp c7 hf
      obtain ⟨q6, hfq6, eq6⟩ := out1_some hf
      subst eq6
      have hf := hfq6
      have hq := hq.2 _ rfl
      exact wX4_nextToken_90 C hk hf hq H locs ls hw hS hl
    · have hf := ifn c7 hf
      refine lv_iinc (v := v1 + 1) (lv' := [(1, .int (v1 + 1)), (0, .ref (ad Γ o))]) hx hb dX4_nextToken_84 hl (k := 1) rfl (by rfl) (by decide) rfl (fun ls hl => ?_)
      refine lv_goto (tgt := 64) hx hb dX4_nextToken_87 (by decide) ?_
      obtain rfl := Option.some.inj hf
      exact hq.1 _ rfl H locs ls hw hS (lv_sub hl [1, 0] rfl)

set_option maxRecDepth 100000 in
set_option maxHeartbeats 4000000 in
theorem lwX4_nextToken_64 {p : Program} {l : Launch} {e : Env} {s : State} {m : MethodId} {args : Array Value} {below : List Frame} {meth : Method} {c : Code} {Γ : Gm} {A : Nat → Prop} {G : Gs} {o : Nat} {r : Rec} {v1 : Int32} {q : Rec} {fin : Rec} (C : Cx p s m args meth c yX4_nextToken cX4_nextToken 2 none Γ A) (hk : kd Γ o = some 4) (hf : iter (fun st : Int32 => bX4_nextToken_64 r st) v1 = some q) (hq : (fun x => x = fin) q) : Wk p l e { frames := 1, cells := 0, slots := 0, locals := 20 } s m args below meth c Γ A (ug G o fin) none 64 2 [(0, .ref (ad Γ o)), (1, .int v1)] [] (ug G o r) := by
  intro H locs ls hw hS hl
  refine iter_walk (P := (fun st : Int32 => Wk p l e { frames := 1, cells := 0, slots := 0, locals := 20 } s m args below meth c Γ A (ug G o fin) none 64 2 [(0, .ref (ad Γ o)), (1, .int st)] [] (ug G o r))) (K := (fun x => x = fin)) (fun st q hq1 h1 h2 => ?_) hf hq H locs ls hw hS hl
  exact wX4_nextToken_64 (v1 := st) C hk hq1 ⟨h1, h2⟩

noncomputable def bX4_nextToken_152 (r : Rec) (v1 : Int32) (s0 : Int32) : Option Rec :=
  (some (si r 2 s0)).bind fun r9 => bX4_nextToken_181 r9 v1
set_option maxRecDepth 100000 in
set_option maxHeartbeats 4000000 in
theorem wX4_nextToken_152 {p : Program} {l : Launch} {e : Env} {s : State} {m : MethodId} {args : Array Value} {below : List Frame} {meth : Method} {c : Code} {Γ : Gm} {A : Nat → Prop} {G : Gs} {o : Nat} {r : Rec} {v1 : Int32} {s0 : Int32} {q : Rec} {fin : Rec} (C : Cx p s m args meth c yX4_nextToken cX4_nextToken 2 none Γ A) (hk : kd Γ o = some 4) (hf : bX4_nextToken_152 r v1 s0 = some q) (hq : (fun x => x = fin) q) : Wk p l e { frames := 1, cells := 0, slots := 0, locals := 20 } s m args below meth c Γ A (ug G o fin) none 152 2 [(0, .ref (ad Γ o)), (1, .int v1)] [.int s0, .ref (ad Γ o)] (ug G o r) := by
  intro H locs ls hw hS hl
  unfold bX4_nextToken_152 at hf
  obtain ⟨hx, hb, hml, hr, hown, htw, hlocks, hE⟩ := id C
  have hown : s.vm.findClass RX4 = some m.cls := hown
  obtain ⟨r9, hr9, hf⟩ := bd hf
  have hr9 := Option.some.inj hr9
  refine wo_put (C := RX4) (T := TX4) (N := 14) (v := .int s0) (ty := .int) hx hb htw uwX4 tyX4 tyX4_ok nmX4 hown hE hw hS hk rfl rfl 2 (by decide) (htw _ mw285) (fun _ h9 => h9) rfl (tyX4_ok 2 (by decide)) rfl rfl (Nat.le_of_ble_eq_true rfl) (st4_2 hr9) dX4_nextToken_152 (fun H locs hw hS => ?_)
  refine lv_goto (tgt := 181) hx hb dX4_nextToken_155 (by decide) ?_
  exact wX4_nextToken_181 C hk hf hq H locs ls hw hS hl

noncomputable def bX4_nextToken_136 (r : Rec) (v1 : Int32) : Option Rec :=
  if 2 < (v1 - (gi r 3)) then bX4_nextToken_152 r v1 4 else bX4_nextToken_152 r v1 2
set_option maxRecDepth 100000 in
set_option maxHeartbeats 4000000 in
theorem wX4_nextToken_136 {p : Program} {l : Launch} {e : Env} {s : State} {m : MethodId} {args : Array Value} {below : List Frame} {meth : Method} {c : Code} {Γ : Gm} {A : Nat → Prop} {G : Gs} {o : Nat} {r : Rec} {v1 : Int32} {q : Rec} {fin : Rec} (C : Cx p s m args meth c yX4_nextToken cX4_nextToken 2 none Γ A) (hk : kd Γ o = some 4) (hf : bX4_nextToken_136 r v1 = some q) (hq : (fun x => x = fin) q) : Wk p l e { frames := 1, cells := 0, slots := 0, locals := 20 } s m args below meth c Γ A (ug G o fin) none 136 2 [(0, .ref (ad Γ o)), (1, .int v1)] [] (ug G o r) := by
  intro H locs ls hw hS hl
  unfold bX4_nextToken_136 at hf
  obtain ⟨hx, hb, hml, hr, hown, htw, hlocks, hE⟩ := id C
  have hown : s.vm.findClass RX4 = some m.cls := hown
  refine lv_aload_n hx hb dX4_nextToken_136 rfl (lv_at hl 0 rfl) ?_
  refine lv_iload_n hx hb dX4_nextToken_137 rfl (lv_at hl 1 rfl) ?_
  refine lv_aload_n hx hb dX4_nextToken_138 rfl (lv_at hl 0 rfl) ?_
  refine va_get (ci := 4) (v := .int (gi r 3)) (C := RX4) (T := TX4) (N := 14) hx hb htw uwX4 hown hE.1 (wo_me hw hk) 0 rfl rfl 3 (by decide) (htw _ mw286) (fun _ h9 => h9) rfl dX4_nextToken_139 ?_
  refine lv_isub hx hb dX4_nextToken_142 ?_
  refine lv_iconst (v := 2) hx hb dX4_nextToken_143 (by decide) ?_
  refine lv_icmp_gt (tgt := 151) hx hb dX4_nextToken_144 (by decide) (fun c10 => ?_) (fun c10 => ?_)
  · have hf := ifp c10 hf
    refine lv_iconst (v := 4) hx hb dX4_nextToken_151 (by decide) ?_
    exact wX4_nextToken_152 C hk hf hq H locs ls hw hS hl
  · have hf := ifn c10 hf
    refine lv_iconst (v := 2) hx hb dX4_nextToken_147 (by decide) ?_
    refine lv_goto (tgt := 152) hx hb dX4_nextToken_148 (by decide) ?_
    exact wX4_nextToken_152 C hk hf hq H locs ls hw hS hl

noncomputable def bX4_nextToken_110 (r : Rec) (v1 : Int32) : Option (Int32 ⊕ Rec) :=
  if (gi r 1) ≤ v1 then out1 (bX4_nextToken_136 r v1) else gd (inR v1 600) ((fX4_isDigit (ga r 0 (Int32.toNatClampNeg v1))).bind fun z13 => if z13 = 0 then out1 (bX4_nextToken_136 r v1) else some (.inl (v1 + 1)))
set_option maxRecDepth 100000 in
set_option maxHeartbeats 4000000 in
theorem wX4_nextToken_110 {p : Program} {l : Launch} {e : Env} {s : State} {m : MethodId} {args : Array Value} {below : List Frame} {meth : Method} {c : Code} {Γ : Gm} {A : Nat → Prop} {G : Gs} {o : Nat} {r : Rec} {v1 : Int32} {q : (Int32 ⊕ Rec)} {fin : Rec} (C : Cx p s m args meth c yX4_nextToken cX4_nextToken 2 none Γ A) (hk : kd Γ o = some 4) (hf : bX4_nextToken_110 r v1 = some q) (hq : (KC (fun st : Int32 => Wk p l e { frames := 1, cells := 0, slots := 0, locals := 20 } s m args below meth c Γ A (ug G o fin) none 110 2 [(0, .ref (ad Γ o)), (1, .int st)] [] (ug G o r)) (fun x => x = fin)) q) : Wk p l e { frames := 1, cells := 0, slots := 0, locals := 20 } s m args below meth c Γ A (ug G o fin) none 110 2 [(0, .ref (ad Γ o)), (1, .int v1)] [] (ug G o r) := by
  intro H locs ls hw hS hl
  unfold bX4_nextToken_110 at hf
  obtain ⟨hx, hb, hml, hr, hown, htw, hlocks, hE⟩ := id C
  have hown : s.vm.findClass RX4 = some m.cls := hown
  refine lv_iload_n hx hb dX4_nextToken_110 rfl (lv_at hl 1 rfl) ?_
  refine lv_aload_n hx hb dX4_nextToken_111 rfl (lv_at hl 0 rfl) ?_
  refine va_get (ci := 4) (v := .int (gi r 1)) (C := RX4) (T := TX4) (N := 14) hx hb htw uwX4 hown hE.1 (wo_me hw hk) 0 rfl rfl 1 (by decide) (htw _ mw284) (fun _ h9 => h9) rfl dX4_nextToken_112 ?_
  refine lv_icmp_ge (tgt := 136) hx hb dX4_nextToken_115 (by decide) (fun c16 => ?_) (fun c16 => ?_)
  · have hf := ifp c16 hf
    obtain ⟨q11, hfq11, eq11⟩ := out1_some hf
    subst eq11
    have hf := hfq11
    have hq := hq.2 _ rfl
    exact wX4_nextToken_136 C hk hf hq H locs ls hw hS hl
  · have hf := ifn c16 hf
    refine lv_aload_n hx hb dX4_nextToken_118 rfl (lv_at hl 0 rfl) ?_
    refine va_get (ci := 4) (v := .ref (aa Γ o 0)) (C := RX4) (T := TX4) (N := 14) hx hb htw uwX4 hown hE.1 (wo_me hw hk) 0 rfl rfl 0 (by decide) (htw _ mw283) (fun _ h9 => h9) rfl dX4_nextToken_119 ?_
    refine lv_iload_n hx hb dX4_nextToken_122 rfl (lv_at hl 1 rfl) ?_
    obtain ⟨g12, hf⟩ := gd_some hf
    refine va_bald hx hb hE.1 (wo_me hw hk) 1 1 rfl rfl (inR_in g12) dX4_nextToken_123 ?_
    obtain ⟨z13, hz13, hf⟩ := bd hf
    refine cl_Ss (rest := []) (kX4_isDigit (l := l) (Γ := Γ) (A := A) (G := (ug G o r)) hz13) ⟨hx, hb, hml, hown, htw⟩ hE hw hS mw497 mw498 mw123 mw499 pdX4_isDigit ⟨Nat.le_of_ble_eq_true rfl, Nat.le_of_ble_eq_true rfl⟩ rfl rfl hl.1 (Nat.le_of_ble_eq_true rfl) dX4_nextToken_124 (fun H locs hw hS => ?_)
    refine lv_if_eq (tgt := 136) hx hb dX4_nextToken_127 (by decide) (fun c15 => ?_) (fun c15 => ?_)
    · have hf := ifp c15 hf
      obtain ⟨q14, hfq14, eq14⟩ := out1_some hf
      subst eq14
      have hf := hfq14
      have hq := hq.2 _ rfl
      exact wX4_nextToken_136 C hk hf hq H locs ls hw hS hl
    · have hf := ifn c15 hf
      refine lv_iinc (v := v1 + 1) (lv' := [(1, .int (v1 + 1)), (0, .ref (ad Γ o))]) hx hb dX4_nextToken_130 hl (k := 1) rfl (by rfl) (by decide) rfl (fun ls hl => ?_)
      refine lv_goto (tgt := 110) hx hb dX4_nextToken_133 (by decide) ?_
      obtain rfl := Option.some.inj hf
      exact hq.1 _ rfl H locs ls hw hS (lv_sub hl [1, 0] rfl)

set_option maxRecDepth 100000 in
set_option maxHeartbeats 4000000 in
theorem lwX4_nextToken_110 {p : Program} {l : Launch} {e : Env} {s : State} {m : MethodId} {args : Array Value} {below : List Frame} {meth : Method} {c : Code} {Γ : Gm} {A : Nat → Prop} {G : Gs} {o : Nat} {r : Rec} {v1 : Int32} {q : Rec} {fin : Rec} (C : Cx p s m args meth c yX4_nextToken cX4_nextToken 2 none Γ A) (hk : kd Γ o = some 4) (hf : iter (fun st : Int32 => bX4_nextToken_110 r st) v1 = some q) (hq : (fun x => x = fin) q) : Wk p l e { frames := 1, cells := 0, slots := 0, locals := 20 } s m args below meth c Γ A (ug G o fin) none 110 2 [(0, .ref (ad Γ o)), (1, .int v1)] [] (ug G o r) := by
  intro H locs ls hw hS hl
  refine iter_walk (P := (fun st : Int32 => Wk p l e { frames := 1, cells := 0, slots := 0, locals := 20 } s m args below meth c Γ A (ug G o fin) none 110 2 [(0, .ref (ad Γ o)), (1, .int st)] [] (ug G o r))) (K := (fun x => x = fin)) (fun st q hq1 h1 h2 => ?_) hf hq H locs ls hw hS hl
  exact wX4_nextToken_110 (v1 := st) C hk hq1 ⟨h1, h2⟩

noncomputable def bX4_nextToken_175 (r : Rec) (v1 : Int32) (s0 : Int32) : Option Rec :=
  (some (si r 2 s0)).bind fun r17 => bX4_nextToken_181 r17 (v1 + 1)
set_option maxRecDepth 100000 in
set_option maxHeartbeats 4000000 in
theorem wX4_nextToken_175 {p : Program} {l : Launch} {e : Env} {s : State} {m : MethodId} {args : Array Value} {below : List Frame} {meth : Method} {c : Code} {Γ : Gm} {A : Nat → Prop} {G : Gs} {o : Nat} {r : Rec} {v1 : Int32} {s0 : Int32} {q : Rec} {fin : Rec} (C : Cx p s m args meth c yX4_nextToken cX4_nextToken 2 none Γ A) (hk : kd Γ o = some 4) (hf : bX4_nextToken_175 r v1 s0 = some q) (hq : (fun x => x = fin) q) : Wk p l e { frames := 1, cells := 0, slots := 0, locals := 20 } s m args below meth c Γ A (ug G o fin) none 175 2 [(0, .ref (ad Γ o)), (1, .int v1)] [.int s0, .ref (ad Γ o)] (ug G o r) := by
  intro H locs ls hw hS hl
  unfold bX4_nextToken_175 at hf
  obtain ⟨hx, hb, hml, hr, hown, htw, hlocks, hE⟩ := id C
  have hown : s.vm.findClass RX4 = some m.cls := hown
  obtain ⟨r17, hr17, hf⟩ := bd hf
  have hr17 := Option.some.inj hr17
  refine wo_put (C := RX4) (T := TX4) (N := 14) (v := .int s0) (ty := .int) hx hb htw uwX4 tyX4 tyX4_ok nmX4 hown hE hw hS hk rfl rfl 2 (by decide) (htw _ mw285) (fun _ h9 => h9) rfl (tyX4_ok 2 (by decide)) rfl rfl (Nat.le_of_ble_eq_true rfl) (st4_2 hr17) dX4_nextToken_175 (fun H locs hw hS => ?_)
  refine lv_iinc (v := v1 + 1) (lv' := [(1, .int (v1 + 1)), (0, .ref (ad Γ o))]) hx hb dX4_nextToken_178 hl (k := 1) rfl (by rfl) (by decide) rfl (fun ls hl => ?_)
  exact wX4_nextToken_181 C hk hf hq H locs ls hw hS (lv_sub hl [1, 0] rfl)

noncomputable def bX4_nextToken_31 (r : Rec) (v1 : Int32) : Option Rec :=
  (some (si r 3 v1)).bind fun r18 => if v1 < (gi r18 1) then gd (inR v1 600) ((fX4_isLetter (ga r18 0 (Int32.toNatClampNeg v1))).bind fun z20 => if z20 = 0 then gd (inR v1 600) ((fX4_isDigit (ga r18 0 (Int32.toNatClampNeg v1))).bind fun z22 => if z22 = 0 then gd (inR v1 600) (if (ga r18 0 (Int32.toNatClampNeg v1)) = 59 then bX4_nextToken_175 r18 v1 3 else bX4_nextToken_175 r18 v1 4) else iter (fun st : Int32 => bX4_nextToken_110 r18 st) v1) else iter (fun st : Int32 => bX4_nextToken_64 r18 st) v1) else (some (si r18 2 0)).bind fun r27 => bX4_nextToken_181 r27 v1
set_option maxRecDepth 100000 in
set_option maxHeartbeats 4000000 in
theorem wX4_nextToken_31 {p : Program} {l : Launch} {e : Env} {s : State} {m : MethodId} {args : Array Value} {below : List Frame} {meth : Method} {c : Code} {Γ : Gm} {A : Nat → Prop} {G : Gs} {o : Nat} {r : Rec} {v1 : Int32} {q : Rec} {fin : Rec} (C : Cx p s m args meth c yX4_nextToken cX4_nextToken 2 none Γ A) (hk : kd Γ o = some 4) (hf : bX4_nextToken_31 r v1 = some q) (hq : (fun x => x = fin) q) : Wk p l e { frames := 1, cells := 0, slots := 0, locals := 20 } s m args below meth c Γ A (ug G o fin) none 31 2 [(0, .ref (ad Γ o)), (1, .int v1)] [] (ug G o r) := by
  intro H locs ls hw hS hl
  unfold bX4_nextToken_31 at hf
  obtain ⟨hx, hb, hml, hr, hown, htw, hlocks, hE⟩ := id C
  have hown : s.vm.findClass RX4 = some m.cls := hown
  refine lv_aload_n hx hb dX4_nextToken_31 rfl (lv_at hl 0 rfl) ?_
  refine lv_iload_n hx hb dX4_nextToken_32 rfl (lv_at hl 1 rfl) ?_
  obtain ⟨r18, hr18, hf⟩ := bd hf
  have hr18 := Option.some.inj hr18
  refine wo_put (C := RX4) (T := TX4) (N := 14) (v := .int v1) (ty := .int) hx hb htw uwX4 tyX4 tyX4_ok nmX4 hown hE hw hS hk rfl rfl 3 (by decide) (htw _ mw286) (fun _ h9 => h9) rfl (tyX4_ok 3 (by decide)) rfl rfl (Nat.le_of_ble_eq_true rfl) (st4_3 hr18) dX4_nextToken_33 (fun H locs hw hS => ?_)
  refine lv_iload_n hx hb dX4_nextToken_36 rfl (lv_at hl 1 rfl) ?_
  refine lv_aload_n hx hb dX4_nextToken_37 rfl (lv_at hl 0 rfl) ?_
  refine va_get (ci := 4) (v := .int (gi r18 1)) (C := RX4) (T := TX4) (N := 14) hx hb htw uwX4 hown hE.1 (wo_me hw hk) 0 rfl rfl 1 (by decide) (htw _ mw284) (fun _ h9 => h9) rfl dX4_nextToken_38 ?_
  refine lv_icmp_lt (tgt := 52) hx hb dX4_nextToken_41 (by decide) (fun c28 => ?_) (fun c28 => ?_)
  · have hf := ifp c28 hf
    refine lv_aload_n hx hb dX4_nextToken_52 rfl (lv_at hl 0 rfl) ?_
    refine va_get (ci := 4) (v := .ref (aa Γ o 0)) (C := RX4) (T := TX4) (N := 14) hx hb htw uwX4 hown hE.1 (wo_me hw hk) 0 rfl rfl 0 (by decide) (htw _ mw283) (fun _ h9 => h9) rfl dX4_nextToken_53 ?_
    refine lv_iload_n hx hb dX4_nextToken_56 rfl (lv_at hl 1 rfl) ?_
    obtain ⟨g19, hf⟩ := gd_some hf
    refine va_bald hx hb hE.1 (wo_me hw hk) 1 1 rfl rfl (inR_in g19) dX4_nextToken_57 ?_
    obtain ⟨z20, hz20, hf⟩ := bd hf
    refine cl_Ss (rest := []) (kX4_isLetter (l := l) (Γ := Γ) (A := A) (G := (ug G o r18)) hz20) ⟨hx, hb, hml, hown, htw⟩ hE hw hS mw494 mw495 mw123 mw496 pdX4_isLetter ⟨Nat.le_of_ble_eq_true rfl, Nat.le_of_ble_eq_true rfl⟩ rfl rfl hl.1 (Nat.le_of_ble_eq_true rfl) dX4_nextToken_58 (fun H locs hw hS => ?_)
    refine lv_if_eq (tgt := 98) hx hb dX4_nextToken_61 (by decide) (fun c26 => ?_) (fun c26 => ?_)
    · have hf := ifp c26 hf
      refine lv_aload_n hx hb dX4_nextToken_98 rfl (lv_at hl 0 rfl) ?_
      refine va_get (ci := 4) (v := .ref (aa Γ o 0)) (C := RX4) (T := TX4) (N := 14) hx hb htw uwX4 hown hE.1 (wo_me hw hk) 0 rfl rfl 0 (by decide) (htw _ mw283) (fun _ h9 => h9) rfl dX4_nextToken_99 ?_
      refine lv_iload_n hx hb dX4_nextToken_102 rfl (lv_at hl 1 rfl) ?_
      obtain ⟨g21, hf⟩ := gd_some hf
      refine va_bald hx hb hE.1 (wo_me hw hk) 1 1 rfl rfl (inR_in g21) dX4_nextToken_103 ?_
      obtain ⟨z22, hz22, hf⟩ := bd hf
      refine cl_Ss (rest := []) (kX4_isDigit (l := l) (Γ := Γ) (A := A) (G := (ug G o r18)) hz22) ⟨hx, hb, hml, hown, htw⟩ hE hw hS mw497 mw498 mw123 mw499 pdX4_isDigit ⟨Nat.le_of_ble_eq_true rfl, Nat.le_of_ble_eq_true rfl⟩ rfl rfl hl.1 (Nat.le_of_ble_eq_true rfl) dX4_nextToken_104 (fun H locs hw hS => ?_)
      refine lv_if_eq (tgt := 158) hx hb dX4_nextToken_107 (by decide) (fun c25 => ?_) (fun c25 => ?_)
      · have hf := ifp c25 hf
        refine lv_aload_n hx hb dX4_nextToken_158 rfl (lv_at hl 0 rfl) ?_
        refine lv_aload_n hx hb dX4_nextToken_159 rfl (lv_at hl 0 rfl) ?_
        refine va_get (ci := 4) (v := .ref (aa Γ o 0)) (C := RX4) (T := TX4) (N := 14) hx hb htw uwX4 hown hE.1 (wo_me hw hk) 0 rfl rfl 0 (by decide) (htw _ mw283) (fun _ h9 => h9) rfl dX4_nextToken_160 ?_
        refine lv_iload_n hx hb dX4_nextToken_163 rfl (lv_at hl 1 rfl) ?_
        obtain ⟨g23, hf⟩ := gd_some hf
        refine va_bald hx hb hE.1 (wo_me hw hk) 1 1 rfl rfl (inR_in g23) dX4_nextToken_164 ?_
        refine lv_bipush (v := 59) hx hb dX4_nextToken_165 (by decide) ?_
        refine lv_icmp_ne (tgt := 174) hx hb dX4_nextToken_167 (by decide) (fun c24 => ?_) (fun c24 => ?_)
        · have hf := ifn c24 hf
          refine lv_iconst (v := 4) hx hb dX4_nextToken_174 (by decide) ?_
          exact wX4_nextToken_175 C hk hf hq H locs ls hw hS hl
        · have hf := ifp c24 hf
          refine lv_iconst (v := 3) hx hb dX4_nextToken_170 (by decide) ?_
          refine lv_goto (tgt := 175) hx hb dX4_nextToken_171 (by decide) ?_
          exact wX4_nextToken_175 C hk hf hq H locs ls hw hS hl
      · have hf := ifn c25 hf
        exact lwX4_nextToken_110 C hk hf hq H locs ls hw hS hl
    · have hf := ifn c26 hf
      exact lwX4_nextToken_64 C hk hf hq H locs ls hw hS hl
  · have hf := ifn c28 hf
    refine lv_aload_n hx hb dX4_nextToken_44 rfl (lv_at hl 0 rfl) ?_
    refine lv_iconst (v := 0) hx hb dX4_nextToken_45 (by decide) ?_
    obtain ⟨r27, hr27, hf⟩ := bd hf
    have hr27 := Option.some.inj hr27
    refine wo_put (C := RX4) (T := TX4) (N := 14) (v := .int 0) (ty := .int) hx hb htw uwX4 tyX4 tyX4_ok nmX4 hown hE hw hS hk rfl rfl 2 (by decide) (htw _ mw285) (fun _ h9 => h9) rfl (tyX4_ok 2 (by decide)) rfl rfl (Nat.le_of_ble_eq_true rfl) (st4_2 hr27) dX4_nextToken_46 (fun H locs hw hS => ?_)
    refine lv_goto (tgt := 181) hx hb dX4_nextToken_49 (by decide) ?_
    exact wX4_nextToken_181 C hk hf hq H locs ls hw hS hl

noncomputable def bX4_nextToken_5 (r : Rec) (v1 : Int32) : Option (Int32 ⊕ Rec) :=
  if (gi r 1) ≤ v1 then out1 (bX4_nextToken_31 r v1) else gd (inR v1 600) ((fX4_isBlank (ga r 0 (Int32.toNatClampNeg v1))).bind fun z31 => if z31 = 0 then out1 (bX4_nextToken_31 r v1) else some (.inl (v1 + 1)))
set_option maxRecDepth 100000 in
set_option maxHeartbeats 4000000 in
theorem wX4_nextToken_5 {p : Program} {l : Launch} {e : Env} {s : State} {m : MethodId} {args : Array Value} {below : List Frame} {meth : Method} {c : Code} {Γ : Gm} {A : Nat → Prop} {G : Gs} {o : Nat} {r : Rec} {v1 : Int32} {q : (Int32 ⊕ Rec)} {fin : Rec} (C : Cx p s m args meth c yX4_nextToken cX4_nextToken 2 none Γ A) (hk : kd Γ o = some 4) (hf : bX4_nextToken_5 r v1 = some q) (hq : (KC (fun st : Int32 => Wk p l e { frames := 1, cells := 0, slots := 0, locals := 20 } s m args below meth c Γ A (ug G o fin) none 5 2 [(0, .ref (ad Γ o)), (1, .int st)] [] (ug G o r)) (fun x => x = fin)) q) : Wk p l e { frames := 1, cells := 0, slots := 0, locals := 20 } s m args below meth c Γ A (ug G o fin) none 5 2 [(0, .ref (ad Γ o)), (1, .int v1)] [] (ug G o r) := by
  intro H locs ls hw hS hl
  unfold bX4_nextToken_5 at hf
  obtain ⟨hx, hb, hml, hr, hown, htw, hlocks, hE⟩ := id C
  have hown : s.vm.findClass RX4 = some m.cls := hown
  refine lv_iload_n hx hb dX4_nextToken_5 rfl (lv_at hl 1 rfl) ?_
  refine lv_aload_n hx hb dX4_nextToken_6 rfl (lv_at hl 0 rfl) ?_
  refine va_get (ci := 4) (v := .int (gi r 1)) (C := RX4) (T := TX4) (N := 14) hx hb htw uwX4 hown hE.1 (wo_me hw hk) 0 rfl rfl 1 (by decide) (htw _ mw284) (fun _ h9 => h9) rfl dX4_nextToken_7 ?_
  refine lv_icmp_ge (tgt := 31) hx hb dX4_nextToken_10 (by decide) (fun c34 => ?_) (fun c34 => ?_)
  · have hf := ifp c34 hf
    obtain ⟨q29, hfq29, eq29⟩ := out1_some hf
    subst eq29
    have hf := hfq29
    have hq := hq.2 _ rfl
    exact wX4_nextToken_31 C hk hf hq H locs ls hw hS hl
  · have hf := ifn c34 hf
    refine lv_aload_n hx hb dX4_nextToken_13 rfl (lv_at hl 0 rfl) ?_
    refine va_get (ci := 4) (v := .ref (aa Γ o 0)) (C := RX4) (T := TX4) (N := 14) hx hb htw uwX4 hown hE.1 (wo_me hw hk) 0 rfl rfl 0 (by decide) (htw _ mw283) (fun _ h9 => h9) rfl dX4_nextToken_14 ?_
    refine lv_iload_n hx hb dX4_nextToken_17 rfl (lv_at hl 1 rfl) ?_
    obtain ⟨g30, hf⟩ := gd_some hf
    refine va_bald hx hb hE.1 (wo_me hw hk) 1 1 rfl rfl (inR_in g30) dX4_nextToken_18 ?_
    obtain ⟨z31, hz31, hf⟩ := bd hf
    refine cl_Ss (rest := []) (kX4_isBlank (l := l) (Γ := Γ) (A := A) (G := (ug G o r)) hz31) ⟨hx, hb, hml, hown, htw⟩ hE hw hS mw491 mw492 mw123 mw493 pdX4_isBlank ⟨Nat.le_of_ble_eq_true rfl, Nat.le_of_ble_eq_true rfl⟩ rfl rfl hl.1 (Nat.le_of_ble_eq_true rfl) dX4_nextToken_19 (fun H locs hw hS => ?_)
    refine lv_if_eq (tgt := 31) hx hb dX4_nextToken_22 (by decide) (fun c33 => ?_) (fun c33 => ?_)
    · have hf := ifp c33 hf
      obtain ⟨q32, hfq32, eq32⟩ := out1_some hf
      subst eq32
      have hf := hfq32
      have hq := hq.2 _ rfl
      exact wX4_nextToken_31 C hk hf hq H locs ls hw hS hl
    · have hf := ifn c33 hf
      refine lv_iinc (v := v1 + 1) (lv' := [(1, .int (v1 + 1)), (0, .ref (ad Γ o))]) hx hb dX4_nextToken_25 hl (k := 1) rfl (by rfl) (by decide) rfl (fun ls hl => ?_)
      refine lv_goto (tgt := 5) hx hb dX4_nextToken_28 (by decide) ?_
      obtain rfl := Option.some.inj hf
      exact hq.1 _ rfl H locs ls hw hS (lv_sub hl [1, 0] rfl)

set_option maxRecDepth 100000 in
set_option maxHeartbeats 4000000 in
theorem lwX4_nextToken_5 {p : Program} {l : Launch} {e : Env} {s : State} {m : MethodId} {args : Array Value} {below : List Frame} {meth : Method} {c : Code} {Γ : Gm} {A : Nat → Prop} {G : Gs} {o : Nat} {r : Rec} {v1 : Int32} {q : Rec} {fin : Rec} (C : Cx p s m args meth c yX4_nextToken cX4_nextToken 2 none Γ A) (hk : kd Γ o = some 4) (hf : iter (fun st : Int32 => bX4_nextToken_5 r st) v1 = some q) (hq : (fun x => x = fin) q) : Wk p l e { frames := 1, cells := 0, slots := 0, locals := 20 } s m args below meth c Γ A (ug G o fin) none 5 2 [(0, .ref (ad Γ o)), (1, .int v1)] [] (ug G o r) := by
  intro H locs ls hw hS hl
  refine iter_walk (P := (fun st : Int32 => Wk p l e { frames := 1, cells := 0, slots := 0, locals := 20 } s m args below meth c Γ A (ug G o fin) none 5 2 [(0, .ref (ad Γ o)), (1, .int st)] [] (ug G o r))) (K := (fun x => x = fin)) (fun st q hq1 h1 h2 => ?_) hf hq H locs ls hw hS hl
  exact wX4_nextToken_5 (v1 := st) C hk hq1 ⟨h1, h2⟩

noncomputable def fX4_nextToken (r : Rec) : Option Rec :=
  iter (fun st : Int32 => bX4_nextToken_5 r st) (gi r 4)
set_option maxRecDepth 100000 in
set_option maxHeartbeats 4000000 in
theorem wX4_nextToken_e {p : Program} {l : Launch} {e : Env} {s : State} {m : MethodId} {args : Array Value} {below : List Frame} {meth : Method} {c : Code} {Γ : Gm} {A : Nat → Prop} {G : Gs} {o : Nat} {r : Rec} {q : Rec} {fin : Rec} (C : Cx p s m args meth c yX4_nextToken cX4_nextToken 2 none Γ A) (hk : kd Γ o = some 4) (hf : fX4_nextToken r = some q) (hq : (fun x => x = fin) q) : Wk p l e { frames := 1, cells := 0, slots := 0, locals := 20 } s m args below meth c Γ A (ug G o fin) none 0 2 [(0, .ref (ad Γ o))] [] (ug G o r) := by
  intro H locs ls hw hS hl
  unfold fX4_nextToken at hf
  obtain ⟨hx, hb, hml, hr, hown, htw, hlocks, hE⟩ := id C
  have hown : s.vm.findClass RX4 = some m.cls := hown
  refine lv_aload_n hx hb dX4_nextToken_0 rfl (lv_at hl 0 rfl) ?_
  refine va_get (ci := 4) (v := .int (gi r 4)) (C := RX4) (T := TX4) (N := 14) hx hb htw uwX4 hown hE.1 (wo_me hw hk) 0 rfl rfl 4 (by decide) (htw _ mw287) (fun _ h9 => h9) rfl dX4_nextToken_1 ?_
  refine lv_istore_n (lv' := [(1, .int (gi r 4)), (0, .ref (ad Γ o))]) hx hb dX4_nextToken_4 rfl hl (by decide) rfl (fun ls hl => ?_)
  exact lwX4_nextToken_5 C hk hf hq H locs ls hw hS (lv_sub hl [1, 0] rfl)

theorem kX4_nextToken {l : Launch} {Γ : Gm} {A : Nat → Prop} {G : Gs} {o : Nat} {r : Rec} {fin : Rec} (hk : kd Γ o = some 4) (hf : fX4_nextToken r = some fin) : Kt l yX4_nextToken cX4_nextToken 2 none 1 20 Γ A (ug G o r) (ug G o fin) [.ref (ad Γ o)] none :=
  kt_of (by decide) (Nat.le_of_ble_eq_true rfl) (fun p e s m args below meth c C => wX4_nextToken_e C hk hf rfl)
theorem kgX4_nextToken {l : Launch} {Γ : Gm} {A : Nat → Prop} {G : Gs} {o : Nat} {fin : Rec} (hk : kd Γ o = some 4) (hf : fX4_nextToken (G o) = some fin) : Kt l yX4_nextToken cX4_nextToken 2 none 1 20 Γ A G (ug G o fin) [.ref (ad Γ o)] none := by
  have h := kX4_nextToken (l := l) (A := A) (G := G) (r := G o) hk hf
  rw [ug_self] at h
  exact h
noncomputable def fX4_wordOf (v0 : Int32) : Option Nat :=
  if v0 = 0 then some (0) else if v0 = 1 then some (1) else if v0 = 2 then some (2) else if v0 = 3 then some (3) else if v0 = 4 then some (4) else if v0 = 5 then some (5) else if v0 = 6 then some (6) else if v0 = 7 then some (7) else if v0 = 8 then some (8) else if v0 = 9 then some (9) else if v0 = 10 then some (10) else if v0 = 11 then some (11) else some (12)
set_option maxRecDepth 100000 in
set_option maxHeartbeats 4000000 in
theorem wX4_wordOf_e {p : Program} {l : Launch} {e : Env} {s : State} {m : MethodId} {args : Array Value} {below : List Frame} {meth : Method} {c : Code} {Γ : Gm} {A : Nat → Prop} {G : Gs} {v0 : Int32} {q : Nat} {fin : Nat} (C : Cx p s m args meth c yX4_wordOf cX4_wordOf 1 (some (.object "java/lang/String")) Γ A) (hf : fX4_wordOf v0 = some q) (hq : (fun x => x = fin) q) : Wk p l e { frames := 0, cells := 0, slots := 0, locals := 0 } s m args below meth c Γ A G (some (.ref (kK Γ fin))) 0 1 [(0, .int v0)] [] G := by
  intro H locs ls hw hS hl
  unfold fX4_wordOf at hf
  obtain ⟨hx, hb, hml, hr, hown, htw, hlocks, hE⟩ := id C
  have hown : s.vm.findClass RX4 = some m.cls := hown
  refine lv_iload_n hx hb dX4_wordOf_0 rfl (lv_at hl 0 rfl) ?_
  by_cases c1 : v0 = 0
  · have hf := ifp c1 hf
    rw [c1]
    refine lv_tableIn (off := 63) (tgt := 64) hx hb dX4_wordOf_1 (by decide) (by decide) (by rfl) (by decide) ?_
    refine va_ldcS hx hb hown (hE.2.2.2.2.2.2.2.1 0 (by decide)) dX4_wordOf_64 ?_
    obtain rfl := Option.some.inj hf
    subst hq
    exact rt_a C hw hS dX4_wordOf_66
  have hf := ifn c1 hf
  by_cases c2 : v0 = 1
  · have hf := ifp c2 hf
    rw [c2]
    refine lv_tableIn (off := 66) (tgt := 67) hx hb dX4_wordOf_1 (by decide) (by decide) (by rfl) (by decide) ?_
    refine va_ldcS hx hb hown (hE.2.2.2.2.2.2.2.1 1 (by decide)) dX4_wordOf_67 ?_
    obtain rfl := Option.some.inj hf
    subst hq
    exact rt_a C hw hS dX4_wordOf_69
  have hf := ifn c2 hf
  by_cases c3 : v0 = 2
  · have hf := ifp c3 hf
    rw [c3]
    refine lv_tableIn (off := 69) (tgt := 70) hx hb dX4_wordOf_1 (by decide) (by decide) (by rfl) (by decide) ?_
    refine va_ldcS hx hb hown (hE.2.2.2.2.2.2.2.1 2 (by decide)) dX4_wordOf_70 ?_
    obtain rfl := Option.some.inj hf
    subst hq
    exact rt_a C hw hS dX4_wordOf_72
  have hf := ifn c3 hf
  by_cases c4 : v0 = 3
  · have hf := ifp c4 hf
    rw [c4]
    refine lv_tableIn (off := 72) (tgt := 73) hx hb dX4_wordOf_1 (by decide) (by decide) (by rfl) (by decide) ?_
    refine va_ldcS hx hb hown (hE.2.2.2.2.2.2.2.1 3 (by decide)) dX4_wordOf_73 ?_
    obtain rfl := Option.some.inj hf
    subst hq
    exact rt_a C hw hS dX4_wordOf_75
  have hf := ifn c4 hf
  by_cases c5 : v0 = 4
  · have hf := ifp c5 hf
    rw [c5]
    refine lv_tableIn (off := 75) (tgt := 76) hx hb dX4_wordOf_1 (by decide) (by decide) (by rfl) (by decide) ?_
    refine va_ldcS hx hb hown (hE.2.2.2.2.2.2.2.1 4 (by decide)) dX4_wordOf_76 ?_
    obtain rfl := Option.some.inj hf
    subst hq
    exact rt_a C hw hS dX4_wordOf_78
  have hf := ifn c5 hf
  by_cases c6 : v0 = 5
  · have hf := ifp c6 hf
    rw [c6]
    refine lv_tableIn (off := 78) (tgt := 79) hx hb dX4_wordOf_1 (by decide) (by decide) (by rfl) (by decide) ?_
    refine va_ldcS hx hb hown (hE.2.2.2.2.2.2.2.1 5 (by decide)) dX4_wordOf_79 ?_
    obtain rfl := Option.some.inj hf
    subst hq
    exact rt_a C hw hS dX4_wordOf_81
  have hf := ifn c6 hf
  by_cases c7 : v0 = 6
  · have hf := ifp c7 hf
    rw [c7]
    refine lv_tableIn (off := 81) (tgt := 82) hx hb dX4_wordOf_1 (by decide) (by decide) (by rfl) (by decide) ?_
    refine va_ldcS hx hb hown (hE.2.2.2.2.2.2.2.1 6 (by decide)) dX4_wordOf_82 ?_
    obtain rfl := Option.some.inj hf
    subst hq
    exact rt_a C hw hS dX4_wordOf_84
  have hf := ifn c7 hf
  by_cases c8 : v0 = 7
  · have hf := ifp c8 hf
    rw [c8]
    refine lv_tableIn (off := 84) (tgt := 85) hx hb dX4_wordOf_1 (by decide) (by decide) (by rfl) (by decide) ?_
    refine va_ldcS hx hb hown (hE.2.2.2.2.2.2.2.1 7 (by decide)) dX4_wordOf_85 ?_
    obtain rfl := Option.some.inj hf
    subst hq
    exact rt_a C hw hS dX4_wordOf_87
  have hf := ifn c8 hf
  by_cases c9 : v0 = 8
  · have hf := ifp c9 hf
    rw [c9]
    refine lv_tableIn (off := 87) (tgt := 88) hx hb dX4_wordOf_1 (by decide) (by decide) (by rfl) (by decide) ?_
    refine va_ldcS hx hb hown (hE.2.2.2.2.2.2.2.1 8 (by decide)) dX4_wordOf_88 ?_
    obtain rfl := Option.some.inj hf
    subst hq
    exact rt_a C hw hS dX4_wordOf_90
  have hf := ifn c9 hf
  by_cases c10 : v0 = 9
  · have hf := ifp c10 hf
    rw [c10]
    refine lv_tableIn (off := 90) (tgt := 91) hx hb dX4_wordOf_1 (by decide) (by decide) (by rfl) (by decide) ?_
    refine va_ldcS hx hb hown (hE.2.2.2.2.2.2.2.1 9 (by decide)) dX4_wordOf_91 ?_
    obtain rfl := Option.some.inj hf
    subst hq
    exact rt_a C hw hS dX4_wordOf_93
  have hf := ifn c10 hf
  by_cases c11 : v0 = 10
  · have hf := ifp c11 hf
    rw [c11]
    refine lv_tableIn (off := 93) (tgt := 94) hx hb dX4_wordOf_1 (by decide) (by decide) (by rfl) (by decide) ?_
    refine va_ldcS hx hb hown (hE.2.2.2.2.2.2.2.1 10 (by decide)) dX4_wordOf_94 ?_
    obtain rfl := Option.some.inj hf
    subst hq
    exact rt_a C hw hS dX4_wordOf_96
  have hf := ifn c11 hf
  by_cases c12 : v0 = 11
  · have hf := ifp c12 hf
    rw [c12]
    refine lv_tableIn (off := 96) (tgt := 97) hx hb dX4_wordOf_1 (by decide) (by decide) (by rfl) (by decide) ?_
    refine va_ldcS hx hb hown (hE.2.2.2.2.2.2.2.1 11 (by decide)) dX4_wordOf_97 ?_
    obtain rfl := Option.some.inj hf
    subst hq
    exact rt_a C hw hS dX4_wordOf_99
  have hf := ifn c12 hf
  refine lv_tableOut (tgt := 100) hx hb dX4_wordOf_1 (by have := And.intro (ts_ne (k := 0) (by decide) c1) (And.intro (ts_ne (k := 1) (by decide) c2) (And.intro (ts_ne (k := 2) (by decide) c3) (And.intro (ts_ne (k := 3) (by decide) c4) (And.intro (ts_ne (k := 4) (by decide) c5) (And.intro (ts_ne (k := 5) (by decide) c6) (And.intro (ts_ne (k := 6) (by decide) c7) (And.intro (ts_ne (k := 7) (by decide) c8) (And.intro (ts_ne (k := 8) (by decide) c9) (And.intro (ts_ne (k := 9) (by decide) c10) (And.intro (ts_ne (k := 10) (by decide) c11) (And.intro (ts_ne (k := 11) (by decide) c12) (True.intro)))))))))))); omega) (by decide) ?_
  refine va_ldcS hx hb hown (hE.2.2.2.2.2.2.2.1 12 (by decide)) dX4_wordOf_100 ?_
  obtain rfl := Option.some.inj hf
  subst hq
  exact rt_a C hw hS dX4_wordOf_102

theorem kX4_wordOf {l : Launch} {Γ : Gm} {A : Nat → Prop} {G : Gs} {v0 : Int32} {fin : Nat} (hf : fX4_wordOf v0 = some fin) : Kt l yX4_wordOf cX4_wordOf 1 (some (.object "java/lang/String")) 0 0 Γ A G G [.int v0] (some (.ref (kK Γ fin))) :=
  kt_of (by decide) (Nat.le_of_ble_eq_true rfl) (fun p e s m args below meth c C => wX4_wordOf_e C hf rfl)
noncomputable def fJ0_coder_7d493 (v0 : Nat) : Option Int32 :=
  some (0)
set_option maxRecDepth 100000 in
set_option maxHeartbeats 4000000 in
theorem wJ0_coder_7d493_e {p : Program} {l : Launch} {e : Env} {s : State} {m : MethodId} {args : Array Value} {below : List Frame} {meth : Method} {c : Code} {Γ : Gm} {A : Nat → Prop} {G : Gs} {v0 : Nat} {q : Int32} {fin : Int32} (C : Cx p s m args meth c yJ0_coder_7d493 cJ0_coder_7d493 1 (some .byte) Γ A) (hv0 : v0 < 17) (hf : fJ0_coder_7d493 v0 = some q) (hq : (fun x => x = fin) q) : Wk p l e { frames := 0, cells := 0, slots := 0, locals := 0 } s m args below meth c Γ A G (some (.int fin)) 0 1 [(0, .ref (kK Γ v0))] [] G := by
  intro H locs ls hw hS hl
  unfold fJ0_coder_7d493 at hf
  obtain ⟨hx, hb, hml, hr, hown, htw, hlocks, hE⟩ := id C
  have hown : s.vm.findClass RJ0 = some m.cls := hown
  refine va_gets (C := "java/lang/String") hx hb hE.2.2.2.2.2.1 hS hown (htw _ mw538) (fun _ h9 => h9) dJ0_coder_7d493_0 ?_
  refine lv_if_eq (tgt := 13) hx hb dJ0_coder_7d493_3 (by decide) (fun c1 => absurd c1 (by decide)) (fun c1 => ?_)
  refine lv_aload_n hx hb dJ0_coder_7d493_6 rfl (lv_at hl 0 rfl) ?_
  refine va_getX (N := 17) (o := "java/lang/String") (v := (fun _ => .int 0)) (ad := kK Γ) (i := v0) hx hb (fun i hi => (hE.2.2.2.2.2.2.1.1 i hi).2.1) hv0 hS hown (htw _ mw1895) (fun _ h9 => h9) dJ0_coder_7d493_7 ?_
  refine lv_goto (tgt := 14) hx hb dJ0_coder_7d493_10 (by decide) ?_
  obtain rfl := Option.some.inj hf
  subst hq
  exact rt_n C (by decide +kernel) hw hS dJ0_coder_7d493_14

theorem kJ0_coder_7d493 {l : Launch} {Γ : Gm} {A : Nat → Prop} {G : Gs} {v0 : Nat} {fin : Int32} (hv0 : v0 < 17) (hf : fJ0_coder_7d493 v0 = some fin) : Kt l yJ0_coder_7d493 cJ0_coder_7d493 1 (some .byte) 0 0 Γ A G G [.ref (kK Γ v0)] (some (.int fin)) :=
  kt_of (by decide) (Nat.le_of_ble_eq_true rfl) (fun p e s m args below meth c C => wJ0_coder_7d493_e C hv0 hf rfl)
noncomputable def fJ0_length_8abf5 (v0 : Nat) : Option Int32 :=
  some ((Int32.ofNat (tLen.getD v0 0)) >>> ((0 : Int32) &&& 31))
set_option maxRecDepth 100000 in
set_option maxHeartbeats 4000000 in
theorem wJ0_length_8abf5_e {p : Program} {l : Launch} {e : Env} {s : State} {m : MethodId} {args : Array Value} {below : List Frame} {meth : Method} {c : Code} {Γ : Gm} {A : Nat → Prop} {G : Gs} {v0 : Nat} {q : Int32} {fin : Int32} (C : Cx p s m args meth c yJ0_length_8abf5 cJ0_length_8abf5 1 (some .int) Γ A) (hv0 : v0 < 17) (hf : fJ0_length_8abf5 v0 = some q) (hq : (fun x => x = fin) q) : Wk p l e { frames := 1, cells := 0, slots := 0, locals := 20 } s m args below meth c Γ A G (some (.int fin)) 0 1 [(0, .ref (kK Γ v0))] [] G := by
  intro H locs ls hw hS hl
  unfold fJ0_length_8abf5 at hf
  obtain ⟨hx, hb, hml, hr, hown, htw, hlocks, hE⟩ := id C
  have hown : s.vm.findClass RJ0 = some m.cls := hown
  refine lv_aload_n hx hb dJ0_length_8abf5_0 rfl (lv_at hl 0 rfl) ?_
  refine va_getX (N := 17) (o := "java/lang/String") (v := (fun i => .ref (kV Γ i))) (ad := kK Γ) (i := v0) hx hb (fun i hi => (hE.2.2.2.2.2.2.1.1 i hi).2.2.1) hv0 hS hown (htw _ mw1894) (fun _ h9 => h9) dJ0_length_8abf5_1 ?_
  refine va_tlen (v := Int32.ofNat (tLen.getD v0 0)) hx hb (hE.2.2.2.2.2.2.1.1 _ hv0).2.2.2 hS rfl dJ0_length_8abf5_4 ?_
  refine lv_aload_n hx hb dJ0_length_8abf5_5 rfl (lv_at hl 0 rfl) ?_
  refine cl_T (rest := [.int (Int32.ofNat (tLen.getD v0 0))]) hv0 (kJ0_coder_7d493 (l := l) (Γ := Γ) (A := A) (G := G) hv0 (rfl : fJ0_coder_7d493 v0 = some 0)) ⟨hx, hb, hml, hown, htw⟩ hE hw hS mw534 mw535 mw536 mw131 mw537 pdJ0_coder_7d493 ⟨Nat.le_of_ble_eq_true rfl, Nat.le_of_ble_eq_true rfl⟩ rfl rfl hl.1 (Nat.le_of_ble_eq_true rfl) dJ0_length_8abf5_6 (fun H locs hw hS => ?_)
  refine lv_ishr hx hb dJ0_length_8abf5_9 ?_
  obtain rfl := Option.some.inj hf
  subst hq
  exact rt_i C hw hS dJ0_length_8abf5_10

theorem kJ0_length_8abf5 {l : Launch} {Γ : Gm} {A : Nat → Prop} {G : Gs} {v0 : Nat} {fin : Int32} (hv0 : v0 < 17) (hf : fJ0_length_8abf5 v0 = some fin) : Kt l yJ0_length_8abf5 cJ0_length_8abf5 1 (some .int) 1 20 Γ A G G [.ref (kK Γ v0)] (some (.int fin)) :=
  kt_of (by decide) (Nat.le_of_ble_eq_true rfl) (fun p e s m args below meth c C => wJ0_length_8abf5_e C hv0 hf rfl)
noncomputable def fJ0_isLatin1_aae02 (v0 : Nat) : Option Int32 :=
  some (1)
set_option maxRecDepth 100000 in
set_option maxHeartbeats 4000000 in
theorem wJ0_isLatin1_aae02_e {p : Program} {l : Launch} {e : Env} {s : State} {m : MethodId} {args : Array Value} {below : List Frame} {meth : Method} {c : Code} {Γ : Gm} {A : Nat → Prop} {G : Gs} {v0 : Nat} {q : Int32} {fin : Int32} (C : Cx p s m args meth c yJ0_isLatin1_aae02 cJ0_isLatin1_aae02 1 (some .boolean) Γ A) (hv0 : v0 < 17) (hf : fJ0_isLatin1_aae02 v0 = some q) (hq : (fun x => x = fin) q) : Wk p l e { frames := 0, cells := 0, slots := 0, locals := 0 } s m args below meth c Γ A G (some (.int fin)) 0 1 [(0, .ref (kK Γ v0))] [] G := by
  intro H locs ls hw hS hl
  unfold fJ0_isLatin1_aae02 at hf
  obtain ⟨hx, hb, hml, hr, hown, htw, hlocks, hE⟩ := id C
  have hown : s.vm.findClass RJ0 = some m.cls := hown
  refine va_gets (C := "java/lang/String") hx hb hE.2.2.2.2.2.1 hS hown (htw _ mw538) (fun _ h9 => h9) dJ0_isLatin1_aae02_0 ?_
  refine lv_if_eq (tgt := 17) hx hb dJ0_isLatin1_aae02_3 (by decide) (fun c1 => absurd c1 (by decide)) (fun c1 => ?_)
  refine lv_aload_n hx hb dJ0_isLatin1_aae02_6 rfl (lv_at hl 0 rfl) ?_
  refine va_getX (N := 17) (o := "java/lang/String") (v := (fun _ => .int 0)) (ad := kK Γ) (i := v0) hx hb (fun i hi => (hE.2.2.2.2.2.2.1.1 i hi).2.1) hv0 hS hown (htw _ mw1895) (fun _ h9 => h9) dJ0_isLatin1_aae02_7 ?_
  refine lv_if_ne (tgt := 17) hx hb dJ0_isLatin1_aae02_10 (by decide) (fun c2 => absurd c2 (by decide)) (fun c2 => ?_)
  refine lv_iconst (v := 1) hx hb dJ0_isLatin1_aae02_13 (by decide) ?_
  refine lv_goto (tgt := 18) hx hb dJ0_isLatin1_aae02_14 (by decide) ?_
  obtain rfl := Option.some.inj hf
  subst hq
  exact rt_z C (Or.inr rfl) hw hS dJ0_isLatin1_aae02_18

theorem kJ0_isLatin1_aae02 {l : Launch} {Γ : Gm} {A : Nat → Prop} {G : Gs} {v0 : Nat} {fin : Int32} (hv0 : v0 < 17) (hf : fJ0_isLatin1_aae02 v0 = some fin) : Kt l yJ0_isLatin1_aae02 cJ0_isLatin1_aae02 1 (some .boolean) 0 0 Γ A G G [.ref (kK Γ v0)] (some (.int fin)) :=
  kt_of (by decide) (Nat.le_of_ble_eq_true rfl) (fun p e s m args below meth c C => wJ0_isLatin1_aae02_e C hv0 hf rfl)
noncomputable def fJ1_charAt_3b067 (v0 : Nat) (v1 : Int32) : Option Int32 :=
  (fJ0_checkIndex_df160 v1 (Int32.ofNat (tLen.getD v0 0))).bind fun z1 => gd (inR v1 (tLen.getD v0 0)) (some (((((tByt.getD v0 []).getD (Int32.toNatClampNeg v1) 0) &&& 255 : Int32).toUInt32 % 65536).toInt32))
set_option maxRecDepth 100000 in
set_option maxHeartbeats 4000000 in
theorem wJ1_charAt_3b067_e {p : Program} {l : Launch} {e : Env} {s : State} {m : MethodId} {args : Array Value} {below : List Frame} {meth : Method} {c : Code} {Γ : Gm} {A : Nat → Prop} {G : Gs} {v0 : Nat} {v1 : Int32} {q : Int32} {fin : Int32} (C : Cx p s m args meth c yJ1_charAt_3b067 cJ1_charAt_3b067 2 (some .char) Γ A) (hv0 : v0 < 17) (hf : fJ1_charAt_3b067 v0 v1 = some q) (hq : (fun x => x = fin) q) : Wk p l e { frames := 2, cells := 0, slots := 0, locals := 43 } s m args below meth c Γ A G (some (.int fin)) 0 2 [(0, .ref (kV Γ v0)), (1, .int v1)] [] G := by
  intro H locs ls hw hS hl
  unfold fJ1_charAt_3b067 at hf
  obtain ⟨hx, hb, hml, hr, hown, htw, hlocks, hE⟩ := id C
  have hown : s.vm.findClass RJ1 = some m.cls := hown
  refine lv_iload_n hx hb dJ1_charAt_3b067_0 rfl (lv_at hl 1 rfl) ?_
  refine lv_aload_n hx hb dJ1_charAt_3b067_1 rfl (lv_at hl 0 rfl) ?_
  refine va_tlen (v := Int32.ofNat (tLen.getD v0 0)) hx hb (hE.2.2.2.2.2.2.1.1 _ hv0).2.2.2 hS rfl dJ1_charAt_3b067_2 ?_
  obtain ⟨z1, hz1, hf⟩ := bd hf
  refine cl_Sv (rest := []) (kJ0_checkIndex_df160 (l := l) (Γ := Γ) (A := A) (G := G) hz1) ⟨hx, hb, hml, hown, htw⟩ hE hw hS mw551 mw552 mw131 mw553 pdJ0_checkIndex_df160 ⟨Nat.le_of_ble_eq_true rfl, Nat.le_of_ble_eq_true rfl⟩ rfl rfl hl.1 (Nat.le_of_ble_eq_true rfl) dJ1_charAt_3b067_3 (fun H locs hw hS => ?_)
  refine lv_aload_n hx hb dJ1_charAt_3b067_6 rfl (lv_at hl 0 rfl) ?_
  refine lv_iload_n hx hb dJ1_charAt_3b067_7 rfl (lv_at hl 1 rfl) ?_
  obtain ⟨g2, hf⟩ := gd_some hf
  refine va_tb (v := .int ((tByt.getD v0 []).getD (Int32.toNatClampNeg v1) 0)) hx hb (hE.2.2.2.2.2.2.1.1 _ hv0).2.2.2 hS (inR_in g2) rfl dJ1_charAt_3b067_8 ?_
  refine lv_sipush (v := 255) hx hb dJ1_charAt_3b067_9 (by decide) ?_
  refine lv_iand hx hb dJ1_charAt_3b067_12 ?_
  refine lv_i2c (v := ((((tByt.getD v0 []).getD (Int32.toNatClampNeg v1) 0) &&& 255 : Int32).toUInt32 % 65536).toInt32) hx hb dJ1_charAt_3b067_13 rfl ?_
  obtain rfl := Option.some.inj hf
  subst hq
  exact rt_n C (pk_nc _) hw hS dJ1_charAt_3b067_14

theorem kJ1_charAt_3b067 {l : Launch} {Γ : Gm} {A : Nat → Prop} {G : Gs} {v0 : Nat} {v1 : Int32} {fin : Int32} (hv0 : v0 < 17) (hf : fJ1_charAt_3b067 v0 v1 = some fin) : Kt l yJ1_charAt_3b067 cJ1_charAt_3b067 2 (some .char) 2 43 Γ A G G [.ref (kV Γ v0), .int v1] (some (.int fin)) :=
  kt_of (by decide) (Nat.le_of_ble_eq_true rfl) (fun p e s m args below meth c C => wJ1_charAt_3b067_e C hv0 hf rfl)
noncomputable def fJ0_charAt_5068e (v0 : Nat) (v1 : Int32) : Option Int32 :=
  (fJ1_charAt_3b067 v0 v1).bind fun z2 => gd (isCh z2) (some (z2))
set_option maxRecDepth 100000 in
set_option maxHeartbeats 4000000 in
theorem wJ0_charAt_5068e_e {p : Program} {l : Launch} {e : Env} {s : State} {m : MethodId} {args : Array Value} {below : List Frame} {meth : Method} {c : Code} {Γ : Gm} {A : Nat → Prop} {G : Gs} {v0 : Nat} {v1 : Int32} {q : Int32} {fin : Int32} (C : Cx p s m args meth c yJ0_charAt_5068e cJ0_charAt_5068e 2 (some .char) Γ A) (hv0 : v0 < 17) (hf : fJ0_charAt_5068e v0 v1 = some q) (hq : (fun x => x = fin) q) : Wk p l e { frames := 3, cells := 0, slots := 0, locals := 64 } s m args below meth c Γ A G (some (.int fin)) 0 2 [(0, .ref (kK Γ v0)), (1, .int v1)] [] G := by
  intro H locs ls hw hS hl
  unfold fJ0_charAt_5068e at hf
  obtain ⟨hx, hb, hml, hr, hown, htw, hlocks, hE⟩ := id C
  have hown : s.vm.findClass RJ0 = some m.cls := hown
  refine lv_aload_n hx hb dJ0_charAt_5068e_0 rfl (lv_at hl 0 rfl) ?_
  refine cl_T (rest := []) hv0 (kJ0_isLatin1_aae02 (l := l) (Γ := Γ) (A := A) (G := G) hv0 (rfl : fJ0_isLatin1_aae02 v0 = some 1)) ⟨hx, hb, hml, hown, htw⟩ hE hw hS mw544 mw545 mw546 mw131 mw547 pdJ0_isLatin1_aae02 ⟨Nat.le_of_ble_eq_true rfl, Nat.le_of_ble_eq_true rfl⟩ rfl rfl hl.1 (Nat.le_of_ble_eq_true rfl) dJ0_charAt_5068e_1 (fun H locs hw hS => ?_)
  refine lv_if_eq (tgt := 16) hx hb dJ0_charAt_5068e_4 (by decide) (fun c1 => absurd c1 (by decide)) (fun c1 => ?_)
  refine lv_aload_n hx hb dJ0_charAt_5068e_7 rfl (lv_at hl 0 rfl) ?_
  refine va_getX (N := 17) (o := "java/lang/String") (v := (fun i => .ref (kV Γ i))) (ad := kK Γ) (i := v0) hx hb (fun i hi => (hE.2.2.2.2.2.2.1.1 i hi).2.2.1) hv0 hS hown (htw _ mw1894) (fun _ h9 => h9) dJ0_charAt_5068e_8 ?_
  refine lv_iload_n hx hb dJ0_charAt_5068e_11 rfl (lv_at hl 1 rfl) ?_
  obtain ⟨z2, hz2, hf⟩ := bd hf
  refine cl_Ss (rest := []) (kJ1_charAt_3b067 (l := l) (Γ := Γ) (A := A) (G := G) hv0 hz2) ⟨hx, hb, hml, hown, htw⟩ hE hw hS mw548 mw549 mw132 mw550 pdJ1_charAt_3b067 ⟨Nat.le_of_ble_eq_true rfl, Nat.le_of_ble_eq_true rfl⟩ rfl rfl hl.1 (Nat.le_of_ble_eq_true rfl) dJ0_charAt_5068e_12 (fun H locs hw hS => ?_)
  obtain ⟨g3, hf⟩ := gd_some hf
  obtain rfl := Option.some.inj hf
  subst hq
  exact rt_n C (isCh_n g3) hw hS dJ0_charAt_5068e_15

theorem kJ0_charAt_5068e {l : Launch} {Γ : Gm} {A : Nat → Prop} {G : Gs} {v0 : Nat} {v1 : Int32} {fin : Int32} (hv0 : v0 < 17) (hf : fJ0_charAt_5068e v0 v1 = some fin) : Kt l yJ0_charAt_5068e cJ0_charAt_5068e 2 (some .char) 3 64 Γ A G G [.ref (kK Γ v0), .int v1] (some (.int fin)) :=
  kt_of (by decide) (Nat.le_of_ble_eq_true rfl) (fun p e s m args below meth c C => wJ0_charAt_5068e_e C hv0 hf rfl)
