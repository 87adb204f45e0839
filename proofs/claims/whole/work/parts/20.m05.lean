noncomputable def bX10_round_45 (r : Rec) (v1 : Int32) (v2 : Int32) (v4 : Int32) (s0 : Int32) (s1 : Int32) : Option ((Int32 × Int32) ⊕ Int32) :=
  some (.inl (s1 ||| s0, v4 + 1))
set_option maxRecDepth 100000 in
set_option maxHeartbeats 4000000 in
theorem wX10_round_45 {p : Program} {l : Launch} {e : Env} {s : State} {m : MethodId} {args : Array Value} {below : List Frame} {meth : Method} {c : Code} {Γ : Gm} {A : Nat → Prop} {G : Gs} {o : Nat} {r : Rec} {v1 : Int32} {v2 : Int32} {v4 : Int32} {s0 : Int32} {s1 : Int32} {q : ((Int32 × Int32) ⊕ Int32)} {fin : Int32} (C : Cx p s m args meth c yX10_round cX10_round 5 (some .int) Γ A) (hk : kd Γ o = some 10) (hf : bX10_round_45 r v1 v2 v4 s0 s1 = some q) (hq : (KC (fun st : Int32 × Int32 => Wk p l e { frames := 3, cells := 0, slots := 0, locals := 65 } s m args below meth c Γ A (ug G o r) (some (.int fin)) 5 5 [(0, .ref (ad Γ o)), (1, .int v1), (2, .int v2), (3, .int st.1), (4, .int st.2)] [] (ug G o r)) (fun x => x = fin)) q) : Wk p l e { frames := 3, cells := 0, slots := 0, locals := 65 } s m args below meth c Γ A (ug G o r) (some (.int fin)) 45 5 [(0, .ref (ad Γ o)), (1, .int v1), (2, .int v2), (4, .int v4)] [.int s0, .int s1] (ug G o r) := by
  intro H locs ls hw hS hl
  unfold bX10_round_45 at hf
  obtain ⟨hx, hb, hml, hr, hown, htw, hlocks, hE⟩ := id C
  have hown : s.vm.findClass RX10 = some m.cls := hown
  refine lv_ior hx hb dX10_round_45 ?_
  refine lv_istore_n (lv' := [(3, .int (s1 ||| s0)), (0, .ref (ad Γ o)), (1, .int v1), (2, .int v2), (4, .int v4)]) hx hb dX10_round_46 rfl hl (by decide) rfl (fun ls hl => ?_)
  refine lv_iinc (v := v4 + 1) (lv' := [(4, .int (v4 + 1)), (3, .int (s1 ||| s0)), (0, .ref (ad Γ o)), (1, .int v1), (2, .int v2)]) hx hb dX10_round_47 hl (k := 4) rfl (by rfl) (by decide) rfl (fun ls hl => ?_)
  refine lv_goto (tgt := 5) hx hb dX10_round_50 (by decide) ?_
  obtain rfl := Option.some.inj hf
  exact hq.1 _ rfl H locs ls hw hS (lv_sub hl [2, 3, 4, 1, 0] rfl)

noncomputable def bX10_round_44 (r : Rec) (v1 : Int32) (v2 : Int32) (v4 : Int32) (s0 : Int32) : Option ((Int32 × Int32) ⊕ Int32) :=
  bX10_round_45 r v1 v2 v4 0 s0
set_option maxRecDepth 100000 in
set_option maxHeartbeats 4000000 in
theorem wX10_round_44 {p : Program} {l : Launch} {e : Env} {s : State} {m : MethodId} {args : Array Value} {below : List Frame} {meth : Method} {c : Code} {Γ : Gm} {A : Nat → Prop} {G : Gs} {o : Nat} {r : Rec} {v1 : Int32} {v2 : Int32} {v4 : Int32} {s0 : Int32} {q : ((Int32 × Int32) ⊕ Int32)} {fin : Int32} (C : Cx p s m args meth c yX10_round cX10_round 5 (some .int) Γ A) (hk : kd Γ o = some 10) (hf : bX10_round_44 r v1 v2 v4 s0 = some q) (hq : (KC (fun st : Int32 × Int32 => Wk p l e { frames := 3, cells := 0, slots := 0, locals := 65 } s m args below meth c Γ A (ug G o r) (some (.int fin)) 5 5 [(0, .ref (ad Γ o)), (1, .int v1), (2, .int v2), (3, .int st.1), (4, .int st.2)] [] (ug G o r)) (fun x => x = fin)) q) : Wk p l e { frames := 3, cells := 0, slots := 0, locals := 65 } s m args below meth c Γ A (ug G o r) (some (.int fin)) 44 5 [(0, .ref (ad Γ o)), (1, .int v1), (2, .int v2), (4, .int v4)] [.int s0] (ug G o r) := by
  intro H locs ls hw hS hl
  unfold bX10_round_44 at hf
  obtain ⟨hx, hb, hml, hr, hown, htw, hlocks, hE⟩ := id C
  have hown : s.vm.findClass RX10 = some m.cls := hown
  refine lv_iconst (v := 0) hx hb dX10_round_44 (by decide) ?_
  exact wX10_round_45 C hk hf hq H locs ls hw hS hl

noncomputable def bX10_round_5 (r : Rec) (v1 : Int32) (v2 : Int32) (v3 : Int32) (v4 : Int32) : Option ((Int32 × Int32) ⊕ Int32) :=
  (fX10_of r 2).bind fun z1 => if z1 ≤ v4 then some (.inr (v3)) else if v4 = v2 then bX10_round_44 r v1 v2 v4 v3 else (fX10_makes r v4 v1).bind fun z2 => if z2 = 0 then bX10_round_44 r v1 v2 v4 v3 else (fX10_linkOf r v4 2).bind fun z3 => bX10_round_45 r v1 v2 v4 ((1 : Int32) <<< (z3 &&& 31)) v3
set_option maxRecDepth 100000 in
set_option maxHeartbeats 4000000 in
theorem wX10_round_5 {p : Program} {l : Launch} {e : Env} {s : State} {m : MethodId} {args : Array Value} {below : List Frame} {meth : Method} {c : Code} {Γ : Gm} {A : Nat → Prop} {G : Gs} {o : Nat} {r : Rec} {v1 : Int32} {v2 : Int32} {v3 : Int32} {v4 : Int32} {q : ((Int32 × Int32) ⊕ Int32)} {fin : Int32} (C : Cx p s m args meth c yX10_round cX10_round 5 (some .int) Γ A) (hk : kd Γ o = some 10) (hf : bX10_round_5 r v1 v2 v3 v4 = some q) (hq : (KC (fun st : Int32 × Int32 => Wk p l e { frames := 3, cells := 0, slots := 0, locals := 65 } s m args below meth c Γ A (ug G o r) (some (.int fin)) 5 5 [(0, .ref (ad Γ o)), (1, .int v1), (2, .int v2), (3, .int st.1), (4, .int st.2)] [] (ug G o r)) (fun x => x = fin)) q) : Wk p l e { frames := 3, cells := 0, slots := 0, locals := 65 } s m args below meth c Γ A (ug G o r) (some (.int fin)) 5 5 [(0, .ref (ad Γ o)), (1, .int v1), (2, .int v2), (3, .int v3), (4, .int v4)] [] (ug G o r) := by
  intro H locs ls hw hS hl
  unfold bX10_round_5 at hf
  obtain ⟨hx, hb, hml, hr, hown, htw, hlocks, hE⟩ := id C
  have hown : s.vm.findClass RX10 = some m.cls := hown
  refine lv_iload hx hb dX10_round_5 (lv_at hl 4 rfl) ?_
  refine lv_aload_n hx hb dX10_round_7 rfl (lv_at hl 0 rfl) ?_
  refine lv_iconst (v := 2) hx hb dX10_round_8 (by decide) ?_
  obtain ⟨z1, hz1, hf⟩ := bd hf
  refine cl_Vs (rest := [.int v4]) (kX10_of (l := l) (Γ := Γ) (A := A) (G := G) (o := o) hk hz1) ⟨hx, hb, hml, hown, htw⟩ hE hw hS (wo_me hw hk) (q0 := 0) rfl rfl mw1541 mw1543 mw66 mw129 mw1544 pdX10_of ⟨Nat.le_of_ble_eq_true rfl, Nat.le_of_ble_eq_true rfl⟩ rfl rfl hl.1 (Nat.le_of_ble_eq_true rfl) dX10_round_9 (fun H locs hw hS => ?_)
  refine lv_icmp_ge (tgt := 53) hx hb dX10_round_12 (by decide) (fun c6 => ?_) (fun c6 => ?_)
  · have hf := ifp c6 hf
    refine lv_iload_n hx hb dX10_round_53 rfl (lv_at hl 3 rfl) ?_
    obtain rfl := Option.some.inj hf
    have hq := hq.2 _ rfl
    subst hq
    exact rt_i C hw hS dX10_round_54
  · have hf := ifn c6 hf
    refine lv_iload_n hx hb dX10_round_15 rfl (lv_at hl 3 rfl) ?_
    refine lv_iload hx hb dX10_round_16 (lv_at hl 4 rfl) ?_
    refine lv_iload_n hx hb dX10_round_18 rfl (lv_at hl 2 rfl) ?_
    refine lv_icmp_eq (tgt := 44) hx hb dX10_round_19 (by decide) (fun c5 => ?_) (fun c5 => ?_)
    · have hf := ifp c5 hf
      exact wX10_round_44 C hk hf hq H locs ls hw hS (lv_sub hl [0, 1, 2, 4] rfl)
    · have hf := ifn c5 hf
      refine lv_aload_n hx hb dX10_round_22 rfl (lv_at hl 0 rfl) ?_
      refine lv_iload hx hb dX10_round_23 (lv_at hl 4 rfl) ?_
      refine lv_iload_n hx hb dX10_round_25 rfl (lv_at hl 1 rfl) ?_
      obtain ⟨z2, hz2, hf⟩ := bd hf
      refine cl_Vs (rest := [.int v3]) (kX10_makes (l := l) (Γ := Γ) (A := A) (G := G) (o := o) hk hz2) ⟨hx, hb, hml, hown, htw⟩ hE hw hS (wo_me hw hk) (q0 := 0) rfl rfl mw1704 mw1706 mw98 mw129 mw1707 pdX10_makes ⟨Nat.le_of_ble_eq_true rfl, Nat.le_of_ble_eq_true rfl⟩ rfl rfl hl.1 (Nat.le_of_ble_eq_true rfl) dX10_round_26 (fun H locs hw hS => ?_)
      refine lv_if_eq (tgt := 44) hx hb dX10_round_29 (by decide) (fun c4 => ?_) (fun c4 => ?_)
      · have hf := ifp c4 hf
        exact wX10_round_44 C hk hf hq H locs ls hw hS (lv_sub hl [0, 1, 2, 4] rfl)
      · have hf := ifn c4 hf
        refine lv_iconst (v := 1) hx hb dX10_round_32 (by decide) ?_
        refine lv_aload_n hx hb dX10_round_33 rfl (lv_at hl 0 rfl) ?_
        refine lv_iload hx hb dX10_round_34 (lv_at hl 4 rfl) ?_
        refine lv_iconst (v := 2) hx hb dX10_round_36 (by decide) ?_
        obtain ⟨z3, hz3, hf⟩ := bd hf
        refine cl_Vs (rest := [.int 1, .int v3]) (kX10_linkOf (l := l) (Γ := Γ) (A := A) (G := G) (o := o) hk hz3) ⟨hx, hb, hml, hown, htw⟩ hE hw hS (wo_me hw hk) (q0 := 0) rfl rfl mw1708 mw1710 mw99 mw129 mw1711 pdX10_linkOf ⟨Nat.le_of_ble_eq_true rfl, Nat.le_of_ble_eq_true rfl⟩ rfl rfl hl.1 (Nat.le_of_ble_eq_true rfl) dX10_round_37 (fun H locs hw hS => ?_)
        refine lv_ishl hx hb dX10_round_40 ?_
        refine lv_goto (tgt := 45) hx hb dX10_round_41 (by decide) ?_
        exact wX10_round_45 C hk hf hq H locs ls hw hS (lv_sub hl [0, 1, 2, 4] rfl)

set_option maxRecDepth 100000 in
set_option maxHeartbeats 4000000 in
theorem lwX10_round_5 {p : Program} {l : Launch} {e : Env} {s : State} {m : MethodId} {args : Array Value} {below : List Frame} {meth : Method} {c : Code} {Γ : Gm} {A : Nat → Prop} {G : Gs} {o : Nat} {r : Rec} {v1 : Int32} {v2 : Int32} {v3 : Int32} {v4 : Int32} {q : Int32} {fin : Int32} (C : Cx p s m args meth c yX10_round cX10_round 5 (some .int) Γ A) (hk : kd Γ o = some 10) (hf : iter (fun st : Int32 × Int32 => bX10_round_5 r v1 v2 st.1 st.2) (v3, v4) = some q) (hq : (fun x => x = fin) q) : Wk p l e { frames := 3, cells := 0, slots := 0, locals := 65 } s m args below meth c Γ A (ug G o r) (some (.int fin)) 5 5 [(0, .ref (ad Γ o)), (1, .int v1), (2, .int v2), (3, .int v3), (4, .int v4)] [] (ug G o r) := by
  intro H locs ls hw hS hl
  refine iter_walk (P := (fun st : Int32 × Int32 => Wk p l e { frames := 3, cells := 0, slots := 0, locals := 65 } s m args below meth c Γ A (ug G o r) (some (.int fin)) 5 5 [(0, .ref (ad Γ o)), (1, .int v1), (2, .int v2), (3, .int st.1), (4, .int st.2)] [] (ug G o r))) (K := (fun x => x = fin)) (fun st q hq1 h1 h2 => ?_) hf hq H locs ls hw hS hl
  exact wX10_round_5 (v3 := st.1) (v4 := st.2) C hk hq1 ⟨h1, h2⟩

noncomputable def fX10_round (r : Rec) (v1 : Int32) (v2 : Int32) : Option Int32 :=
  iter (fun st : Int32 × Int32 => bX10_round_5 r v1 v2 st.1 st.2) (v1, 0)
set_option maxRecDepth 100000 in
set_option maxHeartbeats 4000000 in
theorem wX10_round_e {p : Program} {l : Launch} {e : Env} {s : State} {m : MethodId} {args : Array Value} {below : List Frame} {meth : Method} {c : Code} {Γ : Gm} {A : Nat → Prop} {G : Gs} {o : Nat} {r : Rec} {v1 : Int32} {v2 : Int32} {q : Int32} {fin : Int32} (C : Cx p s m args meth c yX10_round cX10_round 5 (some .int) Γ A) (hk : kd Γ o = some 10) (hf : fX10_round r v1 v2 = some q) (hq : (fun x => x = fin) q) : Wk p l e { frames := 3, cells := 0, slots := 0, locals := 65 } s m args below meth c Γ A (ug G o r) (some (.int fin)) 0 5 [(0, .ref (ad Γ o)), (1, .int v1), (2, .int v2)] [] (ug G o r) := by
  intro H locs ls hw hS hl
  unfold fX10_round at hf
  obtain ⟨hx, hb, hml, hr, hown, htw, hlocks, hE⟩ := id C
  have hown : s.vm.findClass RX10 = some m.cls := hown
  refine lv_iload_n hx hb dX10_round_0 rfl (lv_at hl 1 rfl) ?_
  refine lv_istore_n (lv' := [(3, .int v1), (0, .ref (ad Γ o)), (1, .int v1), (2, .int v2)]) hx hb dX10_round_1 rfl hl (by decide) rfl (fun ls hl => ?_)
  refine lv_iconst (v := 0) hx hb dX10_round_2 (by decide) ?_
  refine lv_istore (lv' := [(4, .int 0), (3, .int v1), (0, .ref (ad Γ o)), (1, .int v1), (2, .int v2)]) hx hb dX10_round_3 hl (by decide) rfl (fun ls hl => ?_)
  exact lwX10_round_5 C hk hf hq H locs ls hw hS (lv_sub hl [2, 3, 4, 1, 0] rfl)

theorem kX10_round {l : Launch} {Γ : Gm} {A : Nat → Prop} {G : Gs} {o : Nat} {r : Rec} {v1 : Int32} {v2 : Int32} {fin : Int32} (hk : kd Γ o = some 10) (hf : fX10_round r v1 v2 = some fin) : Kt l yX10_round cX10_round 5 (some .int) 3 65 Γ A (ug G o r) (ug G o r) [.ref (ad Γ o), .int v1, .int v2] (some (.int fin)) :=
  kt_of (by decide) (Nat.le_of_ble_eq_true rfl) (fun p e s m args below meth c C => wX10_round_e C hk hf rfl)
theorem kgX10_round {l : Launch} {Γ : Gm} {A : Nat → Prop} {G : Gs} {o : Nat} {v1 : Int32} {v2 : Int32} {fin : Int32} (hk : kd Γ o = some 10) (hf : fX10_round (G o) v1 v2 = some fin) : Kt l yX10_round cX10_round 5 (some .int) 3 65 Γ A G G [.ref (ad Γ o), .int v1, .int v2] (some (.int fin)) := by
  have h := kX10_round (l := l) (A := A) (G := G) (r := G o) hk hf
  rw [ug_self] at h
  exact h
noncomputable def bX10_comesOf_5 (r : Rec) (v2 : Int32) (v3 : Int32) (v4 : Int32) : Option ((Int32 × Int32) ⊕ Int32) :=
  if v4 = v3 then some (.inr (v4)) else (fX10_round r v4 v2).bind fun z1 => some (.inl (v4, z1))
set_option maxRecDepth 100000 in
set_option maxHeartbeats 4000000 in
theorem wX10_comesOf_5 {p : Program} {l : Launch} {e : Env} {s : State} {m : MethodId} {args : Array Value} {below : List Frame} {meth : Method} {c : Code} {Γ : Gm} {A : Nat → Prop} {G : Gs} {o : Nat} {r : Rec} {v2 : Int32} {v3 : Int32} {v4 : Int32} {q : ((Int32 × Int32) ⊕ Int32)} {fin : Int32} (C : Cx p s m args meth c yX10_comesOf cX10_comesOf 5 (some .int) Γ A) (hk : kd Γ o = some 10) (hf : bX10_comesOf_5 r v2 v3 v4 = some q) (hq : (KC (fun st : Int32 × Int32 => Wk p l e { frames := 4, cells := 0, slots := 0, locals := 89 } s m args below meth c Γ A (ug G o r) (some (.int fin)) 5 5 [(0, .ref (ad Γ o)), (2, .int v2), (3, .int st.1), (4, .int st.2)] [] (ug G o r)) (fun x => x = fin)) q) : Wk p l e { frames := 4, cells := 0, slots := 0, locals := 89 } s m args below meth c Γ A (ug G o r) (some (.int fin)) 5 5 [(0, .ref (ad Γ o)), (2, .int v2), (3, .int v3), (4, .int v4)] [] (ug G o r) := by
  intro H locs ls hw hS hl
  unfold bX10_comesOf_5 at hf
  obtain ⟨hx, hb, hml, hr, hown, htw, hlocks, hE⟩ := id C
  have hown : s.vm.findClass RX10 = some m.cls := hown
  refine lv_iload hx hb dX10_comesOf_5 (lv_at hl 3 rfl) ?_
  refine lv_iload_n hx hb dX10_comesOf_7 rfl (lv_at hl 2 rfl) ?_
  refine lv_icmp_eq (tgt := 25) hx hb dX10_comesOf_8 (by decide) (fun c2 => ?_) (fun c2 => ?_)
  · have hf := ifp c2 hf
    refine lv_iload hx hb dX10_comesOf_25 (lv_at hl 3 rfl) ?_
    obtain rfl := Option.some.inj hf
    have hq := hq.2 _ rfl
    subst hq
    exact rt_i C hw hS dX10_comesOf_27
  · have hf := ifn c2 hf
    refine lv_iload hx hb dX10_comesOf_11 (lv_at hl 3 rfl) ?_
    refine lv_istore_n (lv' := [(3, .int v4), (0, .ref (ad Γ o)), (2, .int v2), (4, .int v4)]) hx hb dX10_comesOf_13 rfl hl (by decide) rfl (fun ls hl => ?_)
    refine lv_aload_n hx hb dX10_comesOf_14 rfl (lv_at hl 1 rfl) ?_
    refine lv_iload_n hx hb dX10_comesOf_15 rfl (lv_at hl 0 rfl) ?_
    refine lv_iload_n hx hb dX10_comesOf_16 rfl (lv_at hl 2 rfl) ?_
    obtain ⟨z1, hz1, hf⟩ := bd hf
    refine cl_Vs (rest := []) (kX10_round (l := l) (Γ := Γ) (A := A) (G := G) (o := o) hk hz1) ⟨hx, hb, hml, hown, htw⟩ hE hw hS (wo_me hw hk) (q0 := 0) rfl rfl mw1700 mw1702 mw97 mw129 mw1703 pdX10_round ⟨Nat.le_of_ble_eq_true rfl, Nat.le_of_ble_eq_true rfl⟩ rfl rfl hl.1 (Nat.le_of_ble_eq_true rfl) dX10_comesOf_17 (fun H locs hw hS => ?_)
    refine lv_istore (lv' := [(4, .int z1), (3, .int v4), (0, .ref (ad Γ o)), (2, .int v2)]) hx hb dX10_comesOf_20 hl (by decide) rfl (fun ls hl => ?_)
    refine lv_goto (tgt := 5) hx hb dX10_comesOf_22 (by decide) ?_
    obtain rfl := Option.some.inj hf
    exact hq.1 _ rfl H locs ls hw hS (lv_sub hl [2, 3, 1, 0] rfl)

set_option maxRecDepth 100000 in
set_option maxHeartbeats 4000000 in
theorem lwX10_comesOf_5 {p : Program} {l : Launch} {e : Env} {s : State} {m : MethodId} {args : Array Value} {below : List Frame} {meth : Method} {c : Code} {Γ : Gm} {A : Nat → Prop} {G : Gs} {o : Nat} {r : Rec} {v2 : Int32} {v3 : Int32} {v4 : Int32} {q : Int32} {fin : Int32} (C : Cx p s m args meth c yX10_comesOf cX10_comesOf 5 (some .int) Γ A) (hk : kd Γ o = some 10) (hf : iter (fun st : Int32 × Int32 => bX10_comesOf_5 r v2 st.1 st.2) (v3, v4) = some q) (hq : (fun x => x = fin) q) : Wk p l e { frames := 4, cells := 0, slots := 0, locals := 89 } s m args below meth c Γ A (ug G o r) (some (.int fin)) 5 5 [(0, .ref (ad Γ o)), (2, .int v2), (3, .int v3), (4, .int v4)] [] (ug G o r) := by
  intro H locs ls hw hS hl
  refine iter_walk (P := (fun st : Int32 × Int32 => Wk p l e { frames := 4, cells := 0, slots := 0, locals := 89 } s m args below meth c Γ A (ug G o r) (some (.int fin)) 5 5 [(0, .ref (ad Γ o)), (2, .int v2), (3, .int st.1), (4, .int st.2)] [] (ug G o r))) (K := (fun x => x = fin)) (fun st q hq1 h1 h2 => ?_) hf hq H locs ls hw hS hl
  exact wX10_comesOf_5 (v3 := st.1) (v4 := st.2) C hk hq1 ⟨h1, h2⟩

noncomputable def fX10_comesOf (r : Rec) (v1 : Int32) (v2 : Int32) : Option Int32 :=
  iter (fun st : Int32 × Int32 => bX10_comesOf_5 r v2 st.1 st.2) ((-1), v1)
set_option maxRecDepth 100000 in
set_option maxHeartbeats 4000000 in
theorem wX10_comesOf_e {p : Program} {l : Launch} {e : Env} {s : State} {m : MethodId} {args : Array Value} {below : List Frame} {meth : Method} {c : Code} {Γ : Gm} {A : Nat → Prop} {G : Gs} {o : Nat} {r : Rec} {v1 : Int32} {v2 : Int32} {q : Int32} {fin : Int32} (C : Cx p s m args meth c yX10_comesOf cX10_comesOf 5 (some .int) Γ A) (hk : kd Γ o = some 10) (hf : fX10_comesOf r v1 v2 = some q) (hq : (fun x => x = fin) q) : Wk p l e { frames := 4, cells := 0, slots := 0, locals := 89 } s m args below meth c Γ A (ug G o r) (some (.int fin)) 0 5 [(0, .ref (ad Γ o)), (1, .int v1), (2, .int v2)] [] (ug G o r) := by
  intro H locs ls hw hS hl
  unfold fX10_comesOf at hf
  obtain ⟨hx, hb, hml, hr, hown, htw, hlocks, hE⟩ := id C
  have hown : s.vm.findClass RX10 = some m.cls := hown
  refine lv_iconst (v := (-1)) hx hb dX10_comesOf_0 (by decide) ?_
  refine lv_istore_n (lv' := [(3, .int (-1)), (0, .ref (ad Γ o)), (1, .int v1), (2, .int v2)]) hx hb dX10_comesOf_1 rfl hl (by decide) rfl (fun ls hl => ?_)
  refine lv_iload_n hx hb dX10_comesOf_2 rfl (lv_at hl 2 rfl) ?_
  refine lv_istore (lv' := [(4, .int v1), (3, .int (-1)), (0, .ref (ad Γ o)), (1, .int v1), (2, .int v2)]) hx hb dX10_comesOf_3 hl (by decide) rfl (fun ls hl => ?_)
  exact lwX10_comesOf_5 C hk hf hq H locs ls hw hS (lv_sub hl [2, 4, 1, 0] rfl)

theorem kX10_comesOf {l : Launch} {Γ : Gm} {A : Nat → Prop} {G : Gs} {o : Nat} {r : Rec} {v1 : Int32} {v2 : Int32} {fin : Int32} (hk : kd Γ o = some 10) (hf : fX10_comesOf r v1 v2 = some fin) : Kt l yX10_comesOf cX10_comesOf 5 (some .int) 4 89 Γ A (ug G o r) (ug G o r) [.ref (ad Γ o), .int v1, .int v2] (some (.int fin)) :=
  kt_of (by decide) (Nat.le_of_ble_eq_true rfl) (fun p e s m args below meth c C => wX10_comesOf_e C hk hf rfl)
theorem kgX10_comesOf {l : Launch} {Γ : Gm} {A : Nat → Prop} {G : Gs} {o : Nat} {v1 : Int32} {v2 : Int32} {fin : Int32} (hk : kd Γ o = some 10) (hf : fX10_comesOf (G o) v1 v2 = some fin) : Kt l yX10_comesOf cX10_comesOf 5 (some .int) 4 89 Γ A G G [.ref (ad Γ o), .int v1, .int v2] (some (.int fin)) := by
  have h := kX10_comesOf (l := l) (A := A) (G := G) (r := G o) hk hf
  rw [ug_self] at h
  exact h
noncomputable def fX10_everything (r : Rec) : Option Int32 :=
  some (((1 : Int32) <<< ((gi r 27) &&& 31)) - 1)
set_option maxRecDepth 100000 in
set_option maxHeartbeats 4000000 in
theorem wX10_everything_e {p : Program} {l : Launch} {e : Env} {s : State} {m : MethodId} {args : Array Value} {below : List Frame} {meth : Method} {c : Code} {Γ : Gm} {A : Nat → Prop} {G : Gs} {o : Nat} {r : Rec} {q : Int32} {fin : Int32} (C : Cx p s m args meth c yX10_everything cX10_everything 1 (some .int) Γ A) (hk : kd Γ o = some 10) (hf : fX10_everything r = some q) (hq : (fun x => x = fin) q) : Wk p l e { frames := 0, cells := 0, slots := 0, locals := 0 } s m args below meth c Γ A (ug G o r) (some (.int fin)) 0 1 [(0, .ref (ad Γ o))] [] (ug G o r) := by
  intro H locs ls hw hS hl
  unfold fX10_everything at hf
  obtain ⟨hx, hb, hml, hr, hown, htw, hlocks, hE⟩ := id C
  have hown : s.vm.findClass RX10 = some m.cls := hown
  refine lv_iconst (v := 1) hx hb dX10_everything_0 (by decide) ?_
  refine lv_aload_n hx hb dX10_everything_1 rfl (lv_at hl 0 rfl) ?_
  refine va_get (ci := 10) (v := .int (gi r 27)) (C := RX10) (T := TX10) (N := 49) hx hb htw uwX10 hown hE.1 (wo_me hw hk) 0 rfl rfl 27 (by decide) (htw _ mw1270) (fun _ h9 => h9) rfl dX10_everything_2 ?_
  refine lv_ishl hx hb dX10_everything_5 ?_
  refine lv_iconst (v := 1) hx hb dX10_everything_6 (by decide) ?_
  refine lv_isub hx hb dX10_everything_7 ?_
  obtain rfl := Option.some.inj hf
  subst hq
  exact rt_i C hw hS dX10_everything_8

theorem kX10_everything {l : Launch} {Γ : Gm} {A : Nat → Prop} {G : Gs} {o : Nat} {r : Rec} {fin : Int32} (hk : kd Γ o = some 10) (hf : fX10_everything r = some fin) : Kt l yX10_everything cX10_everything 1 (some .int) 0 0 Γ A (ug G o r) (ug G o r) [.ref (ad Γ o)] (some (.int fin)) :=
  kt_of (by decide) (Nat.le_of_ble_eq_true rfl) (fun p e s m args below meth c C => wX10_everything_e C hk hf rfl)
theorem kgX10_everything {l : Launch} {Γ : Gm} {A : Nat → Prop} {G : Gs} {o : Nat} {fin : Int32} (hk : kd Γ o = some 10) (hf : fX10_everything (G o) = some fin) : Kt l yX10_everything cX10_everything 1 (some .int) 0 0 Γ A G G [.ref (ad Γ o)] (some (.int fin)) := by
  have h := kX10_everything (l := l) (A := A) (G := G) (r := G o) hk hf
  rw [ug_self] at h
  exact h
noncomputable def bX10_weightOf_33 (r : Rec) (v1 : Int32) (v3 : Int32) (s0 : Int32) (s1 : Int32) : Option ((Int32 × Int32) ⊕ Int32) :=
  some (.inl (s1 + s0, v3 + 1))
set_option maxRecDepth 100000 in
set_option maxHeartbeats 4000000 in
theorem wX10_weightOf_33 {p : Program} {l : Launch} {e : Env} {s : State} {m : MethodId} {args : Array Value} {below : List Frame} {meth : Method} {c : Code} {Γ : Gm} {A : Nat → Prop} {G : Gs} {o : Nat} {r : Rec} {v1 : Int32} {v3 : Int32} {s0 : Int32} {s1 : Int32} {q : ((Int32 × Int32) ⊕ Int32)} {fin : Int32} (C : Cx p s m args meth c yX10_weightOf cX10_weightOf 4 (some .int) Γ A) (hk : kd Γ o = some 10) (hf : bX10_weightOf_33 r v1 v3 s0 s1 = some q) (hq : (KC (fun st : Int32 × Int32 => Wk p l e { frames := 1, cells := 0, slots := 0, locals := 21 } s m args below meth c Γ A (ug G o r) (some (.int fin)) 4 4 [(0, .ref (ad Γ o)), (1, .int v1), (2, .int st.1), (3, .int st.2)] [] (ug G o r)) (fun x => x = fin)) q) : Wk p l e { frames := 1, cells := 0, slots := 0, locals := 21 } s m args below meth c Γ A (ug G o r) (some (.int fin)) 33 4 [(0, .ref (ad Γ o)), (1, .int v1), (3, .int v3)] [.int s0, .int s1] (ug G o r) := by
  intro H locs ls hw hS hl
  unfold bX10_weightOf_33 at hf
  obtain ⟨hx, hb, hml, hr, hown, htw, hlocks, hE⟩ := id C
  have hown : s.vm.findClass RX10 = some m.cls := hown
  refine lv_iadd hx hb dX10_weightOf_33 ?_
  refine lv_istore_n (lv' := [(2, .int (s1 + s0)), (0, .ref (ad Γ o)), (1, .int v1), (3, .int v3)]) hx hb dX10_weightOf_34 rfl hl (by decide) rfl (fun ls hl => ?_)
  refine lv_iinc (v := v3 + 1) (lv' := [(3, .int (v3 + 1)), (2, .int (s1 + s0)), (0, .ref (ad Γ o)), (1, .int v1)]) hx hb dX10_weightOf_35 hl (k := 3) rfl (by rfl) (by decide) rfl (fun ls hl => ?_)
  refine lv_goto (tgt := 4) hx hb dX10_weightOf_38 (by decide) ?_
  obtain rfl := Option.some.inj hf
  exact hq.1 _ rfl H locs ls hw hS (lv_sub hl [2, 3, 1, 0] rfl)

noncomputable def bX10_weightOf_4 (r : Rec) (v1 : Int32) (v2 : Int32) (v3 : Int32) : Option ((Int32 × Int32) ⊕ Int32) :=
  if (gi r 27) ≤ v3 then some (.inr (v2)) else (fX10_has v1 v3).bind fun z1 => if z1 = 0 then bX10_weightOf_33 r v1 v3 0 v2 else (fX10_of r (37 + v3)).bind fun z2 => bX10_weightOf_33 r v1 v3 z2 v2
set_option maxRecDepth 100000 in
set_option maxHeartbeats 4000000 in
theorem wX10_weightOf_4 {p : Program} {l : Launch} {e : Env} {s : State} {m : MethodId} {args : Array Value} {below : List Frame} {meth : Method} {c : Code} {Γ : Gm} {A : Nat → Prop} {G : Gs} {o : Nat} {r : Rec} {v1 : Int32} {v2 : Int32} {v3 : Int32} {q : ((Int32 × Int32) ⊕ Int32)} {fin : Int32} (C : Cx p s m args meth c yX10_weightOf cX10_weightOf 4 (some .int) Γ A) (hk : kd Γ o = some 10) (hf : bX10_weightOf_4 r v1 v2 v3 = some q) (hq : (KC (fun st : Int32 × Int32 => Wk p l e { frames := 1, cells := 0, slots := 0, locals := 21 } s m args below meth c Γ A (ug G o r) (some (.int fin)) 4 4 [(0, .ref (ad Γ o)), (1, .int v1), (2, .int st.1), (3, .int st.2)] [] (ug G o r)) (fun x => x = fin)) q) : Wk p l e { frames := 1, cells := 0, slots := 0, locals := 21 } s m args below meth c Γ A (ug G o r) (some (.int fin)) 4 4 [(0, .ref (ad Γ o)), (1, .int v1), (2, .int v2), (3, .int v3)] [] (ug G o r) := by
  intro H locs ls hw hS hl
  unfold bX10_weightOf_4 at hf
  obtain ⟨hx, hb, hml, hr, hown, htw, hlocks, hE⟩ := id C
  have hown : s.vm.findClass RX10 = some m.cls := hown
  refine lv_iload_n hx hb dX10_weightOf_4 rfl (lv_at hl 3 rfl) ?_
  refine lv_aload_n hx hb dX10_weightOf_5 rfl (lv_at hl 0 rfl) ?_
  refine va_get (ci := 10) (v := .int (gi r 27)) (C := RX10) (T := TX10) (N := 49) hx hb htw uwX10 hown hE.1 (wo_me hw hk) 0 rfl rfl 27 (by decide) (htw _ mw1270) (fun _ h9 => h9) rfl dX10_weightOf_6 ?_
  refine lv_icmp_ge (tgt := 41) hx hb dX10_weightOf_9 (by decide) (fun c4 => ?_) (fun c4 => ?_)
  · have hf := ifp c4 hf
    refine lv_iload_n hx hb dX10_weightOf_41 rfl (lv_at hl 2 rfl) ?_
    obtain rfl := Option.some.inj hf
    have hq := hq.2 _ rfl
    subst hq
    exact rt_i C hw hS dX10_weightOf_42
  · have hf := ifn c4 hf
    refine lv_iload_n hx hb dX10_weightOf_12 rfl (lv_at hl 2 rfl) ?_
    refine lv_iload_n hx hb dX10_weightOf_13 rfl (lv_at hl 1 rfl) ?_
    refine lv_iload_n hx hb dX10_weightOf_14 rfl (lv_at hl 3 rfl) ?_
    obtain ⟨z1, hz1, hf⟩ := bd hf
    refine cl_Ss (rest := [.int v2]) (kX10_has (l := l) (Γ := Γ) (A := A) (G := (ug G o r)) hz1) ⟨hx, hb, hml, hown, htw⟩ hE hw hS mw1561 mw1562 mw129 mw1563 pdX10_has ⟨Nat.le_of_ble_eq_true rfl, Nat.le_of_ble_eq_true rfl⟩ rfl rfl hl.1 (Nat.le_of_ble_eq_true rfl) dX10_weightOf_15 (fun H locs hw hS => ?_)
    refine lv_if_eq (tgt := 32) hx hb dX10_weightOf_18 (by decide) (fun c3 => ?_) (fun c3 => ?_)
    · have hf := ifp c3 hf
      refine lv_iconst (v := 0) hx hb dX10_weightOf_32 (by decide) ?_
      exact wX10_weightOf_33 C hk hf hq H locs ls hw hS (lv_sub hl [0, 1, 3] rfl)
    · have hf := ifn c3 hf
      refine lv_aload_n hx hb dX10_weightOf_21 rfl (lv_at hl 0 rfl) ?_
      refine lv_bipush (v := 37) hx hb dX10_weightOf_22 (by decide) ?_
      refine lv_iload_n hx hb dX10_weightOf_24 rfl (lv_at hl 3 rfl) ?_
      refine lv_iadd hx hb dX10_weightOf_25 ?_
      obtain ⟨z2, hz2, hf⟩ := bd hf
      refine cl_Vs (rest := [.int v2]) (kX10_of (l := l) (Γ := Γ) (A := A) (G := G) (o := o) hk hz2) ⟨hx, hb, hml, hown, htw⟩ hE hw hS (wo_me hw hk) (q0 := 0) rfl rfl mw1541 mw1543 mw66 mw129 mw1544 pdX10_of ⟨Nat.le_of_ble_eq_true rfl, Nat.le_of_ble_eq_true rfl⟩ rfl rfl hl.1 (Nat.le_of_ble_eq_true rfl) dX10_weightOf_26 (fun H locs hw hS => ?_)
      refine lv_goto (tgt := 33) hx hb dX10_weightOf_29 (by decide) ?_
      exact wX10_weightOf_33 C hk hf hq H locs ls hw hS (lv_sub hl [0, 1, 3] rfl)

set_option maxRecDepth 100000 in
set_option maxHeartbeats 4000000 in
theorem lwX10_weightOf_4 {p : Program} {l : Launch} {e : Env} {s : State} {m : MethodId} {args : Array Value} {below : List Frame} {meth : Method} {c : Code} {Γ : Gm} {A : Nat → Prop} {G : Gs} {o : Nat} {r : Rec} {v1 : Int32} {v2 : Int32} {v3 : Int32} {q : Int32} {fin : Int32} (C : Cx p s m args meth c yX10_weightOf cX10_weightOf 4 (some .int) Γ A) (hk : kd Γ o = some 10) (hf : iter (fun st : Int32 × Int32 => bX10_weightOf_4 r v1 st.1 st.2) (v2, v3) = some q) (hq : (fun x => x = fin) q) : Wk p l e { frames := 1, cells := 0, slots := 0, locals := 21 } s m args below meth c Γ A (ug G o r) (some (.int fin)) 4 4 [(0, .ref (ad Γ o)), (1, .int v1), (2, .int v2), (3, .int v3)] [] (ug G o r) := by
  intro H locs ls hw hS hl
  refine iter_walk (P := (fun st : Int32 × Int32 => Wk p l e { frames := 1, cells := 0, slots := 0, locals := 21 } s m args below meth c Γ A (ug G o r) (some (.int fin)) 4 4 [(0, .ref (ad Γ o)), (1, .int v1), (2, .int st.1), (3, .int st.2)] [] (ug G o r))) (K := (fun x => x = fin)) (fun st q hq1 h1 h2 => ?_) hf hq H locs ls hw hS hl
  exact wX10_weightOf_4 (v2 := st.1) (v3 := st.2) C hk hq1 ⟨h1, h2⟩

noncomputable def fX10_weightOf (r : Rec) (v1 : Int32) : Option Int32 :=
  iter (fun st : Int32 × Int32 => bX10_weightOf_4 r v1 st.1 st.2) (0, 0)
set_option maxRecDepth 100000 in
set_option maxHeartbeats 4000000 in
theorem wX10_weightOf_e {p : Program} {l : Launch} {e : Env} {s : State} {m : MethodId} {args : Array Value} {below : List Frame} {meth : Method} {c : Code} {Γ : Gm} {A : Nat → Prop} {G : Gs} {o : Nat} {r : Rec} {v1 : Int32} {q : Int32} {fin : Int32} (C : Cx p s m args meth c yX10_weightOf cX10_weightOf 4 (some .int) Γ A) (hk : kd Γ o = some 10) (hf : fX10_weightOf r v1 = some q) (hq : (fun x => x = fin) q) : Wk p l e { frames := 1, cells := 0, slots := 0, locals := 21 } s m args below meth c Γ A (ug G o r) (some (.int fin)) 0 4 [(0, .ref (ad Γ o)), (1, .int v1)] [] (ug G o r) := by
  intro H locs ls hw hS hl
  unfold fX10_weightOf at hf
  obtain ⟨hx, hb, hml, hr, hown, htw, hlocks, hE⟩ := id C
  have hown : s.vm.findClass RX10 = some m.cls := hown
  refine lv_iconst (v := 0) hx hb dX10_weightOf_0 (by decide) ?_
  refine lv_istore_n (lv' := [(2, .int 0), (0, .ref (ad Γ o)), (1, .int v1)]) hx hb dX10_weightOf_1 rfl hl (by decide) rfl (fun ls hl => ?_)
  refine lv_iconst (v := 0) hx hb dX10_weightOf_2 (by decide) ?_
  refine lv_istore_n (lv' := [(3, .int 0), (2, .int 0), (0, .ref (ad Γ o)), (1, .int v1)]) hx hb dX10_weightOf_3 rfl hl (by decide) rfl (fun ls hl => ?_)
  exact lwX10_weightOf_4 C hk hf hq H locs ls hw hS (lv_sub hl [2, 3, 1, 0] rfl)

theorem kX10_weightOf {l : Launch} {Γ : Gm} {A : Nat → Prop} {G : Gs} {o : Nat} {r : Rec} {v1 : Int32} {fin : Int32} (hk : kd Γ o = some 10) (hf : fX10_weightOf r v1 = some fin) : Kt l yX10_weightOf cX10_weightOf 4 (some .int) 1 21 Γ A (ug G o r) (ug G o r) [.ref (ad Γ o), .int v1] (some (.int fin)) :=
  kt_of (by decide) (Nat.le_of_ble_eq_true rfl) (fun p e s m args below meth c C => wX10_weightOf_e C hk hf rfl)
theorem kgX10_weightOf {l : Launch} {Γ : Gm} {A : Nat → Prop} {G : Gs} {o : Nat} {v1 : Int32} {fin : Int32} (hk : kd Γ o = some 10) (hf : fX10_weightOf (G o) v1 = some fin) : Kt l yX10_weightOf cX10_weightOf 4 (some .int) 1 21 Γ A G G [.ref (ad Γ o), .int v1] (some (.int fin)) := by
  have h := kX10_weightOf (l := l) (A := A) (G := G) (r := G o) hk hf
  rw [ug_self] at h
  exact h
noncomputable def fX10_comes (r : Rec) (v1 : Int32) (v2 : Int32) : Option (Rec × Int32) :=
  (some (si r 0 0)).bind fun r1 => (fX10_hand r1 v1).bind fun z2 => if z2.2 = 0 then some ((z2.1, (-1))) else (fX10_everything z2.1).bind fun z3 => (fX10_in v2 0 z3).bind fun z4 => if z4 = 0 then some ((z2.1, (-1))) else (fX10_comesOf z2.1 v2 (-1)).bind fun z5 => some ((z2.1, z5))
set_option maxRecDepth 100000 in
set_option maxHeartbeats 4000000 in
theorem wX10_comes_e {p : Program} {l : Launch} {e : Env} {s : State} {m : MethodId} {args : Array Value} {below : List Frame} {meth : Method} {c : Code} {Γ : Gm} {A : Nat → Prop} {G : Gs} {o : Nat} {r : Rec} {v1 : Int32} {v2 : Int32} {q : (Rec × Int32)} {fin : Rec × Int32} (C : Cx p s m args meth c yX10_comes cX10_comes 3 (some .int) Γ A) (hk : kd Γ o = some 10) (hf : fX10_comes r v1 v2 = some q) (hq : (fun x => x = fin) q) : Wk p l e { frames := 5, cells := 0, slots := 0, locals := 113 } s m args below meth c Γ A (ug G o fin.1) (some (.int fin.2)) 0 3 [(0, .ref (ad Γ o)), (1, .int v1), (2, .int v2)] [] (ug G o r) := by
  intro H locs ls hw hS hl
  unfold fX10_comes at hf
  obtain ⟨hx, hb, hml, hr, hown, htw, hlocks, hE⟩ := id C
  have hown : s.vm.findClass RX10 = some m.cls := hown
  refine lv_aload_n hx hb dX10_comes_0 rfl (lv_at hl 0 rfl) ?_
  refine lv_iconst (v := 0) hx hb dX10_comes_1 (by decide) ?_
  obtain ⟨r1, hr1, hf⟩ := bd hf
  have hr1 := Option.some.inj hr1
  refine wo_put (C := RX10) (T := TX10) (N := 49) (v := .int 0) (ty := .int) hx hb htw uwX10 tyX10 tyX10_ok nmX10 hown hE hw hS hk rfl rfl 0 (by decide) (htw _ mw1243) (fun _ h9 => h9) rfl (tyX10_ok 0 (by decide)) rfl rfl (Nat.le_of_ble_eq_true rfl) (st10_0 hr1) dX10_comes_2 (fun H locs hw hS => ?_)
  refine lv_aload_n hx hb dX10_comes_5 rfl (lv_at hl 0 rfl) ?_
  refine lv_iload_n hx hb dX10_comes_6 rfl (lv_at hl 1 rfl) ?_
  obtain ⟨z2, hz2, hf⟩ := bd hf
  refine cl_Vs (rest := []) (kX10_hand (l := l) (Γ := Γ) (A := A) (G := G) (o := o) hk hz2) ⟨hx, hb, hml, hown, htw⟩ hE hw hS (wo_me hw hk) (q0 := 0) rfl rfl mw1537 mw1539 mw65 mw129 mw1540 pdX10_hand ⟨Nat.le_of_ble_eq_true rfl, Nat.le_of_ble_eq_true rfl⟩ rfl rfl hl.1 (Nat.le_of_ble_eq_true rfl) dX10_comes_7 (fun H locs hw hS => ?_)
  refine lv_if_eq (tgt := 34) hx hb dX10_comes_10 (by decide) (fun c7 => ?_) (fun c7 => ?_)
  · have hf := ifp c7 hf
    refine lv_iconst (v := (-1)) hx hb dX10_comes_34 (by decide) ?_
    obtain rfl := Option.some.inj hf
    subst hq
    exact rt_i C hw hS dX10_comes_35
  · have hf := ifn c7 hf
    refine lv_iload_n hx hb dX10_comes_13 rfl (lv_at hl 2 rfl) ?_
    refine lv_iconst (v := 0) hx hb dX10_comes_14 (by decide) ?_
    refine lv_aload_n hx hb dX10_comes_15 rfl (lv_at hl 0 rfl) ?_
    obtain ⟨z3, hz3, hf⟩ := bd hf
    refine cl_Vs (rest := [.int 0, .int v2]) (kX10_everything (l := l) (Γ := Γ) (A := A) (G := G) (o := o) hk hz3) ⟨hx, hb, hml, hown, htw⟩ hE hw hS (wo_me hw hk) (q0 := 0) rfl rfl mw1692 mw1694 mw95 mw129 mw1695 pdX10_everything ⟨Nat.le_of_ble_eq_true rfl, Nat.le_of_ble_eq_true rfl⟩ rfl rfl hl.1 (Nat.le_of_ble_eq_true rfl) dX10_comes_16 (fun H locs hw hS => ?_)
    obtain ⟨z4, hz4, hf⟩ := bd hf
    refine cl_Ss (rest := []) (kX10_in (l := l) (Γ := Γ) (A := A) (G := (ug G o z2.1)) hz4) ⟨hx, hb, hml, hown, htw⟩ hE hw hS mw1404 mw1405 mw129 mw1406 pdX10_in ⟨Nat.le_of_ble_eq_true rfl, Nat.le_of_ble_eq_true rfl⟩ rfl rfl hl.1 (Nat.le_of_ble_eq_true rfl) dX10_comes_19 (fun H locs hw hS => ?_)
    refine lv_if_eq (tgt := 34) hx hb dX10_comes_22 (by decide) (fun c6 => ?_) (fun c6 => ?_)
    · have hf := ifp c6 hf
      refine lv_iconst (v := (-1)) hx hb dX10_comes_34 (by decide) ?_
      obtain rfl := Option.some.inj hf
      subst hq
      exact rt_i C hw hS dX10_comes_35
    · have hf := ifn c6 hf
      refine lv_aload_n hx hb dX10_comes_25 rfl (lv_at hl 0 rfl) ?_
      refine lv_iload_n hx hb dX10_comes_26 rfl (lv_at hl 2 rfl) ?_
      refine lv_iconst (v := (-1)) hx hb dX10_comes_27 (by decide) ?_
      obtain ⟨z5, hz5, hf⟩ := bd hf
      refine cl_Vs (rest := []) (kX10_comesOf (l := l) (Γ := Γ) (A := A) (G := G) (o := o) hk hz5) ⟨hx, hb, hml, hown, htw⟩ hE hw hS (wo_me hw hk) (q0 := 0) rfl rfl mw1696 mw1698 mw96 mw129 mw1699 pdX10_comesOf ⟨Nat.le_of_ble_eq_true rfl, Nat.le_of_ble_eq_true rfl⟩ rfl rfl hl.1 (Nat.le_of_ble_eq_true rfl) dX10_comes_28 (fun H locs hw hS => ?_)
      refine lv_goto (tgt := 35) hx hb dX10_comes_31 (by decide) ?_
      obtain rfl := Option.some.inj hf
      subst hq
      exact rt_i C hw hS dX10_comes_35

theorem kX10_comes {l : Launch} {Γ : Gm} {A : Nat → Prop} {G : Gs} {o : Nat} {r : Rec} {v1 : Int32} {v2 : Int32} {fin : Rec × Int32} (hk : kd Γ o = some 10) (hf : fX10_comes r v1 v2 = some fin) : Kt l yX10_comes cX10_comes 3 (some .int) 5 113 Γ A (ug G o r) (ug G o fin.1) [.ref (ad Γ o), .int v1, .int v2] (some (.int fin.2)) :=
  kt_of (by decide) (Nat.le_of_ble_eq_true rfl) (fun p e s m args below meth c C => wX10_comes_e C hk hf rfl)
theorem kgX10_comes {l : Launch} {Γ : Gm} {A : Nat → Prop} {G : Gs} {o : Nat} {v1 : Int32} {v2 : Int32} {fin : Rec × Int32} (hk : kd Γ o = some 10) (hf : fX10_comes (G o) v1 v2 = some fin) : Kt l yX10_comes cX10_comes 3 (some .int) 5 113 Γ A G (ug G o fin.1) [.ref (ad Γ o), .int v1, .int v2] (some (.int fin.2)) := by
  have h := kX10_comes (l := l) (A := A) (G := G) (r := G o) hk hf
  rw [ug_self] at h
  exact h
noncomputable def bX10_keep__114 (r : Rec) (v2 : Int32) (v3 : Int32) (v4 : Int32) (v5 : Int32) : Option ((Int32 × Int32) ⊕ (Rec × Int32)) :=
  some (.inl (v4, v5 + 1))
set_option maxRecDepth 100000 in
set_option maxHeartbeats 4000000 in
theorem wX10_keep__114 {p : Program} {l : Launch} {e : Env} {s : State} {m : MethodId} {args : Array Value} {below : List Frame} {meth : Method} {c : Code} {Γ : Gm} {A : Nat → Prop} {G : Gs} {o : Nat} {r : Rec} {v2 : Int32} {v3 : Int32} {v4 : Int32} {v5 : Int32} {q : ((Int32 × Int32) ⊕ (Rec × Int32))} {fin : Rec × Int32} (C : Cx p s m args meth c yX10_keep_ cX10_keep_ 7 (some .int) Γ A) (hk : kd Γ o = some 10) (hf : bX10_keep__114 r v2 v3 v4 v5 = some q) (hq : (KC (fun st : Int32 × Int32 => Wk p l e { frames := 5, cells := 0, slots := 0, locals := 113 } s m args below meth c Γ A (ug G o fin.1) (some (.int fin.2)) 29 7 [(0, .ref (ad Γ o)), (2, .int v2), (3, .int v3), (4, .int st.1), (5, .int st.2)] [] (ug G o r)) (fun x => x = fin)) q) : Wk p l e { frames := 5, cells := 0, slots := 0, locals := 113 } s m args below meth c Γ A (ug G o fin.1) (some (.int fin.2)) 114 7 [(0, .ref (ad Γ o)), (2, .int v2), (3, .int v3), (4, .int v4), (5, .int v5)] [] (ug G o r) := by
  intro H locs ls hw hS hl
  unfold bX10_keep__114 at hf
  obtain ⟨hx, hb, hml, hr, hown, htw, hlocks, hE⟩ := id C
  have hown : s.vm.findClass RX10 = some m.cls := hown
  refine lv_iinc (v := v5 + 1) (lv' := [(5, .int (v5 + 1)), (0, .ref (ad Γ o)), (2, .int v2), (3, .int v3), (4, .int v4)]) hx hb dX10_keep__114 hl (k := 4) rfl (by rfl) (by decide) rfl (fun ls hl => ?_)
  refine lv_goto (tgt := 29) hx hb dX10_keep__117 (by decide) ?_
  obtain rfl := Option.some.inj hf
  exact hq.1 _ rfl H locs ls hw hS (lv_sub hl [1, 2, 3, 4, 0] rfl)

noncomputable def bX10_keep__98 (r : Rec) (v2 : Int32) (v3 : Int32) (v4 : Int32) (v5 : Int32) (s0 : Int32) : Option ((Int32 × Int32) ⊕ (Rec × Int32)) :=
  (fX10_comesOf r s0 (-1)).bind fun z1 => (fX10_has z1 v2).bind fun z2 => if z2 = v3 then bX10_keep__114 r v2 v3 v5 v5 else bX10_keep__114 r v2 v3 v4 v5
set_option maxRecDepth 100000 in
set_option maxHeartbeats 4000000 in
theorem wX10_keep__98 {p : Program} {l : Launch} {e : Env} {s : State} {m : MethodId} {args : Array Value} {below : List Frame} {meth : Method} {c : Code} {Γ : Gm} {A : Nat → Prop} {G : Gs} {o : Nat} {r : Rec} {v2 : Int32} {v3 : Int32} {v4 : Int32} {v5 : Int32} {s0 : Int32} {q : ((Int32 × Int32) ⊕ (Rec × Int32))} {fin : Rec × Int32} (C : Cx p s m args meth c yX10_keep_ cX10_keep_ 7 (some .int) Γ A) (hk : kd Γ o = some 10) (hf : bX10_keep__98 r v2 v3 v4 v5 s0 = some q) (hq : (KC (fun st : Int32 × Int32 => Wk p l e { frames := 5, cells := 0, slots := 0, locals := 113 } s m args below meth c Γ A (ug G o fin.1) (some (.int fin.2)) 29 7 [(0, .ref (ad Γ o)), (2, .int v2), (3, .int v3), (4, .int st.1), (5, .int st.2)] [] (ug G o r)) (fun x => x = fin)) q) : Wk p l e { frames := 5, cells := 0, slots := 0, locals := 113 } s m args below meth c Γ A (ug G o fin.1) (some (.int fin.2)) 98 7 [(0, .ref (ad Γ o)), (2, .int v2), (3, .int v3), (4, .int v4), (5, .int v5)] [.int s0, .ref (ad Γ o)] (ug G o r) := by
  intro H locs ls hw hS hl
  unfold bX10_keep__98 at hf
  obtain ⟨hx, hb, hml, hr, hown, htw, hlocks, hE⟩ := id C
  have hown : s.vm.findClass RX10 = some m.cls := hown
  refine lv_iconst (v := (-1)) hx hb dX10_keep__98 (by decide) ?_
  obtain ⟨z1, hz1, hf⟩ := bd hf
  refine cl_Vs (rest := []) (kX10_comesOf (l := l) (Γ := Γ) (A := A) (G := G) (o := o) hk hz1) ⟨hx, hb, hml, hown, htw⟩ hE hw hS (wo_me hw hk) (q0 := 0) rfl rfl mw1696 mw1698 mw96 mw129 mw1699 pdX10_comesOf ⟨Nat.le_of_ble_eq_true rfl, Nat.le_of_ble_eq_true rfl⟩ rfl rfl hl.1 (Nat.le_of_ble_eq_true rfl) dX10_keep__99 (fun H locs hw hS => ?_)
  refine lv_iload_n hx hb dX10_keep__102 rfl (lv_at hl 1 rfl) ?_
  obtain ⟨z2, hz2, hf⟩ := bd hf
  refine cl_Ss (rest := []) (kX10_has (l := l) (Γ := Γ) (A := A) (G := (ug G o r)) hz2) ⟨hx, hb, hml, hown, htw⟩ hE hw hS mw1561 mw1562 mw129 mw1563 pdX10_has ⟨Nat.le_of_ble_eq_true rfl, Nat.le_of_ble_eq_true rfl⟩ rfl rfl hl.1 (Nat.le_of_ble_eq_true rfl) dX10_keep__103 (fun H locs hw hS => ?_)
  refine lv_iload_n hx hb dX10_keep__106 rfl (lv_at hl 2 rfl) ?_
  refine lv_icmp_ne (tgt := 114) hx hb dX10_keep__107 (by decide) (fun c3 => ?_) (fun c3 => ?_)
  · have hf := ifn c3 hf
    exact wX10_keep__114 C hk hf hq H locs ls hw hS hl
  · have hf := ifp c3 hf
    refine lv_iload hx hb dX10_keep__110 (lv_at hl 4 rfl) ?_
    refine lv_istore (lv' := [(4, .int v5), (0, .ref (ad Γ o)), (2, .int v2), (3, .int v3), (5, .int v5)]) hx hb dX10_keep__112 hl (by decide) rfl (fun ls hl => ?_)
    exact wX10_keep__114 C hk hf hq H locs ls hw hS (lv_sub hl [1, 2, 3, 0, 4] rfl)

noncomputable def bX10_keep__72 (r : Rec) (v2 : Int32) (v3 : Int32) (v4 : Int32) (v5 : Int32) (s0 : Int32) : Option ((Int32 × Int32) ⊕ (Rec × Int32)) :=
  if s0 = 0 then bX10_keep__114 r v2 v3 v4 v5 else if v3 = 0 then (fX10_everything r).bind fun z4 => bX10_keep__98 r v2 v3 v4 v5 (z4 &&& (v5 ^^^ (-1))) else bX10_keep__98 r v2 v3 v4 v5 v5
set_option maxRecDepth 100000 in
set_option maxHeartbeats 4000000 in
theorem wX10_keep__72 {p : Program} {l : Launch} {e : Env} {s : State} {m : MethodId} {args : Array Value} {below : List Frame} {meth : Method} {c : Code} {Γ : Gm} {A : Nat → Prop} {G : Gs} {o : Nat} {r : Rec} {v2 : Int32} {v3 : Int32} {v4 : Int32} {v5 : Int32} {s0 : Int32} {q : ((Int32 × Int32) ⊕ (Rec × Int32))} {fin : Rec × Int32} (C : Cx p s m args meth c yX10_keep_ cX10_keep_ 7 (some .int) Γ A) (hk : kd Γ o = some 10) (hf : bX10_keep__72 r v2 v3 v4 v5 s0 = some q) (hq : (KC (fun st : Int32 × Int32 => Wk p l e { frames := 5, cells := 0, slots := 0, locals := 113 } s m args below meth c Γ A (ug G o fin.1) (some (.int fin.2)) 29 7 [(0, .ref (ad Γ o)), (2, .int v2), (3, .int v3), (4, .int st.1), (5, .int st.2)] [] (ug G o r)) (fun x => x = fin)) q) : Wk p l e { frames := 5, cells := 0, slots := 0, locals := 113 } s m args below meth c Γ A (ug G o fin.1) (some (.int fin.2)) 72 7 [(0, .ref (ad Γ o)), (2, .int v2), (3, .int v3), (4, .int v4), (5, .int v5)] [.int s0] (ug G o r) := by
  intro H locs ls hw hS hl
  unfold bX10_keep__72 at hf
  obtain ⟨hx, hb, hml, hr, hown, htw, hlocks, hE⟩ := id C
  have hown : s.vm.findClass RX10 = some m.cls := hown
  refine lv_istore (lv' := [(6, .int s0), (0, .ref (ad Γ o)), (2, .int v2), (3, .int v3), (4, .int v4), (5, .int v5)]) hx hb dX10_keep__72 hl (by decide) rfl (fun ls hl => ?_)
  refine lv_iload hx hb dX10_keep__74 (lv_at hl 0 rfl) ?_
  refine lv_if_eq (tgt := 114) hx hb dX10_keep__76 (by decide) (fun c6 => ?_) (fun c6 => ?_)
  · have hf := ifp c6 hf
    exact wX10_keep__114 C hk hf hq H locs ls hw hS (lv_sub hl [1, 2, 3, 4, 5] rfl)
  · have hf := ifn c6 hf
    refine lv_aload_n hx hb dX10_keep__79 rfl (lv_at hl 1 rfl) ?_
    refine lv_iload_n hx hb dX10_keep__80 rfl (lv_at hl 3 rfl) ?_
    refine lv_if_eq (tgt := 89) hx hb dX10_keep__81 (by decide) (fun c5 => ?_) (fun c5 => ?_)
    · have hf := ifp c5 hf
      refine lv_aload_n hx hb dX10_keep__89 rfl (lv_at hl 1 rfl) ?_
      obtain ⟨z4, hz4, hf⟩ := bd hf
      refine cl_Vs (rest := [.ref (ad Γ o)]) (kX10_everything (l := l) (Γ := Γ) (A := A) (G := G) (o := o) hk hz4) ⟨hx, hb, hml, hown, htw⟩ hE hw hS (wo_me hw hk) (q0 := 0) rfl rfl mw1692 mw1694 mw95 mw129 mw1695 pdX10_everything ⟨Nat.le_of_ble_eq_true rfl, Nat.le_of_ble_eq_true rfl⟩ rfl rfl hl.1 (Nat.le_of_ble_eq_true rfl) dX10_keep__90 (fun H locs hw hS => ?_)
      refine lv_iload hx hb dX10_keep__93 (lv_at hl 5 rfl) ?_
      refine lv_iconst (v := (-1)) hx hb dX10_keep__95 (by decide) ?_
      refine lv_ixor hx hb dX10_keep__96 ?_
      refine lv_iand hx hb dX10_keep__97 ?_
      exact wX10_keep__98 C hk hf hq H locs ls hw hS (lv_sub hl [1, 2, 3, 4, 5] rfl)
    · have hf := ifn c5 hf
      refine lv_iload hx hb dX10_keep__84 (lv_at hl 5 rfl) ?_
      refine lv_goto (tgt := 98) hx hb dX10_keep__86 (by decide) ?_
      exact wX10_keep__98 C hk hf hq H locs ls hw hS (lv_sub hl [1, 2, 3, 4, 5] rfl)

noncomputable def bX10_keep__71 (r : Rec) (v2 : Int32) (v3 : Int32) (v4 : Int32) (v5 : Int32) : Option ((Int32 × Int32) ⊕ (Rec × Int32)) :=
  bX10_keep__72 r v2 v3 v4 v5 0
set_option maxRecDepth 100000 in
set_option maxHeartbeats 4000000 in
theorem wX10_keep__71 {p : Program} {l : Launch} {e : Env} {s : State} {m : MethodId} {args : Array Value} {below : List Frame} {meth : Method} {c : Code} {Γ : Gm} {A : Nat → Prop} {G : Gs} {o : Nat} {r : Rec} {v2 : Int32} {v3 : Int32} {v4 : Int32} {v5 : Int32} {q : ((Int32 × Int32) ⊕ (Rec × Int32))} {fin : Rec × Int32} (C : Cx p s m args meth c yX10_keep_ cX10_keep_ 7 (some .int) Γ A) (hk : kd Γ o = some 10) (hf : bX10_keep__71 r v2 v3 v4 v5 = some q) (hq : (KC (fun st : Int32 × Int32 => Wk p l e { frames := 5, cells := 0, slots := 0, locals := 113 } s m args below meth c Γ A (ug G o fin.1) (some (.int fin.2)) 29 7 [(0, .ref (ad Γ o)), (2, .int v2), (3, .int v3), (4, .int st.1), (5, .int st.2)] [] (ug G o r)) (fun x => x = fin)) q) : Wk p l e { frames := 5, cells := 0, slots := 0, locals := 113 } s m args below meth c Γ A (ug G o fin.1) (some (.int fin.2)) 71 7 [(0, .ref (ad Γ o)), (2, .int v2), (3, .int v3), (4, .int v4), (5, .int v5)] [] (ug G o r) := by
  intro H locs ls hw hS hl
  unfold bX10_keep__71 at hf
  obtain ⟨hx, hb, hml, hr, hown, htw, hlocks, hE⟩ := id C
  have hown : s.vm.findClass RX10 = some m.cls := hown
  refine lv_iconst (v := 0) hx hb dX10_keep__71 (by decide) ?_
  exact wX10_keep__72 C hk hf hq H locs ls hw hS hl

noncomputable def bX10_keep__67 (r : Rec) (v2 : Int32) (v3 : Int32) (v4 : Int32) (v5 : Int32) : Option ((Int32 × Int32) ⊕ (Rec × Int32)) :=
  bX10_keep__72 r v2 v3 v4 v5 1
set_option maxRecDepth 100000 in
set_option maxHeartbeats 4000000 in
theorem wX10_keep__67 {p : Program} {l : Launch} {e : Env} {s : State} {m : MethodId} {args : Array Value} {below : List Frame} {meth : Method} {c : Code} {Γ : Gm} {A : Nat → Prop} {G : Gs} {o : Nat} {r : Rec} {v2 : Int32} {v3 : Int32} {v4 : Int32} {v5 : Int32} {q : ((Int32 × Int32) ⊕ (Rec × Int32))} {fin : Rec × Int32} (C : Cx p s m args meth c yX10_keep_ cX10_keep_ 7 (some .int) Γ A) (hk : kd Γ o = some 10) (hf : bX10_keep__67 r v2 v3 v4 v5 = some q) (hq : (KC (fun st : Int32 × Int32 => Wk p l e { frames := 5, cells := 0, slots := 0, locals := 113 } s m args below meth c Γ A (ug G o fin.1) (some (.int fin.2)) 29 7 [(0, .ref (ad Γ o)), (2, .int v2), (3, .int v3), (4, .int st.1), (5, .int st.2)] [] (ug G o r)) (fun x => x = fin)) q) : Wk p l e { frames := 5, cells := 0, slots := 0, locals := 113 } s m args below meth c Γ A (ug G o fin.1) (some (.int fin.2)) 67 7 [(0, .ref (ad Γ o)), (2, .int v2), (3, .int v3), (4, .int v4), (5, .int v5)] [] (ug G o r) := by
  intro H locs ls hw hS hl
  unfold bX10_keep__67 at hf
  obtain ⟨hx, hb, hml, hr, hown, htw, hlocks, hE⟩ := id C
  have hown : s.vm.findClass RX10 = some m.cls := hown
  refine lv_iconst (v := 1) hx hb dX10_keep__67 (by decide) ?_
  refine lv_goto (tgt := 72) hx hb dX10_keep__68 (by decide) ?_
  exact wX10_keep__72 C hk hf hq H locs ls hw hS hl

noncomputable def bX10_keep__29 (r : Rec) (v2 : Int32) (v3 : Int32) (v4 : Int32) (v5 : Int32) : Option ((Int32 × Int32) ⊕ (Rec × Int32)) :=
  (fX10_everything r).bind fun z7 => if z7 < v5 then some (.inr ((r, v4))) else (fX10_has v5 v2).bind fun z8 => if z8 = v3 then bX10_keep__71 r v2 v3 v4 v5 else if v4 = (-1) then bX10_keep__67 r v2 v3 v4 v5 else (fX10_ones v5).bind fun z9 => (fX10_ones v4).bind fun z10 => if z10 ≤ z9 then bX10_keep__71 r v2 v3 v4 v5 else bX10_keep__67 r v2 v3 v4 v5
set_option maxRecDepth 100000 in
set_option maxHeartbeats 4000000 in
theorem wX10_keep__29 {p : Program} {l : Launch} {e : Env} {s : State} {m : MethodId} {args : Array Value} {below : List Frame} {meth : Method} {c : Code} {Γ : Gm} {A : Nat → Prop} {G : Gs} {o : Nat} {r : Rec} {v2 : Int32} {v3 : Int32} {v4 : Int32} {v5 : Int32} {q : ((Int32 × Int32) ⊕ (Rec × Int32))} {fin : Rec × Int32} (C : Cx p s m args meth c yX10_keep_ cX10_keep_ 7 (some .int) Γ A) (hk : kd Γ o = some 10) (hf : bX10_keep__29 r v2 v3 v4 v5 = some q) (hq : (KC (fun st : Int32 × Int32 => Wk p l e { frames := 5, cells := 0, slots := 0, locals := 113 } s m args below meth c Γ A (ug G o fin.1) (some (.int fin.2)) 29 7 [(0, .ref (ad Γ o)), (2, .int v2), (3, .int v3), (4, .int st.1), (5, .int st.2)] [] (ug G o r)) (fun x => x = fin)) q) : Wk p l e { frames := 5, cells := 0, slots := 0, locals := 113 } s m args below meth c Γ A (ug G o fin.1) (some (.int fin.2)) 29 7 [(0, .ref (ad Γ o)), (2, .int v2), (3, .int v3), (4, .int v4), (5, .int v5)] [] (ug G o r) := by
  intro H locs ls hw hS hl
  unfold bX10_keep__29 at hf
  obtain ⟨hx, hb, hml, hr, hown, htw, hlocks, hE⟩ := id C
  have hown : s.vm.findClass RX10 = some m.cls := hown
  refine lv_iload hx hb dX10_keep__29 (lv_at hl 4 rfl) ?_
  refine lv_aload_n hx hb dX10_keep__31 rfl (lv_at hl 0 rfl) ?_
  obtain ⟨z7, hz7, hf⟩ := bd hf
  refine cl_Vs (rest := [.int v5]) (kX10_everything (l := l) (Γ := Γ) (A := A) (G := G) (o := o) hk hz7) ⟨hx, hb, hml, hown, htw⟩ hE hw hS (wo_me hw hk) (q0 := 0) rfl rfl mw1692 mw1694 mw95 mw129 mw1695 pdX10_everything ⟨Nat.le_of_ble_eq_true rfl, Nat.le_of_ble_eq_true rfl⟩ rfl rfl hl.1 (Nat.le_of_ble_eq_true rfl) dX10_keep__32 (fun H locs hw hS => ?_)
  refine lv_icmp_gt (tgt := 120) hx hb dX10_keep__35 (by decide) (fun c14 => ?_) (fun c14 => ?_)
  · have hf := ifp c14 hf
    refine lv_iload hx hb dX10_keep__120 (lv_at hl 3 rfl) ?_
    obtain rfl := Option.some.inj hf
    have hq := hq.2 _ rfl
    subst hq
    exact rt_i C hw hS dX10_keep__122
  · have hf := ifn c14 hf
    refine lv_iload hx hb dX10_keep__38 (lv_at hl 4 rfl) ?_
    refine lv_iload_n hx hb dX10_keep__40 rfl (lv_at hl 1 rfl) ?_
    obtain ⟨z8, hz8, hf⟩ := bd hf
    refine cl_Ss (rest := []) (kX10_has (l := l) (Γ := Γ) (A := A) (G := (ug G o r)) hz8) ⟨hx, hb, hml, hown, htw⟩ hE hw hS mw1561 mw1562 mw129 mw1563 pdX10_has ⟨Nat.le_of_ble_eq_true rfl, Nat.le_of_ble_eq_true rfl⟩ rfl rfl hl.1 (Nat.le_of_ble_eq_true rfl) dX10_keep__41 (fun H locs hw hS => ?_)
    refine lv_iload_n hx hb dX10_keep__44 rfl (lv_at hl 2 rfl) ?_
    refine lv_icmp_eq (tgt := 71) hx hb dX10_keep__45 (by decide) (fun c13 => ?_) (fun c13 => ?_)
    · have hf := ifp c13 hf
      exact wX10_keep__71 C hk hf hq H locs ls hw hS hl
    · have hf := ifn c13 hf
      refine lv_iload hx hb dX10_keep__48 (lv_at hl 3 rfl) ?_
      refine lv_iconst (v := (-1)) hx hb dX10_keep__50 (by decide) ?_
      refine lv_icmp_eq (tgt := 67) hx hb dX10_keep__51 (by decide) (fun c12 => ?_) (fun c12 => ?_)
      · have hf := ifp c12 hf
        exact wX10_keep__67 C hk hf hq H locs ls hw hS hl
      · have hf := ifn c12 hf
        refine lv_iload hx hb dX10_keep__54 (lv_at hl 4 rfl) ?_
        obtain ⟨z9, hz9, hf⟩ := bd hf
        refine cl_Ss (rest := []) (kX10_ones (l := l) (Γ := Γ) (A := A) (G := (ug G o r)) hz9) ⟨hx, hb, hml, hown, htw⟩ hE hw hS mw1716 mw1717 mw129 mw1718 pdX10_ones ⟨Nat.le_of_ble_eq_true rfl, Nat.le_of_ble_eq_true rfl⟩ rfl rfl hl.1 (Nat.le_of_ble_eq_true rfl) dX10_keep__56 (fun H locs hw hS => ?_)
        refine lv_iload hx hb dX10_keep__59 (lv_at hl 3 rfl) ?_
        obtain ⟨z10, hz10, hf⟩ := bd hf
        refine cl_Ss (rest := [.int z9]) (kX10_ones (l := l) (Γ := Γ) (A := A) (G := (ug G o r)) hz10) ⟨hx, hb, hml, hown, htw⟩ hE hw hS mw1716 mw1717 mw129 mw1718 pdX10_ones ⟨Nat.le_of_ble_eq_true rfl, Nat.le_of_ble_eq_true rfl⟩ rfl rfl hl.1 (Nat.le_of_ble_eq_true rfl) dX10_keep__61 (fun H locs hw hS => ?_)
        refine lv_icmp_ge (tgt := 71) hx hb dX10_keep__64 (by decide) (fun c11 => ?_) (fun c11 => ?_)
        · have hf := ifp c11 hf
          exact wX10_keep__71 C hk hf hq H locs ls hw hS hl
        · have hf := ifn c11 hf
          exact wX10_keep__67 C hk hf hq H locs ls hw hS hl

set_option maxRecDepth 100000 in
set_option maxHeartbeats 4000000 in
theorem lwX10_keep__29 {p : Program} {l : Launch} {e : Env} {s : State} {m : MethodId} {args : Array Value} {below : List Frame} {meth : Method} {c : Code} {Γ : Gm} {A : Nat → Prop} {G : Gs} {o : Nat} {r : Rec} {v2 : Int32} {v3 : Int32} {v4 : Int32} {v5 : Int32} {q : (Rec × Int32)} {fin : Rec × Int32} (C : Cx p s m args meth c yX10_keep_ cX10_keep_ 7 (some .int) Γ A) (hk : kd Γ o = some 10) (hf : iter (fun st : Int32 × Int32 => bX10_keep__29 r v2 v3 st.1 st.2) (v4, v5) = some q) (hq : (fun x => x = fin) q) : Wk p l e { frames := 5, cells := 0, slots := 0, locals := 113 } s m args below meth c Γ A (ug G o fin.1) (some (.int fin.2)) 29 7 [(0, .ref (ad Γ o)), (2, .int v2), (3, .int v3), (4, .int v4), (5, .int v5)] [] (ug G o r) := by
  intro H locs ls hw hS hl
  refine iter_walk (P := (fun st : Int32 × Int32 => Wk p l e { frames := 5, cells := 0, slots := 0, locals := 113 } s m args below meth c Γ A (ug G o fin.1) (some (.int fin.2)) 29 7 [(0, .ref (ad Γ o)), (2, .int v2), (3, .int v3), (4, .int st.1), (5, .int st.2)] [] (ug G o r))) (K := (fun x => x = fin)) (fun st q hq1 h1 h2 => ?_) hf hq H locs ls hw hS hl
  exact wX10_keep__29 (v4 := st.1) (v5 := st.2) C hk hq1 ⟨h1, h2⟩

noncomputable def fX10_keep_ (r : Rec) (v1 : Int32) (v2 : Int32) (v3 : Int32) : Option (Rec × Int32) :=
  (some (si r 0 0)).bind fun r15 => (fX10_hand r15 v1).bind fun z16 => if z16.2 = 0 then some ((z16.1, (-1))) else (fX10_isSecret z16.1 v2).bind fun z17 => if z17 = 0 then some ((z16.1, (-1))) else iter (fun st : Int32 × Int32 => bX10_keep__29 z16.1 v2 v3 st.1 st.2) ((-1), 0)
set_option maxRecDepth 100000 in
set_option maxHeartbeats 4000000 in
theorem wX10_keep__e {p : Program} {l : Launch} {e : Env} {s : State} {m : MethodId} {args : Array Value} {below : List Frame} {meth : Method} {c : Code} {Γ : Gm} {A : Nat → Prop} {G : Gs} {o : Nat} {r : Rec} {v1 : Int32} {v2 : Int32} {v3 : Int32} {q : (Rec × Int32)} {fin : Rec × Int32} (C : Cx p s m args meth c yX10_keep_ cX10_keep_ 7 (some .int) Γ A) (hk : kd Γ o = some 10) (hf : fX10_keep_ r v1 v2 v3 = some q) (hq : (fun x => x = fin) q) : Wk p l e { frames := 5, cells := 0, slots := 0, locals := 113 } s m args below meth c Γ A (ug G o fin.1) (some (.int fin.2)) 0 7 [(0, .ref (ad Γ o)), (1, .int v1), (2, .int v2), (3, .int v3)] [] (ug G o r) := by
  intro H locs ls hw hS hl
  unfold fX10_keep_ at hf
  obtain ⟨hx, hb, hml, hr, hown, htw, hlocks, hE⟩ := id C
  have hown : s.vm.findClass RX10 = some m.cls := hown
  refine lv_aload_n hx hb dX10_keep__0 rfl (lv_at hl 0 rfl) ?_
  refine lv_iconst (v := 0) hx hb dX10_keep__1 (by decide) ?_
  obtain ⟨r15, hr15, hf⟩ := bd hf
  have hr15 := Option.some.inj hr15
  refine wo_put (C := RX10) (T := TX10) (N := 49) (v := .int 0) (ty := .int) hx hb htw uwX10 tyX10 tyX10_ok nmX10 hown hE hw hS hk rfl rfl 0 (by decide) (htw _ mw1243) (fun _ h9 => h9) rfl (tyX10_ok 0 (by decide)) rfl rfl (Nat.le_of_ble_eq_true rfl) (st10_0 hr15) dX10_keep__2 (fun H locs hw hS => ?_)
  refine lv_aload_n hx hb dX10_keep__5 rfl (lv_at hl 0 rfl) ?_
  refine lv_iload_n hx hb dX10_keep__6 rfl (lv_at hl 1 rfl) ?_
  obtain ⟨z16, hz16, hf⟩ := bd hf
  refine cl_Vs (rest := []) (kX10_hand (l := l) (Γ := Γ) (A := A) (G := G) (o := o) hk hz16) ⟨hx, hb, hml, hown, htw⟩ hE hw hS (wo_me hw hk) (q0 := 0) rfl rfl mw1537 mw1539 mw65 mw129 mw1540 pdX10_hand ⟨Nat.le_of_ble_eq_true rfl, Nat.le_of_ble_eq_true rfl⟩ rfl rfl hl.1 (Nat.le_of_ble_eq_true rfl) dX10_keep__7 (fun H locs hw hS => ?_)
  refine lv_if_eq (tgt := 21) hx hb dX10_keep__10 (by decide) (fun c19 => ?_) (fun c19 => ?_)
  · have hf := ifp c19 hf
    refine lv_iconst (v := (-1)) hx hb dX10_keep__21 (by decide) ?_
    obtain rfl := Option.some.inj hf
    subst hq
    exact rt_i C hw hS dX10_keep__22
  · have hf := ifn c19 hf
    refine lv_aload_n hx hb dX10_keep__13 rfl (lv_at hl 0 rfl) ?_
    refine lv_iload_n hx hb dX10_keep__14 rfl (lv_at hl 2 rfl) ?_
    obtain ⟨z17, hz17, hf⟩ := bd hf
    refine cl_Vs (rest := []) (kX10_isSecret (l := l) (Γ := Γ) (A := A) (G := G) (o := o) hk hz17) ⟨hx, hb, hml, hown, htw⟩ hE hw hS (wo_me hw hk) (q0 := 0) rfl rfl mw1549 mw1551 mw67 mw129 mw1552 pdX10_isSecret ⟨Nat.le_of_ble_eq_true rfl, Nat.le_of_ble_eq_true rfl⟩ rfl rfl hl.1 (Nat.le_of_ble_eq_true rfl) dX10_keep__15 (fun H locs hw hS => ?_)
    refine lv_if_ne (tgt := 23) hx hb dX10_keep__18 (by decide) (fun c18 => ?_) (fun c18 => ?_)
    · have hf := ifn c18 hf
      refine lv_iconst (v := (-1)) hx hb dX10_keep__23 (by decide) ?_
      refine lv_istore (lv' := [(4, .int (-1)), (0, .ref (ad Γ o)), (1, .int v1), (2, .int v2), (3, .int v3)]) hx hb dX10_keep__24 hl (by decide) rfl (fun ls hl => ?_)
      refine lv_iconst (v := 0) hx hb dX10_keep__26 (by decide) ?_
      refine lv_istore (lv' := [(5, .int 0), (4, .int (-1)), (0, .ref (ad Γ o)), (1, .int v1), (2, .int v2), (3, .int v3)]) hx hb dX10_keep__27 hl (by decide) rfl (fun ls hl => ?_)
      exact lwX10_keep__29 C hk hf hq H locs ls hw hS (lv_sub hl [2, 4, 5, 1, 0] rfl)
    · have hf := ifp c18 hf
      refine lv_iconst (v := (-1)) hx hb dX10_keep__21 (by decide) ?_
      obtain rfl := Option.some.inj hf
      subst hq
      exact rt_i C hw hS dX10_keep__22

theorem kX10_keep_ {l : Launch} {Γ : Gm} {A : Nat → Prop} {G : Gs} {o : Nat} {r : Rec} {v1 : Int32} {v2 : Int32} {v3 : Int32} {fin : Rec × Int32} (hk : kd Γ o = some 10) (hf : fX10_keep_ r v1 v2 v3 = some fin) : Kt l yX10_keep_ cX10_keep_ 7 (some .int) 5 113 Γ A (ug G o r) (ug G o fin.1) [.ref (ad Γ o), .int v1, .int v2, .int v3] (some (.int fin.2)) :=
  kt_of (by decide) (Nat.le_of_ble_eq_true rfl) (fun p e s m args below meth c C => wX10_keep__e C hk hf rfl)
theorem kgX10_keep_ {l : Launch} {Γ : Gm} {A : Nat → Prop} {G : Gs} {o : Nat} {v1 : Int32} {v2 : Int32} {v3 : Int32} {fin : Rec × Int32} (hk : kd Γ o = some 10) (hf : fX10_keep_ (G o) v1 v2 v3 = some fin) : Kt l yX10_keep_ cX10_keep_ 7 (some .int) 5 113 Γ A G (ug G o fin.1) [.ref (ad Γ o), .int v1, .int v2, .int v3] (some (.int fin.2)) := by
  have h := kX10_keep_ (l := l) (A := A) (G := G) (r := G o) hk hf
  rw [ug_self] at h
  exact h
noncomputable def bX10_findLoot_51 (r : Rec) (v1 : Int32) (v2 : Int32) : Option ((Int32 × Rec) ⊕ Rec) :=
  (fX10_comesOf r v2 (-1)).bind fun z1 => (fX10_weightOf r z1).bind fun z2 => gd (inR v1 256) ((some (sa r 38 (upd (ga r 38) (Int32.toNatClampNeg v1) z2))).bind fun r4 => some (.inl (v1 + 1, r4)))
set_option maxRecDepth 100000 in
set_option maxHeartbeats 4000000 in
theorem wX10_findLoot_51 {p : Program} {l : Launch} {e : Env} {s : State} {m : MethodId} {args : Array Value} {below : List Frame} {meth : Method} {c : Code} {Γ : Gm} {A : Nat → Prop} {G : Gs} {o : Nat} {r : Rec} {v1 : Int32} {v2 : Int32} {q : ((Int32 × Rec) ⊕ Rec)} {fin : Rec} (C : Cx p s m args meth c yX10_findLoot cX10_findLoot 4 none Γ A) (hk : kd Γ o = some 10) (hf : bX10_findLoot_51 r v1 v2 = some q) (hq : (KC (fun st : Int32 × Rec => Wk p l e { frames := 5, cells := 0, slots := 0, locals := 113 } s m args below meth c Γ A (ug G o fin) none 2 4 [(0, .ref (ad Γ o)), (1, .int st.1)] [] (ug G o st.2)) (fun x => x = fin)) q) : Wk p l e { frames := 5, cells := 0, slots := 0, locals := 113 } s m args below meth c Γ A (ug G o fin) none 51 4 [(0, .ref (ad Γ o)), (1, .int v1), (2, .int v2)] [] (ug G o r) := by
  intro H locs ls hw hS hl
  unfold bX10_findLoot_51 at hf
  obtain ⟨hx, hb, hml, hr, hown, htw, hlocks, hE⟩ := id C
  have hown : s.vm.findClass RX10 = some m.cls := hown
  refine lv_aload_n hx hb dX10_findLoot_51 rfl (lv_at hl 0 rfl) ?_
  refine va_get (ci := 10) (v := .ref (aa Γ o 38)) (C := RX10) (T := TX10) (N := 49) hx hb htw uwX10 hown hE.1 (wo_me hw hk) 0 rfl rfl 38 (by decide) (htw _ mw1281) (fun _ h9 => h9) rfl dX10_findLoot_52 ?_
  refine lv_iload_n hx hb dX10_findLoot_55 rfl (lv_at hl 1 rfl) ?_
  refine lv_aload_n hx hb dX10_findLoot_56 rfl (lv_at hl 0 rfl) ?_
  refine lv_aload_n hx hb dX10_findLoot_57 rfl (lv_at hl 0 rfl) ?_
  refine lv_iload_n hx hb dX10_findLoot_58 rfl (lv_at hl 2 rfl) ?_
  refine lv_iconst (v := (-1)) hx hb dX10_findLoot_59 (by decide) ?_
  obtain ⟨z1, hz1, hf⟩ := bd hf
  refine cl_Vs (rest := [.ref (ad Γ o), .int v1, .ref (aa Γ o 38)]) (kX10_comesOf (l := l) (Γ := Γ) (A := A) (G := G) (o := o) hk hz1) ⟨hx, hb, hml, hown, htw⟩ hE hw hS (wo_me hw hk) (q0 := 0) rfl rfl mw1696 mw1698 mw96 mw129 mw1699 pdX10_comesOf ⟨Nat.le_of_ble_eq_true rfl, Nat.le_of_ble_eq_true rfl⟩ rfl rfl hl.1 (Nat.le_of_ble_eq_true rfl) dX10_findLoot_60 (fun H locs hw hS => ?_)
  obtain ⟨z2, hz2, hf⟩ := bd hf
  refine cl_Vs (rest := [.int v1, .ref (aa Γ o 38)]) (kX10_weightOf (l := l) (Γ := Γ) (A := A) (G := G) (o := o) hk hz2) ⟨hx, hb, hml, hown, htw⟩ hE hw hS (wo_me hw hk) (q0 := 0) rfl rfl mw1727 mw1729 mw101 mw129 mw1730 pdX10_weightOf ⟨Nat.le_of_ble_eq_true rfl, Nat.le_of_ble_eq_true rfl⟩ rfl rfl hl.1 (Nat.le_of_ble_eq_true rfl) dX10_findLoot_63 (fun H locs hw hS => ?_)
  obtain ⟨g3, hf⟩ := gd_some hf
  obtain ⟨r4, hr4, hf⟩ := bd hf
  have hr4 := Option.some.inj hr4
  refine wo_iast hx hb hE hw hS hk (q0 := 17) rfl (inR_in g3) (sa10_38 hr4) dX10_findLoot_66 (fun H locs hw hS => ?_)
  refine lv_iinc (v := v1 + 1) (lv' := [(1, .int (v1 + 1)), (0, .ref (ad Γ o)), (2, .int v2)]) hx hb dX10_findLoot_67 hl (k := 1) rfl (by rfl) (by decide) rfl (fun ls hl => ?_)
  refine lv_goto (tgt := 2) hx hb dX10_findLoot_70 (by decide) ?_
  obtain rfl := Option.some.inj hf
  exact hq.1 _ rfl H locs ls hw hS (lv_sub hl [1, 0] rfl)

noncomputable def bX10_findLoot_43 (r : Rec) (v1 : Int32) (v3 : Int32) (s0 : Int32) (s1 : Int32) : Option ((Int32 × Int32) ⊕ ((Int32 × Rec) ⊕ Rec)) :=
  some (.inl (s1 ||| s0, v3 + 1))
set_option maxRecDepth 100000 in
set_option maxHeartbeats 4000000 in
theorem wX10_findLoot_43 {p : Program} {l : Launch} {e : Env} {s : State} {m : MethodId} {args : Array Value} {below : List Frame} {meth : Method} {c : Code} {Γ : Gm} {A : Nat → Prop} {G : Gs} {o : Nat} {r : Rec} {v1 : Int32} {v3 : Int32} {s0 : Int32} {s1 : Int32} {q : ((Int32 × Int32) ⊕ ((Int32 × Rec) ⊕ Rec))} {fin : Rec} (C : Cx p s m args meth c yX10_findLoot cX10_findLoot 4 none Γ A) (hk : kd Γ o = some 10) (hf : bX10_findLoot_43 r v1 v3 s0 s1 = some q) (hq : (KC (fun st : Int32 × Int32 => Wk p l e { frames := 5, cells := 0, slots := 0, locals := 113 } s m args below meth c Γ A (ug G o fin) none 16 4 [(0, .ref (ad Γ o)), (1, .int v1), (2, .int st.1), (3, .int st.2)] [] (ug G o r)) (KC (fun st : Int32 × Rec => Wk p l e { frames := 5, cells := 0, slots := 0, locals := 113 } s m args below meth c Γ A (ug G o fin) none 2 4 [(0, .ref (ad Γ o)), (1, .int st.1)] [] (ug G o st.2)) (fun x => x = fin))) q) : Wk p l e { frames := 5, cells := 0, slots := 0, locals := 113 } s m args below meth c Γ A (ug G o fin) none 43 4 [(0, .ref (ad Γ o)), (1, .int v1), (3, .int v3)] [.int s0, .int s1] (ug G o r) := by
  intro H locs ls hw hS hl
  unfold bX10_findLoot_43 at hf
  obtain ⟨hx, hb, hml, hr, hown, htw, hlocks, hE⟩ := id C
  have hown : s.vm.findClass RX10 = some m.cls := hown
  refine lv_ior hx hb dX10_findLoot_43 ?_
  refine lv_istore_n (lv' := [(2, .int (s1 ||| s0)), (0, .ref (ad Γ o)), (1, .int v1), (3, .int v3)]) hx hb dX10_findLoot_44 rfl hl (by decide) rfl (fun ls hl => ?_)
  refine lv_iinc (v := v3 + 1) (lv' := [(3, .int (v3 + 1)), (2, .int (s1 ||| s0)), (0, .ref (ad Γ o)), (1, .int v1)]) hx hb dX10_findLoot_45 hl (k := 3) rfl (by rfl) (by decide) rfl (fun ls hl => ?_)
  refine lv_goto (tgt := 16) hx hb dX10_findLoot_48 (by decide) ?_
  obtain rfl := Option.some.inj hf
  exact hq.1 _ rfl H locs ls hw hS (lv_sub hl [2, 3, 1, 0] rfl)

noncomputable def bX10_findLoot_16 (r : Rec) (v1 : Int32) (v2 : Int32) (v3 : Int32) : Option ((Int32 × Int32) ⊕ ((Int32 × Rec) ⊕ Rec)) :=
  if (gi r 26) ≤ v3 then out1 (bX10_findLoot_51 r v1 v2) else (fX10_has v1 v3).bind fun z6 => if z6 = 0 then bX10_findLoot_43 r v1 v3 0 v2 else gd (inR v3 8) (bX10_findLoot_43 r v1 v3 (ga r 28 (Int32.toNatClampNeg v3)) v2)
set_option maxRecDepth 100000 in
set_option maxHeartbeats 4000000 in
theorem wX10_findLoot_16 {p : Program} {l : Launch} {e : Env} {s : State} {m : MethodId} {args : Array Value} {below : List Frame} {meth : Method} {c : Code} {Γ : Gm} {A : Nat → Prop} {G : Gs} {o : Nat} {r : Rec} {v1 : Int32} {v2 : Int32} {v3 : Int32} {q : ((Int32 × Int32) ⊕ ((Int32 × Rec) ⊕ Rec))} {fin : Rec} (C : Cx p s m args meth c yX10_findLoot cX10_findLoot 4 none Γ A) (hk : kd Γ o = some 10) (hf : bX10_findLoot_16 r v1 v2 v3 = some q) (hq : (KC (fun st : Int32 × Int32 => Wk p l e { frames := 5, cells := 0, slots := 0, locals := 113 } s m args below meth c Γ A (ug G o fin) none 16 4 [(0, .ref (ad Γ o)), (1, .int v1), (2, .int st.1), (3, .int st.2)] [] (ug G o r)) (KC (fun st : Int32 × Rec => Wk p l e { frames := 5, cells := 0, slots := 0, locals := 113 } s m args below meth c Γ A (ug G o fin) none 2 4 [(0, .ref (ad Γ o)), (1, .int st.1)] [] (ug G o st.2)) (fun x => x = fin))) q) : Wk p l e { frames := 5, cells := 0, slots := 0, locals := 113 } s m args below meth c Γ A (ug G o fin) none 16 4 [(0, .ref (ad Γ o)), (1, .int v1), (2, .int v2), (3, .int v3)] [] (ug G o r) := by
  intro H locs ls hw hS hl
  unfold bX10_findLoot_16 at hf
  obtain ⟨hx, hb, hml, hr, hown, htw, hlocks, hE⟩ := id C
  have hown : s.vm.findClass RX10 = some m.cls := hown
  refine lv_iload_n hx hb dX10_findLoot_16 rfl (lv_at hl 3 rfl) ?_
  refine lv_aload_n hx hb dX10_findLoot_17 rfl (lv_at hl 0 rfl) ?_
  refine va_get (ci := 10) (v := .int (gi r 26)) (C := RX10) (T := TX10) (N := 49) hx hb htw uwX10 hown hE.1 (wo_me hw hk) 0 rfl rfl 26 (by decide) (htw _ mw1269) (fun _ h9 => h9) rfl dX10_findLoot_18 ?_
  refine lv_icmp_ge (tgt := 51) hx hb dX10_findLoot_21 (by decide) (fun c9 => ?_) (fun c9 => ?_)
  · have hf := ifp c9 hf
    obtain ⟨q5, hfq5, eq5⟩ := out1_some hf
    subst eq5
    have hf := hfq5
    have hq := hq.2 _ rfl
    exact wX10_findLoot_51 C hk hf hq H locs ls hw hS (lv_sub hl [0, 1, 2] rfl)
  · have hf := ifn c9 hf
    refine lv_iload_n hx hb dX10_findLoot_24 rfl (lv_at hl 2 rfl) ?_
    refine lv_iload_n hx hb dX10_findLoot_25 rfl (lv_at hl 1 rfl) ?_
    refine lv_iload_n hx hb dX10_findLoot_26 rfl (lv_at hl 3 rfl) ?_
    obtain ⟨z6, hz6, hf⟩ := bd hf
    refine cl_Ss (rest := [.int v2]) (kX10_has (l := l) (Γ := Γ) (A := A) (G := (ug G o r)) hz6) ⟨hx, hb, hml, hown, htw⟩ hE hw hS mw1561 mw1562 mw129 mw1563 pdX10_has ⟨Nat.le_of_ble_eq_true rfl, Nat.le_of_ble_eq_true rfl⟩ rfl rfl hl.1 (Nat.le_of_ble_eq_true rfl) dX10_findLoot_27 (fun H locs hw hS => ?_)
    refine lv_if_eq (tgt := 42) hx hb dX10_findLoot_30 (by decide) (fun c8 => ?_) (fun c8 => ?_)
    · have hf := ifp c8 hf
      refine lv_iconst (v := 0) hx hb dX10_findLoot_42 (by decide) ?_
      exact wX10_findLoot_43 C hk hf hq H locs ls hw hS (lv_sub hl [0, 1, 3] rfl)
    · have hf := ifn c8 hf
      refine lv_aload_n hx hb dX10_findLoot_33 rfl (lv_at hl 0 rfl) ?_
      refine va_get (ci := 10) (v := .ref (aa Γ o 28)) (C := RX10) (T := TX10) (N := 49) hx hb htw uwX10 hown hE.1 (wo_me hw hk) 0 rfl rfl 28 (by decide) (htw _ mw1271) (fun _ h9 => h9) rfl dX10_findLoot_34 ?_
      refine lv_iload_n hx hb dX10_findLoot_37 rfl (lv_at hl 3 rfl) ?_
      obtain ⟨g7, hf⟩ := gd_some hf
      refine va_iald hx hb hE.1 (wo_me hw hk) 12 0 rfl rfl (inR_in g7) dX10_findLoot_38 ?_
      refine lv_goto (tgt := 43) hx hb dX10_findLoot_39 (by decide) ?_
      exact wX10_findLoot_43 C hk hf hq H locs ls hw hS (lv_sub hl [0, 1, 3] rfl)

set_option maxRecDepth 100000 in
set_option maxHeartbeats 4000000 in
theorem lwX10_findLoot_16 {p : Program} {l : Launch} {e : Env} {s : State} {m : MethodId} {args : Array Value} {below : List Frame} {meth : Method} {c : Code} {Γ : Gm} {A : Nat → Prop} {G : Gs} {o : Nat} {r : Rec} {v1 : Int32} {v2 : Int32} {v3 : Int32} {q : ((Int32 × Rec) ⊕ Rec)} {fin : Rec} (C : Cx p s m args meth c yX10_findLoot cX10_findLoot 4 none Γ A) (hk : kd Γ o = some 10) (hf : iter (fun st : Int32 × Int32 => bX10_findLoot_16 r v1 st.1 st.2) (v2, v3) = some q) (hq : (KC (fun st : Int32 × Rec => Wk p l e { frames := 5, cells := 0, slots := 0, locals := 113 } s m args below meth c Γ A (ug G o fin) none 2 4 [(0, .ref (ad Γ o)), (1, .int st.1)] [] (ug G o st.2)) (fun x => x = fin)) q) : Wk p l e { frames := 5, cells := 0, slots := 0, locals := 113 } s m args below meth c Γ A (ug G o fin) none 16 4 [(0, .ref (ad Γ o)), (1, .int v1), (2, .int v2), (3, .int v3)] [] (ug G o r) := by
  intro H locs ls hw hS hl
  refine iter_walk (P := (fun st : Int32 × Int32 => Wk p l e { frames := 5, cells := 0, slots := 0, locals := 113 } s m args below meth c Γ A (ug G o fin) none 16 4 [(0, .ref (ad Γ o)), (1, .int v1), (2, .int st.1), (3, .int st.2)] [] (ug G o r))) (K := (KC (fun st : Int32 × Rec => Wk p l e { frames := 5, cells := 0, slots := 0, locals := 113 } s m args below meth c Γ A (ug G o fin) none 2 4 [(0, .ref (ad Γ o)), (1, .int st.1)] [] (ug G o st.2)) (fun x => x = fin))) (fun st q hq1 h1 h2 => ?_) hf hq H locs ls hw hS hl
  exact wX10_findLoot_16 (v2 := st.1) (v3 := st.2) C hk hq1 ⟨h1, h2⟩

noncomputable def bX10_findLoot_2 (r : Rec) (v1 : Int32) : Option ((Int32 × Rec) ⊕ Rec) :=
  if ((1 : Int32) <<< ((gi r 26) &&& 31)) ≤ v1 then some (.inr (r)) else iter (fun st : Int32 × Int32 => bX10_findLoot_16 r v1 st.1 st.2) (0, 0)
set_option maxRecDepth 100000 in
set_option maxHeartbeats 4000000 in
theorem wX10_findLoot_2 {p : Program} {l : Launch} {e : Env} {s : State} {m : MethodId} {args : Array Value} {below : List Frame} {meth : Method} {c : Code} {Γ : Gm} {A : Nat → Prop} {G : Gs} {o : Nat} {r : Rec} {v1 : Int32} {q : ((Int32 × Rec) ⊕ Rec)} {fin : Rec} (C : Cx p s m args meth c yX10_findLoot cX10_findLoot 4 none Γ A) (hk : kd Γ o = some 10) (hf : bX10_findLoot_2 r v1 = some q) (hq : (KC (fun st : Int32 × Rec => Wk p l e { frames := 5, cells := 0, slots := 0, locals := 113 } s m args below meth c Γ A (ug G o fin) none 2 4 [(0, .ref (ad Γ o)), (1, .int st.1)] [] (ug G o st.2)) (fun x => x = fin)) q) : Wk p l e { frames := 5, cells := 0, slots := 0, locals := 113 } s m args below meth c Γ A (ug G o fin) none 2 4 [(0, .ref (ad Γ o)), (1, .int v1)] [] (ug G o r) := by
  intro H locs ls hw hS hl
  unfold bX10_findLoot_2 at hf
  obtain ⟨hx, hb, hml, hr, hown, htw, hlocks, hE⟩ := id C
  have hown : s.vm.findClass RX10 = some m.cls := hown
  refine lv_iload_n hx hb dX10_findLoot_2 rfl (lv_at hl 1 rfl) ?_
  refine lv_iconst (v := 1) hx hb dX10_findLoot_3 (by decide) ?_
  refine lv_aload_n hx hb dX10_findLoot_4 rfl (lv_at hl 0 rfl) ?_
  refine va_get (ci := 10) (v := .int (gi r 26)) (C := RX10) (T := TX10) (N := 49) hx hb htw uwX10 hown hE.1 (wo_me hw hk) 0 rfl rfl 26 (by decide) (htw _ mw1269) (fun _ h9 => h9) rfl dX10_findLoot_5 ?_
  refine lv_ishl hx hb dX10_findLoot_8 ?_
  refine lv_icmp_ge (tgt := 73) hx hb dX10_findLoot_9 (by decide) (fun c10 => ?_) (fun c10 => ?_)
  · have hf := ifp c10 hf
    obtain rfl := Option.some.inj hf
    have hq := hq.2 _ rfl
    subst hq
    exact rt_v C hw hS dX10_findLoot_73
  · have hf := ifn c10 hf
    refine lv_iconst (v := 0) hx hb dX10_findLoot_12 (by decide) ?_
    refine lv_istore_n (lv' := [(2, .int 0), (0, .ref (ad Γ o)), (1, .int v1)]) hx hb dX10_findLoot_13 rfl hl (by decide) rfl (fun ls hl => ?_)
    refine lv_iconst (v := 0) hx hb dX10_findLoot_14 (by decide) ?_
    refine lv_istore_n (lv' := [(3, .int 0), (2, .int 0), (0, .ref (ad Γ o)), (1, .int v1)]) hx hb dX10_findLoot_15 rfl hl (by decide) rfl (fun ls hl => ?_)
    exact lwX10_findLoot_16 C hk hf hq H locs ls hw hS (lv_sub hl [2, 3, 1, 0] rfl)

set_option maxRecDepth 100000 in
set_option maxHeartbeats 4000000 in
theorem lwX10_findLoot_2 {p : Program} {l : Launch} {e : Env} {s : State} {m : MethodId} {args : Array Value} {below : List Frame} {meth : Method} {c : Code} {Γ : Gm} {A : Nat → Prop} {G : Gs} {o : Nat} {r : Rec} {v1 : Int32} {q : Rec} {fin : Rec} (C : Cx p s m args meth c yX10_findLoot cX10_findLoot 4 none Γ A) (hk : kd Γ o = some 10) (hf : iter (fun st : Int32 × Rec => bX10_findLoot_2 st.2 st.1) (v1, r) = some q) (hq : (fun x => x = fin) q) : Wk p l e { frames := 5, cells := 0, slots := 0, locals := 113 } s m args below meth c Γ A (ug G o fin) none 2 4 [(0, .ref (ad Γ o)), (1, .int v1)] [] (ug G o r) := by
  intro H locs ls hw hS hl
  refine iter_walk (P := (fun st : Int32 × Rec => Wk p l e { frames := 5, cells := 0, slots := 0, locals := 113 } s m args below meth c Γ A (ug G o fin) none 2 4 [(0, .ref (ad Γ o)), (1, .int st.1)] [] (ug G o st.2))) (K := (fun x => x = fin)) (fun st q hq1 h1 h2 => ?_) hf hq H locs ls hw hS hl
  exact wX10_findLoot_2 (r := st.2) (v1 := st.1) C hk hq1 ⟨h1, h2⟩

noncomputable def fX10_findLoot (r : Rec) : Option Rec :=
  iter (fun st : Int32 × Rec => bX10_findLoot_2 st.2 st.1) (0, r)
set_option maxRecDepth 100000 in
set_option maxHeartbeats 4000000 in
theorem wX10_findLoot_e {p : Program} {l : Launch} {e : Env} {s : State} {m : MethodId} {args : Array Value} {below : List Frame} {meth : Method} {c : Code} {Γ : Gm} {A : Nat → Prop} {G : Gs} {o : Nat} {r : Rec} {q : Rec} {fin : Rec} (C : Cx p s m args meth c yX10_findLoot cX10_findLoot 4 none Γ A) (hk : kd Γ o = some 10) (hf : fX10_findLoot r = some q) (hq : (fun x => x = fin) q) : Wk p l e { frames := 5, cells := 0, slots := 0, locals := 113 } s m args below meth c Γ A (ug G o fin) none 0 4 [(0, .ref (ad Γ o))] [] (ug G o r) := by
  intro H locs ls hw hS hl
  unfold fX10_findLoot at hf
  obtain ⟨hx, hb, hml, hr, hown, htw, hlocks, hE⟩ := id C
  have hown : s.vm.findClass RX10 = some m.cls := hown
  refine lv_iconst (v := 0) hx hb dX10_findLoot_0 (by decide) ?_
  refine lv_istore_n (lv' := [(1, .int 0), (0, .ref (ad Γ o))]) hx hb dX10_findLoot_1 rfl hl (by decide) rfl (fun ls hl => ?_)
  exact lwX10_findLoot_2 C hk hf hq H locs ls hw hS (lv_sub hl [1, 0] rfl)

theorem kX10_findLoot {l : Launch} {Γ : Gm} {A : Nat → Prop} {G : Gs} {o : Nat} {r : Rec} {fin : Rec} (hk : kd Γ o = some 10) (hf : fX10_findLoot r = some fin) : Kt l yX10_findLoot cX10_findLoot 4 none 5 113 Γ A (ug G o r) (ug G o fin) [.ref (ad Γ o)] none :=
  kt_of (by decide) (Nat.le_of_ble_eq_true rfl) (fun p e s m args below meth c C => wX10_findLoot_e C hk hf rfl)
theorem kgX10_findLoot {l : Launch} {Γ : Gm} {A : Nat → Prop} {G : Gs} {o : Nat} {fin : Rec} (hk : kd Γ o = some 10) (hf : fX10_findLoot (G o) = some fin) : Kt l yX10_findLoot cX10_findLoot 4 none 5 113 Γ A G (ug G o fin) [.ref (ad Γ o)] none := by
  have h := kX10_findLoot (l := l) (A := A) (G := G) (r := G o) hk hf
  rw [ug_self] at h
  exact h
noncomputable def bX10_bestLoot_108 (r : Rec) (v1 : Int32) (v2 : Int32) (v4 : Int32) (s0 : Int32) : Option ((Int32 × Int32) ⊕ Int32) :=
  some (.inl (s0, v4 + 1))
set_option maxRecDepth 100000 in
set_option maxHeartbeats 4000000 in
theorem wX10_bestLoot_108 {p : Program} {l : Launch} {e : Env} {s : State} {m : MethodId} {args : Array Value} {below : List Frame} {meth : Method} {c : Code} {Γ : Gm} {A : Nat → Prop} {G : Gs} {o : Nat} {r : Rec} {v1 : Int32} {v2 : Int32} {v4 : Int32} {s0 : Int32} {q : ((Int32 × Int32) ⊕ Int32)} {fin : Int32} (C : Cx p s m args meth c yX10_bestLoot cX10_bestLoot 7 (some .int) Γ A) (hk : kd Γ o = some 10) (hf : bX10_bestLoot_108 r v1 v2 v4 s0 = some q) (hq : (KC (fun st : Int32 × Int32 => Wk p l e { frames := 2, cells := 0, slots := 0, locals := 43 } s m args below meth c Γ A (ug G o r) (some (.int fin)) 5 7 [(0, .ref (ad Γ o)), (1, .int v1), (2, .int v2), (3, .int st.1), (4, .int st.2)] [] (ug G o r)) (fun x => x = fin)) q) : Wk p l e { frames := 2, cells := 0, slots := 0, locals := 43 } s m args below meth c Γ A (ug G o r) (some (.int fin)) 108 7 [(0, .ref (ad Γ o)), (1, .int v1), (2, .int v2), (4, .int v4)] [.int s0] (ug G o r) := by
  intro H locs ls hw hS hl
  unfold bX10_bestLoot_108 at hf
  obtain ⟨hx, hb, hml, hr, hown, htw, hlocks, hE⟩ := id C
  have hown : s.vm.findClass RX10 = some m.cls := hown
  refine lv_istore_n (lv' := [(3, .int s0), (0, .ref (ad Γ o)), (1, .int v1), (2, .int v2), (4, .int v4)]) hx hb dX10_bestLoot_108 rfl hl (by decide) rfl (fun ls hl => ?_)
  refine lv_iinc (v := v4 + 1) (lv' := [(4, .int (v4 + 1)), (3, .int s0), (0, .ref (ad Γ o)), (1, .int v1), (2, .int v2)]) hx hb dX10_bestLoot_109 hl (k := 4) rfl (by rfl) (by decide) rfl (fun ls hl => ?_)
  refine lv_goto (tgt := 5) hx hb dX10_bestLoot_112 (by decide) ?_
  obtain rfl := Option.some.inj hf
  exact hq.1 _ rfl H locs ls hw hS (lv_sub hl [2, 3, 4, 1, 0] rfl)

noncomputable def bX10_bestLoot_107 (r : Rec) (v1 : Int32) (v2 : Int32) (v3 : Int32) (v4 : Int32) : Option ((Int32 × Int32) ⊕ Int32) :=
  bX10_bestLoot_108 r v1 v2 v4 v3
set_option maxRecDepth 100000 in
set_option maxHeartbeats 4000000 in
theorem wX10_bestLoot_107 {p : Program} {l : Launch} {e : Env} {s : State} {m : MethodId} {args : Array Value} {below : List Frame} {meth : Method} {c : Code} {Γ : Gm} {A : Nat → Prop} {G : Gs} {o : Nat} {r : Rec} {v1 : Int32} {v2 : Int32} {v3 : Int32} {v4 : Int32} {q : ((Int32 × Int32) ⊕ Int32)} {fin : Int32} (C : Cx p s m args meth c yX10_bestLoot cX10_bestLoot 7 (some .int) Γ A) (hk : kd Γ o = some 10) (hf : bX10_bestLoot_107 r v1 v2 v3 v4 = some q) (hq : (KC (fun st : Int32 × Int32 => Wk p l e { frames := 2, cells := 0, slots := 0, locals := 43 } s m args below meth c Γ A (ug G o r) (some (.int fin)) 5 7 [(0, .ref (ad Γ o)), (1, .int v1), (2, .int v2), (3, .int st.1), (4, .int st.2)] [] (ug G o r)) (fun x => x = fin)) q) : Wk p l e { frames := 2, cells := 0, slots := 0, locals := 43 } s m args below meth c Γ A (ug G o r) (some (.int fin)) 107 7 [(0, .ref (ad Γ o)), (1, .int v1), (2, .int v2), (3, .int v3), (4, .int v4)] [] (ug G o r) := by
  intro H locs ls hw hS hl
  unfold bX10_bestLoot_107 at hf
  obtain ⟨hx, hb, hml, hr, hown, htw, hlocks, hE⟩ := id C
  have hown : s.vm.findClass RX10 = some m.cls := hown
  refine lv_iload_n hx hb dX10_bestLoot_107 rfl (lv_at hl 3 rfl) ?_
  exact wX10_bestLoot_108 C hk hf hq H locs ls hw hS (lv_sub hl [0, 1, 2, 4] rfl)

noncomputable def bX10_bestLoot_90 (r : Rec) (v1 : Int32) (v2 : Int32) (v3 : Int32) (v4 : Int32) (v5 : Int32) (s0 : Int32) : Option ((Int32 × Int32) ⊕ Int32) :=
  if v5 = 0 then bX10_bestLoot_107 r v1 v2 v3 v4 else if s0 = 0 then bX10_bestLoot_107 r v1 v2 v3 v4 else bX10_bestLoot_108 r v1 v2 v4 v4
set_option maxRecDepth 100000 in
set_option maxHeartbeats 4000000 in
theorem wX10_bestLoot_90 {p : Program} {l : Launch} {e : Env} {s : State} {m : MethodId} {args : Array Value} {below : List Frame} {meth : Method} {c : Code} {Γ : Gm} {A : Nat → Prop} {G : Gs} {o : Nat} {r : Rec} {v1 : Int32} {v2 : Int32} {v3 : Int32} {v4 : Int32} {v5 : Int32} {s0 : Int32} {q : ((Int32 × Int32) ⊕ Int32)} {fin : Int32} (C : Cx p s m args meth c yX10_bestLoot cX10_bestLoot 7 (some .int) Γ A) (hk : kd Γ o = some 10) (hf : bX10_bestLoot_90 r v1 v2 v3 v4 v5 s0 = some q) (hq : (KC (fun st : Int32 × Int32 => Wk p l e { frames := 2, cells := 0, slots := 0, locals := 43 } s m args below meth c Γ A (ug G o r) (some (.int fin)) 5 7 [(0, .ref (ad Γ o)), (1, .int v1), (2, .int v2), (3, .int st.1), (4, .int st.2)] [] (ug G o r)) (fun x => x = fin)) q) : Wk p l e { frames := 2, cells := 0, slots := 0, locals := 43 } s m args below meth c Γ A (ug G o r) (some (.int fin)) 90 7 [(0, .ref (ad Γ o)), (1, .int v1), (2, .int v2), (3, .int v3), (4, .int v4), (5, .int v5)] [.int s0] (ug G o r) := by
  intro H locs ls hw hS hl
  unfold bX10_bestLoot_90 at hf
  obtain ⟨hx, hb, hml, hr, hown, htw, hlocks, hE⟩ := id C
  have hown : s.vm.findClass RX10 = some m.cls := hown
  refine lv_istore (lv' := [(6, .int s0), (0, .ref (ad Γ o)), (1, .int v1), (2, .int v2), (3, .int v3), (4, .int v4), (5, .int v5)]) hx hb dX10_bestLoot_90 hl (by decide) rfl (fun ls hl => ?_)
  refine lv_iload hx hb dX10_bestLoot_92 (lv_at hl 6 rfl) ?_
  refine lv_if_eq (tgt := 107) hx hb dX10_bestLoot_94 (by decide) (fun c2 => ?_) (fun c2 => ?_)
  · have hf := ifp c2 hf
    exact wX10_bestLoot_107 C hk hf hq H locs ls hw hS (lv_sub hl [1, 2, 3, 4, 5] rfl)
  · have hf := ifn c2 hf
    refine lv_iload hx hb dX10_bestLoot_97 (lv_at hl 0 rfl) ?_
    refine lv_if_eq (tgt := 107) hx hb dX10_bestLoot_99 (by decide) (fun c1 => ?_) (fun c1 => ?_)
    · have hf := ifp c1 hf
      exact wX10_bestLoot_107 C hk hf hq H locs ls hw hS (lv_sub hl [1, 2, 3, 4, 5] rfl)
    · have hf := ifn c1 hf
      refine lv_iload hx hb dX10_bestLoot_102 (lv_at hl 5 rfl) ?_
      refine lv_goto (tgt := 108) hx hb dX10_bestLoot_104 (by decide) ?_
      exact wX10_bestLoot_108 C hk hf hq H locs ls hw hS (lv_sub hl [1, 2, 3, 5] rfl)

noncomputable def bX10_bestLoot_85 (r : Rec) (v1 : Int32) (v2 : Int32) (v3 : Int32) (v4 : Int32) (v5 : Int32) : Option ((Int32 × Int32) ⊕ Int32) :=
  bX10_bestLoot_90 r v1 v2 v3 v4 v5 1
set_option maxRecDepth 100000 in
set_option maxHeartbeats 4000000 in
theorem wX10_bestLoot_85 {p : Program} {l : Launch} {e : Env} {s : State} {m : MethodId} {args : Array Value} {below : List Frame} {meth : Method} {c : Code} {Γ : Gm} {A : Nat → Prop} {G : Gs} {o : Nat} {r : Rec} {v1 : Int32} {v2 : Int32} {v3 : Int32} {v4 : Int32} {v5 : Int32} {q : ((Int32 × Int32) ⊕ Int32)} {fin : Int32} (C : Cx p s m args meth c yX10_bestLoot cX10_bestLoot 7 (some .int) Γ A) (hk : kd Γ o = some 10) (hf : bX10_bestLoot_85 r v1 v2 v3 v4 v5 = some q) (hq : (KC (fun st : Int32 × Int32 => Wk p l e { frames := 2, cells := 0, slots := 0, locals := 43 } s m args below meth c Γ A (ug G o r) (some (.int fin)) 5 7 [(0, .ref (ad Γ o)), (1, .int v1), (2, .int v2), (3, .int st.1), (4, .int st.2)] [] (ug G o r)) (fun x => x = fin)) q) : Wk p l e { frames := 2, cells := 0, slots := 0, locals := 43 } s m args below meth c Γ A (ug G o r) (some (.int fin)) 85 7 [(0, .ref (ad Γ o)), (1, .int v1), (2, .int v2), (3, .int v3), (4, .int v4), (5, .int v5)] [] (ug G o r) := by
  intro H locs ls hw hS hl
  unfold bX10_bestLoot_85 at hf
  obtain ⟨hx, hb, hml, hr, hown, htw, hlocks, hE⟩ := id C
  have hown : s.vm.findClass RX10 = some m.cls := hown
  refine lv_iconst (v := 1) hx hb dX10_bestLoot_85 (by decide) ?_
  refine lv_goto (tgt := 90) hx hb dX10_bestLoot_86 (by decide) ?_
  exact wX10_bestLoot_90 C hk hf hq H locs ls hw hS hl

noncomputable def bX10_bestLoot_89 (r : Rec) (v1 : Int32) (v2 : Int32) (v3 : Int32) (v4 : Int32) (v5 : Int32) : Option ((Int32 × Int32) ⊕ Int32) :=
  bX10_bestLoot_90 r v1 v2 v3 v4 v5 0
set_option maxRecDepth 100000 in
set_option maxHeartbeats 4000000 in
theorem wX10_bestLoot_89 {p : Program} {l : Launch} {e : Env} {s : State} {m : MethodId} {args : Array Value} {below : List Frame} {meth : Method} {c : Code} {Γ : Gm} {A : Nat → Prop} {G : Gs} {o : Nat} {r : Rec} {v1 : Int32} {v2 : Int32} {v3 : Int32} {v4 : Int32} {v5 : Int32} {q : ((Int32 × Int32) ⊕ Int32)} {fin : Int32} (C : Cx p s m args meth c yX10_bestLoot cX10_bestLoot 7 (some .int) Γ A) (hk : kd Γ o = some 10) (hf : bX10_bestLoot_89 r v1 v2 v3 v4 v5 = some q) (hq : (KC (fun st : Int32 × Int32 => Wk p l e { frames := 2, cells := 0, slots := 0, locals := 43 } s m args below meth c Γ A (ug G o r) (some (.int fin)) 5 7 [(0, .ref (ad Γ o)), (1, .int v1), (2, .int v2), (3, .int st.1), (4, .int st.2)] [] (ug G o r)) (fun x => x = fin)) q) : Wk p l e { frames := 2, cells := 0, slots := 0, locals := 43 } s m args below meth c Γ A (ug G o r) (some (.int fin)) 89 7 [(0, .ref (ad Γ o)), (1, .int v1), (2, .int v2), (3, .int v3), (4, .int v4), (5, .int v5)] [] (ug G o r) := by
  intro H locs ls hw hS hl
  unfold bX10_bestLoot_89 at hf
  obtain ⟨hx, hb, hml, hr, hown, htw, hlocks, hE⟩ := id C
  have hown : s.vm.findClass RX10 = some m.cls := hown
  refine lv_iconst (v := 0) hx hb dX10_bestLoot_89 (by decide) ?_
  exact wX10_bestLoot_90 C hk hf hq H locs ls hw hS hl

noncomputable def bX10_bestLoot_39 (r : Rec) (v1 : Int32) (v2 : Int32) (v3 : Int32) (v4 : Int32) (s0 : Int32) : Option ((Int32 × Int32) ⊕ Int32) :=
  gd (inR v4 256) (gd (inR v3 256) (if (ga r 38 (Int32.toNatClampNeg v3)) < (ga r 38 (Int32.toNatClampNeg v4)) then bX10_bestLoot_85 r v1 v2 v3 v4 s0 else gd (inR v4 256) (gd (inR v3 256) (if (ga r 38 (Int32.toNatClampNeg v4)) = (ga r 38 (Int32.toNatClampNeg v3)) then (fX10_ones v4).bind fun z7 => (fX10_ones v3).bind fun z8 => if z8 ≤ z7 then bX10_bestLoot_89 r v1 v2 v3 v4 s0 else bX10_bestLoot_85 r v1 v2 v3 v4 s0 else bX10_bestLoot_89 r v1 v2 v3 v4 s0))))
set_option maxRecDepth 100000 in
set_option maxHeartbeats 4000000 in
theorem wX10_bestLoot_39 {p : Program} {l : Launch} {e : Env} {s : State} {m : MethodId} {args : Array Value} {below : List Frame} {meth : Method} {c : Code} {Γ : Gm} {A : Nat → Prop} {G : Gs} {o : Nat} {r : Rec} {v1 : Int32} {v2 : Int32} {v3 : Int32} {v4 : Int32} {s0 : Int32} {q : ((Int32 × Int32) ⊕ Int32)} {fin : Int32} (C : Cx p s m args meth c yX10_bestLoot cX10_bestLoot 7 (some .int) Γ A) (hk : kd Γ o = some 10) (hf : bX10_bestLoot_39 r v1 v2 v3 v4 s0 = some q) (hq : (KC (fun st : Int32 × Int32 => Wk p l e { frames := 2, cells := 0, slots := 0, locals := 43 } s m args below meth c Γ A (ug G o r) (some (.int fin)) 5 7 [(0, .ref (ad Γ o)), (1, .int v1), (2, .int v2), (3, .int st.1), (4, .int st.2)] [] (ug G o r)) (fun x => x = fin)) q) : Wk p l e { frames := 2, cells := 0, slots := 0, locals := 43 } s m args below meth c Γ A (ug G o r) (some (.int fin)) 39 7 [(0, .ref (ad Γ o)), (1, .int v1), (2, .int v2), (3, .int v3), (4, .int v4)] [.int s0] (ug G o r) := by
  intro H locs ls hw hS hl
  unfold bX10_bestLoot_39 at hf
  obtain ⟨hx, hb, hml, hr, hown, htw, hlocks, hE⟩ := id C
  have hown : s.vm.findClass RX10 = some m.cls := hown
  refine lv_istore (lv' := [(5, .int s0), (0, .ref (ad Γ o)), (1, .int v1), (2, .int v2), (3, .int v3), (4, .int v4)]) hx hb dX10_bestLoot_39 hl (by decide) rfl (fun ls hl => ?_)
  refine lv_aload_n hx hb dX10_bestLoot_41 rfl (lv_at hl 1 rfl) ?_
  refine va_get (ci := 10) (v := .ref (aa Γ o 38)) (C := RX10) (T := TX10) (N := 49) hx hb htw uwX10 hown hE.1 (wo_me hw hk) 0 rfl rfl 38 (by decide) (htw _ mw1281) (fun _ h9 => h9) rfl dX10_bestLoot_42 ?_
  refine lv_iload hx hb dX10_bestLoot_45 (lv_at hl 5 rfl) ?_
  obtain ⟨g3, hf⟩ := gd_some hf
  refine va_iald hx hb hE.1 (wo_me hw hk) 17 0 rfl rfl (inR_in g3) dX10_bestLoot_47 ?_
  refine lv_aload_n hx hb dX10_bestLoot_48 rfl (lv_at hl 1 rfl) ?_
  refine va_get (ci := 10) (v := .ref (aa Γ o 38)) (C := RX10) (T := TX10) (N := 49) hx hb htw uwX10 hown hE.1 (wo_me hw hk) 0 rfl rfl 38 (by decide) (htw _ mw1281) (fun _ h9 => h9) rfl dX10_bestLoot_49 ?_
  refine lv_iload_n hx hb dX10_bestLoot_52 rfl (lv_at hl 4 rfl) ?_
  obtain ⟨g4, hf⟩ := gd_some hf
  refine va_iald hx hb hE.1 (wo_me hw hk) 17 0 rfl rfl (inR_in g4) dX10_bestLoot_53 ?_
  refine lv_icmp_gt (tgt := 85) hx hb dX10_bestLoot_54 (by decide) (fun c11 => ?_) (fun c11 => ?_)
  · have hf := ifp c11 hf
    exact wX10_bestLoot_85 C hk hf hq H locs ls hw hS (lv_sub hl [1, 2, 3, 4, 5, 0] rfl)
  · have hf := ifn c11 hf
    refine lv_aload_n hx hb dX10_bestLoot_57 rfl (lv_at hl 1 rfl) ?_
    refine va_get (ci := 10) (v := .ref (aa Γ o 38)) (C := RX10) (T := TX10) (N := 49) hx hb htw uwX10 hown hE.1 (wo_me hw hk) 0 rfl rfl 38 (by decide) (htw _ mw1281) (fun _ h9 => h9) rfl dX10_bestLoot_58 ?_
    refine lv_iload hx hb dX10_bestLoot_61 (lv_at hl 5 rfl) ?_
    obtain ⟨g5, hf⟩ := gd_some hf
    refine va_iald hx hb hE.1 (wo_me hw hk) 17 0 rfl rfl (inR_in g5) dX10_bestLoot_63 ?_
    refine lv_aload_n hx hb dX10_bestLoot_64 rfl (lv_at hl 1 rfl) ?_
    refine va_get (ci := 10) (v := .ref (aa Γ o 38)) (C := RX10) (T := TX10) (N := 49) hx hb htw uwX10 hown hE.1 (wo_me hw hk) 0 rfl rfl 38 (by decide) (htw _ mw1281) (fun _ h9 => h9) rfl dX10_bestLoot_65 ?_
    refine lv_iload_n hx hb dX10_bestLoot_68 rfl (lv_at hl 4 rfl) ?_
    obtain ⟨g6, hf⟩ := gd_some hf
    refine va_iald hx hb hE.1 (wo_me hw hk) 17 0 rfl rfl (inR_in g6) dX10_bestLoot_69 ?_
    refine lv_icmp_ne (tgt := 89) hx hb dX10_bestLoot_70 (by decide) (fun c10 => ?_) (fun c10 => ?_)
    · have hf := ifn c10 hf
      exact wX10_bestLoot_89 C hk hf hq H locs ls hw hS (lv_sub hl [1, 2, 3, 4, 5, 0] rfl)
    · have hf := ifp c10 hf
      refine lv_iload hx hb dX10_bestLoot_73 (lv_at hl 5 rfl) ?_
      obtain ⟨z7, hz7, hf⟩ := bd hf
      refine cl_Ss (rest := []) (kX10_ones (l := l) (Γ := Γ) (A := A) (G := (ug G o r)) hz7) ⟨hx, hb, hml, hown, htw⟩ hE hw hS mw1716 mw1717 mw129 mw1718 pdX10_ones ⟨Nat.le_of_ble_eq_true rfl, Nat.le_of_ble_eq_true rfl⟩ rfl rfl hl.1 (Nat.le_of_ble_eq_true rfl) dX10_bestLoot_75 (fun H locs hw hS => ?_)
      refine lv_iload_n hx hb dX10_bestLoot_78 rfl (lv_at hl 4 rfl) ?_
      obtain ⟨z8, hz8, hf⟩ := bd hf
      refine cl_Ss (rest := [.int z7]) (kX10_ones (l := l) (Γ := Γ) (A := A) (G := (ug G o r)) hz8) ⟨hx, hb, hml, hown, htw⟩ hE hw hS mw1716 mw1717 mw129 mw1718 pdX10_ones ⟨Nat.le_of_ble_eq_true rfl, Nat.le_of_ble_eq_true rfl⟩ rfl rfl hl.1 (Nat.le_of_ble_eq_true rfl) dX10_bestLoot_79 (fun H locs hw hS => ?_)
      refine lv_icmp_ge (tgt := 89) hx hb dX10_bestLoot_82 (by decide) (fun c9 => ?_) (fun c9 => ?_)
      · have hf := ifp c9 hf
        exact wX10_bestLoot_89 C hk hf hq H locs ls hw hS (lv_sub hl [1, 2, 3, 4, 5, 0] rfl)
      · have hf := ifn c9 hf
        exact wX10_bestLoot_85 C hk hf hq H locs ls hw hS (lv_sub hl [1, 2, 3, 4, 5, 0] rfl)

noncomputable def bX10_bestLoot_38 (r : Rec) (v1 : Int32) (v2 : Int32) (v3 : Int32) (v4 : Int32) : Option ((Int32 × Int32) ⊕ Int32) :=
  bX10_bestLoot_39 r v1 v2 v3 v4 0
set_option maxRecDepth 100000 in
set_option maxHeartbeats 4000000 in
theorem wX10_bestLoot_38 {p : Program} {l : Launch} {e : Env} {s : State} {m : MethodId} {args : Array Value} {below : List Frame} {meth : Method} {c : Code} {Γ : Gm} {A : Nat → Prop} {G : Gs} {o : Nat} {r : Rec} {v1 : Int32} {v2 : Int32} {v3 : Int32} {v4 : Int32} {q : ((Int32 × Int32) ⊕ Int32)} {fin : Int32} (C : Cx p s m args meth c yX10_bestLoot cX10_bestLoot 7 (some .int) Γ A) (hk : kd Γ o = some 10) (hf : bX10_bestLoot_38 r v1 v2 v3 v4 = some q) (hq : (KC (fun st : Int32 × Int32 => Wk p l e { frames := 2, cells := 0, slots := 0, locals := 43 } s m args below meth c Γ A (ug G o r) (some (.int fin)) 5 7 [(0, .ref (ad Γ o)), (1, .int v1), (2, .int v2), (3, .int st.1), (4, .int st.2)] [] (ug G o r)) (fun x => x = fin)) q) : Wk p l e { frames := 2, cells := 0, slots := 0, locals := 43 } s m args below meth c Γ A (ug G o r) (some (.int fin)) 38 7 [(0, .ref (ad Γ o)), (1, .int v1), (2, .int v2), (3, .int v3), (4, .int v4)] [] (ug G o r) := by
  intro H locs ls hw hS hl
  unfold bX10_bestLoot_38 at hf
  obtain ⟨hx, hb, hml, hr, hown, htw, hlocks, hE⟩ := id C
  have hown : s.vm.findClass RX10 = some m.cls := hown
  refine lv_iconst (v := 0) hx hb dX10_bestLoot_38 (by decide) ?_
  exact wX10_bestLoot_39 C hk hf hq H locs ls hw hS hl

noncomputable def bX10_bestLoot_5 (r : Rec) (v1 : Int32) (v2 : Int32) (v3 : Int32) (v4 : Int32) : Option ((Int32 × Int32) ⊕ Int32) :=
  if ((1 : Int32) <<< ((gi r 26) &&& 31)) ≤ v4 then some (.inr (v3)) else if (v4 &&& (v1 ^^^ (-1))) = 0 then (fX10_ones v4).bind fun z12 => if v2 < z12 then bX10_bestLoot_38 r v1 v2 v3 v4 else bX10_bestLoot_39 r v1 v2 v3 v4 1 else bX10_bestLoot_38 r v1 v2 v3 v4
set_option maxRecDepth 100000 in
set_option maxHeartbeats 4000000 in
theorem wX10_bestLoot_5 {p : Program} {l : Launch} {e : Env} {s : State} {m : MethodId} {args : Array Value} {below : List Frame} {meth : Method} {c : Code} {Γ : Gm} {A : Nat → Prop} {G : Gs} {o : Nat} {r : Rec} {v1 : Int32} {v2 : Int32} {v3 : Int32} {v4 : Int32} {q : ((Int32 × Int32) ⊕ Int32)} {fin : Int32} (C : Cx p s m args meth c yX10_bestLoot cX10_bestLoot 7 (some .int) Γ A) (hk : kd Γ o = some 10) (hf : bX10_bestLoot_5 r v1 v2 v3 v4 = some q) (hq : (KC (fun st : Int32 × Int32 => Wk p l e { frames := 2, cells := 0, slots := 0, locals := 43 } s m args below meth c Γ A (ug G o r) (some (.int fin)) 5 7 [(0, .ref (ad Γ o)), (1, .int v1), (2, .int v2), (3, .int st.1), (4, .int st.2)] [] (ug G o r)) (fun x => x = fin)) q) : Wk p l e { frames := 2, cells := 0, slots := 0, locals := 43 } s m args below meth c Γ A (ug G o r) (some (.int fin)) 5 7 [(0, .ref (ad Γ o)), (1, .int v1), (2, .int v2), (3, .int v3), (4, .int v4)] [] (ug G o r) := by
  intro H locs ls hw hS hl
  unfold bX10_bestLoot_5 at hf
  obtain ⟨hx, hb, hml, hr, hown, htw, hlocks, hE⟩ := id C
  have hown : s.vm.findClass RX10 = some m.cls := hown
  refine lv_iload hx hb dX10_bestLoot_5 (lv_at hl 4 rfl) ?_
  refine lv_iconst (v := 1) hx hb dX10_bestLoot_7 (by decide) ?_
  refine lv_aload_n hx hb dX10_bestLoot_8 rfl (lv_at hl 0 rfl) ?_
  refine va_get (ci := 10) (v := .int (gi r 26)) (C := RX10) (T := TX10) (N := 49) hx hb htw uwX10 hown hE.1 (wo_me hw hk) 0 rfl rfl 26 (by decide) (htw _ mw1269) (fun _ h9 => h9) rfl dX10_bestLoot_9 ?_
  refine lv_ishl hx hb dX10_bestLoot_12 ?_
  refine lv_icmp_ge (tgt := 115) hx hb dX10_bestLoot_13 (by decide) (fun c15 => ?_) (fun c15 => ?_)
  · have hf := ifp c15 hf
    refine lv_iload_n hx hb dX10_bestLoot_115 rfl (lv_at hl 3 rfl) ?_
    obtain rfl := Option.some.inj hf
    have hq := hq.2 _ rfl
    subst hq
    exact rt_i C hw hS dX10_bestLoot_116
  · have hf := ifn c15 hf
    refine lv_iload hx hb dX10_bestLoot_16 (lv_at hl 4 rfl) ?_
    refine lv_iload_n hx hb dX10_bestLoot_18 rfl (lv_at hl 1 rfl) ?_
    refine lv_iconst (v := (-1)) hx hb dX10_bestLoot_19 (by decide) ?_
    refine lv_ixor hx hb dX10_bestLoot_20 ?_
    refine lv_iand hx hb dX10_bestLoot_21 ?_
    refine lv_if_ne (tgt := 38) hx hb dX10_bestLoot_22 (by decide) (fun c14 => ?_) (fun c14 => ?_)
    · have hf := ifn c14 hf
      exact wX10_bestLoot_38 C hk hf hq H locs ls hw hS hl
    · have hf := ifp c14 hf
      refine lv_iload hx hb dX10_bestLoot_25 (lv_at hl 4 rfl) ?_
      obtain ⟨z12, hz12, hf⟩ := bd hf
      refine cl_Ss (rest := []) (kX10_ones (l := l) (Γ := Γ) (A := A) (G := (ug G o r)) hz12) ⟨hx, hb, hml, hown, htw⟩ hE hw hS mw1716 mw1717 mw129 mw1718 pdX10_ones ⟨Nat.le_of_ble_eq_true rfl, Nat.le_of_ble_eq_true rfl⟩ rfl rfl hl.1 (Nat.le_of_ble_eq_true rfl) dX10_bestLoot_27 (fun H locs hw hS => ?_)
      refine lv_iload_n hx hb dX10_bestLoot_30 rfl (lv_at hl 2 rfl) ?_
      refine lv_icmp_gt (tgt := 38) hx hb dX10_bestLoot_31 (by decide) (fun c13 => ?_) (fun c13 => ?_)
      · have hf := ifp c13 hf
        exact wX10_bestLoot_38 C hk hf hq H locs ls hw hS hl
      · have hf := ifn c13 hf
        refine lv_iconst (v := 1) hx hb dX10_bestLoot_34 (by decide) ?_
        refine lv_goto (tgt := 39) hx hb dX10_bestLoot_35 (by decide) ?_
        exact wX10_bestLoot_39 C hk hf hq H locs ls hw hS hl

set_option maxRecDepth 100000 in
set_option maxHeartbeats 4000000 in
theorem lwX10_bestLoot_5 {p : Program} {l : Launch} {e : Env} {s : State} {m : MethodId} {args : Array Value} {below : List Frame} {meth : Method} {c : Code} {Γ : Gm} {A : Nat → Prop} {G : Gs} {o : Nat} {r : Rec} {v1 : Int32} {v2 : Int32} {v3 : Int32} {v4 : Int32} {q : Int32} {fin : Int32} (C : Cx p s m args meth c yX10_bestLoot cX10_bestLoot 7 (some .int) Γ A) (hk : kd Γ o = some 10) (hf : iter (fun st : Int32 × Int32 => bX10_bestLoot_5 r v1 v2 st.1 st.2) (v3, v4) = some q) (hq : (fun x => x = fin) q) : Wk p l e { frames := 2, cells := 0, slots := 0, locals := 43 } s m args below meth c Γ A (ug G o r) (some (.int fin)) 5 7 [(0, .ref (ad Γ o)), (1, .int v1), (2, .int v2), (3, .int v3), (4, .int v4)] [] (ug G o r) := by
  intro H locs ls hw hS hl
  refine iter_walk (P := (fun st : Int32 × Int32 => Wk p l e { frames := 2, cells := 0, slots := 0, locals := 43 } s m args below meth c Γ A (ug G o r) (some (.int fin)) 5 7 [(0, .ref (ad Γ o)), (1, .int v1), (2, .int v2), (3, .int st.1), (4, .int st.2)] [] (ug G o r))) (K := (fun x => x = fin)) (fun st q hq1 h1 h2 => ?_) hf hq H locs ls hw hS hl
  exact wX10_bestLoot_5 (v3 := st.1) (v4 := st.2) C hk hq1 ⟨h1, h2⟩

noncomputable def fX10_bestLoot (r : Rec) (v1 : Int32) (v2 : Int32) : Option Int32 :=
  iter (fun st : Int32 × Int32 => bX10_bestLoot_5 r v1 v2 st.1 st.2) (0, 1)
set_option maxRecDepth 100000 in
set_option maxHeartbeats 4000000 in
theorem wX10_bestLoot_e {p : Program} {l : Launch} {e : Env} {s : State} {m : MethodId} {args : Array Value} {below : List Frame} {meth : Method} {c : Code} {Γ : Gm} {A : Nat → Prop} {G : Gs} {o : Nat} {r : Rec} {v1 : Int32} {v2 : Int32} {q : Int32} {fin : Int32} (C : Cx p s m args meth c yX10_bestLoot cX10_bestLoot 7 (some .int) Γ A) (hk : kd Γ o = some 10) (hf : fX10_bestLoot r v1 v2 = some q) (hq : (fun x => x = fin) q) : Wk p l e { frames := 2, cells := 0, slots := 0, locals := 43 } s m args below meth c Γ A (ug G o r) (some (.int fin)) 0 7 [(0, .ref (ad Γ o)), (1, .int v1), (2, .int v2)] [] (ug G o r) := by
  intro H locs ls hw hS hl
  unfold fX10_bestLoot at hf
  obtain ⟨hx, hb, hml, hr, hown, htw, hlocks, hE⟩ := id C
  have hown : s.vm.findClass RX10 = some m.cls := hown
  refine lv_iconst (v := 0) hx hb dX10_bestLoot_0 (by decide) ?_
  refine lv_istore_n (lv' := [(3, .int 0), (0, .ref (ad Γ o)), (1, .int v1), (2, .int v2)]) hx hb dX10_bestLoot_1 rfl hl (by decide) rfl (fun ls hl => ?_)
  refine lv_iconst (v := 1) hx hb dX10_bestLoot_2 (by decide) ?_
  refine lv_istore (lv' := [(4, .int 1), (3, .int 0), (0, .ref (ad Γ o)), (1, .int v1), (2, .int v2)]) hx hb dX10_bestLoot_3 hl (by decide) rfl (fun ls hl => ?_)
  exact lwX10_bestLoot_5 C hk hf hq H locs ls hw hS (lv_sub hl [2, 3, 4, 1, 0] rfl)

theorem kX10_bestLoot {l : Launch} {Γ : Gm} {A : Nat → Prop} {G : Gs} {o : Nat} {r : Rec} {v1 : Int32} {v2 : Int32} {fin : Int32} (hk : kd Γ o = some 10) (hf : fX10_bestLoot r v1 v2 = some fin) : Kt l yX10_bestLoot cX10_bestLoot 7 (some .int) 2 43 Γ A (ug G o r) (ug G o r) [.ref (ad Γ o), .int v1, .int v2] (some (.int fin)) :=
  kt_of (by decide) (Nat.le_of_ble_eq_true rfl) (fun p e s m args below meth c C => wX10_bestLoot_e C hk hf rfl)
theorem kgX10_bestLoot {l : Launch} {Γ : Gm} {A : Nat → Prop} {G : Gs} {o : Nat} {v1 : Int32} {v2 : Int32} {fin : Int32} (hk : kd Γ o = some 10) (hf : fX10_bestLoot (G o) v1 v2 = some fin) : Kt l yX10_bestLoot cX10_bestLoot 7 (some .int) 2 43 Γ A G G [.ref (ad Γ o), .int v1, .int v2] (some (.int fin)) := by
  have h := kX10_bestLoot (l := l) (A := A) (G := G) (r := G o) hk hf
  rw [ug_self] at h
  exact h
noncomputable def fX10_theft (r : Rec) (v1 : Int32) (v2 : Int32) (v3 : Int32) : Option (Rec × Int32) :=
  (some (si r 0 0)).bind fun r1 => (fX10_in v2 0 8).bind fun z2 => if z2 = 0 then some ((r1, (-1))) else (fX10_hand r1 v1).bind fun z3 => if z3.2 = 0 then some ((z3.1, (-1))) else (fX10_findLoot z3.1).bind fun z4 => (fX10_bestLoot z4 (((1 : Int32) <<< ((gi z4 26) &&& 31)) - 1) v2).bind fun z5 => if v3 = 0 then gd (inR z5 256) (some ((z4, ga z4 38 (Int32.toNatClampNeg z5)))) else some ((z4, z5))
set_option maxRecDepth 100000 in
set_option maxHeartbeats 4000000 in
theorem wX10_theft_e {p : Program} {l : Launch} {e : Env} {s : State} {m : MethodId} {args : Array Value} {below : List Frame} {meth : Method} {c : Code} {Γ : Gm} {A : Nat → Prop} {G : Gs} {o : Nat} {r : Rec} {v1 : Int32} {v2 : Int32} {v3 : Int32} {q : (Rec × Int32)} {fin : Rec × Int32} (C : Cx p s m args meth c yX10_theft cX10_theft 5 (some .int) Γ A) (hk : kd Γ o = some 10) (hf : fX10_theft r v1 v2 v3 = some q) (hq : (fun x => x = fin) q) : Wk p l e { frames := 6, cells := 0, slots := 0, locals := 136 } s m args below meth c Γ A (ug G o fin.1) (some (.int fin.2)) 0 5 [(0, .ref (ad Γ o)), (1, .int v1), (2, .int v2), (3, .int v3)] [] (ug G o r) := by
  intro H locs ls hw hS hl
  unfold fX10_theft at hf
  obtain ⟨hx, hb, hml, hr, hown, htw, hlocks, hE⟩ := id C
  have hown : s.vm.findClass RX10 = some m.cls := hown
  refine lv_aload_n hx hb dX10_theft_0 rfl (lv_at hl 0 rfl) ?_
  refine lv_iconst (v := 0) hx hb dX10_theft_1 (by decide) ?_
  obtain ⟨r1, hr1, hf⟩ := bd hf
  have hr1 := Option.some.inj hr1
  refine wo_put (C := RX10) (T := TX10) (N := 49) (v := .int 0) (ty := .int) hx hb htw uwX10 tyX10 tyX10_ok nmX10 hown hE hw hS hk rfl rfl 0 (by decide) (htw _ mw1243) (fun _ h9 => h9) rfl (tyX10_ok 0 (by decide)) rfl rfl (Nat.le_of_ble_eq_true rfl) (st10_0 hr1) dX10_theft_2 (fun H locs hw hS => ?_)
  refine lv_iload_n hx hb dX10_theft_5 rfl (lv_at hl 2 rfl) ?_
  refine lv_iconst (v := 0) hx hb dX10_theft_6 (by decide) ?_
  refine lv_bipush (v := 8) hx hb dX10_theft_7 (by decide) ?_
  obtain ⟨z2, hz2, hf⟩ := bd hf
  refine cl_Ss (rest := []) (kX10_in (l := l) (Γ := Γ) (A := A) (G := (ug G o r1)) hz2) ⟨hx, hb, hml, hown, htw⟩ hE hw hS mw1404 mw1405 mw129 mw1406 pdX10_in ⟨Nat.le_of_ble_eq_true rfl, Nat.le_of_ble_eq_true rfl⟩ rfl rfl hl.1 (Nat.le_of_ble_eq_true rfl) dX10_theft_9 (fun H locs hw hS => ?_)
  refine lv_if_eq (tgt := 23) hx hb dX10_theft_12 (by decide) (fun c9 => ?_) (fun c9 => ?_)
  · have hf := ifp c9 hf
    refine lv_iconst (v := (-1)) hx hb dX10_theft_23 (by decide) ?_
    obtain rfl := Option.some.inj hf
    subst hq
    exact rt_i C hw hS dX10_theft_24
  · have hf := ifn c9 hf
    refine lv_aload_n hx hb dX10_theft_15 rfl (lv_at hl 0 rfl) ?_
    refine lv_iload_n hx hb dX10_theft_16 rfl (lv_at hl 1 rfl) ?_
    obtain ⟨z3, hz3, hf⟩ := bd hf
    refine cl_Vs (rest := []) (kX10_hand (l := l) (Γ := Γ) (A := A) (G := G) (o := o) hk hz3) ⟨hx, hb, hml, hown, htw⟩ hE hw hS (wo_me hw hk) (q0 := 0) rfl rfl mw1537 mw1539 mw65 mw129 mw1540 pdX10_hand ⟨Nat.le_of_ble_eq_true rfl, Nat.le_of_ble_eq_true rfl⟩ rfl rfl hl.1 (Nat.le_of_ble_eq_true rfl) dX10_theft_17 (fun H locs hw hS => ?_)
    refine lv_if_ne (tgt := 25) hx hb dX10_theft_20 (by decide) (fun c8 => ?_) (fun c8 => ?_)
    · have hf := ifn c8 hf
      refine lv_aload_n hx hb dX10_theft_25 rfl (lv_at hl 0 rfl) ?_
      obtain ⟨z4, hz4, hf⟩ := bd hf
      refine cl_Vv (rest := []) (kX10_findLoot (l := l) (Γ := Γ) (A := A) (G := G) (o := o) hk hz4) ⟨hx, hb, hml, hown, htw⟩ hE hw hS (wo_me hw hk) (q0 := 0) rfl rfl mw1723 mw1725 mw100 mw129 mw1726 pdX10_findLoot ⟨Nat.le_of_ble_eq_true rfl, Nat.le_of_ble_eq_true rfl⟩ rfl rfl hl.1 (Nat.le_of_ble_eq_true rfl) dX10_theft_26 (fun H locs hw hS => ?_)
      refine lv_aload_n hx hb dX10_theft_29 rfl (lv_at hl 0 rfl) ?_
      refine lv_iconst (v := 1) hx hb dX10_theft_30 (by decide) ?_
      refine lv_aload_n hx hb dX10_theft_31 rfl (lv_at hl 0 rfl) ?_
      refine va_get (ci := 10) (v := .int (gi z4 26)) (C := RX10) (T := TX10) (N := 49) hx hb htw uwX10 hown hE.1 (wo_me hw hk) 0 rfl rfl 26 (by decide) (htw _ mw1269) (fun _ h9 => h9) rfl dX10_theft_32 ?_
      refine lv_ishl hx hb dX10_theft_35 ?_
      refine lv_iconst (v := 1) hx hb dX10_theft_36 (by decide) ?_
      refine lv_isub hx hb dX10_theft_37 ?_
      refine lv_iload_n hx hb dX10_theft_38 rfl (lv_at hl 2 rfl) ?_
      obtain ⟨z5, hz5, hf⟩ := bd hf
      refine cl_Vs (rest := []) (kX10_bestLoot (l := l) (Γ := Γ) (A := A) (G := G) (o := o) hk hz5) ⟨hx, hb, hml, hown, htw⟩ hE hw hS (wo_me hw hk) (q0 := 0) rfl rfl mw1731 mw1733 mw102 mw129 mw1734 pdX10_bestLoot ⟨Nat.le_of_ble_eq_true rfl, Nat.le_of_ble_eq_true rfl⟩ rfl rfl hl.1 (Nat.le_of_ble_eq_true rfl) dX10_theft_39 (fun H locs hw hS => ?_)
      refine lv_istore (lv' := [(4, .int z5), (0, .ref (ad Γ o)), (1, .int v1), (2, .int v2), (3, .int v3)]) hx hb dX10_theft_42 hl (by decide) rfl (fun ls hl => ?_)
      refine lv_iload_n hx hb dX10_theft_44 rfl (lv_at hl 4 rfl) ?_
      refine lv_if_eq (tgt := 53) hx hb dX10_theft_45 (by decide) (fun c7 => ?_) (fun c7 => ?_)
      · have hf := ifp c7 hf
        refine lv_aload_n hx hb dX10_theft_53 rfl (lv_at hl 1 rfl) ?_
        refine va_get (ci := 10) (v := .ref (aa Γ o 38)) (C := RX10) (T := TX10) (N := 49) hx hb htw uwX10 hown hE.1 (wo_me hw hk) 0 rfl rfl 38 (by decide) (htw _ mw1281) (fun _ h9 => h9) rfl dX10_theft_54 ?_
        refine lv_iload hx hb dX10_theft_57 (lv_at hl 0 rfl) ?_
        obtain ⟨g6, hf⟩ := gd_some hf
        refine va_iald hx hb hE.1 (wo_me hw hk) 17 0 rfl rfl (inR_in g6) dX10_theft_59 ?_
        obtain rfl := Option.some.inj hf
        subst hq
        exact rt_i C hw hS dX10_theft_60
      · have hf := ifn c7 hf
        refine lv_iload hx hb dX10_theft_48 (lv_at hl 0 rfl) ?_
        refine lv_goto (tgt := 60) hx hb dX10_theft_50 (by decide) ?_
        obtain rfl := Option.some.inj hf
        subst hq
        exact rt_i C hw hS dX10_theft_60
    · have hf := ifp c8 hf
      refine lv_iconst (v := (-1)) hx hb dX10_theft_23 (by decide) ?_
      obtain rfl := Option.some.inj hf
      subst hq
      exact rt_i C hw hS dX10_theft_24

theorem kX10_theft {l : Launch} {Γ : Gm} {A : Nat → Prop} {G : Gs} {o : Nat} {r : Rec} {v1 : Int32} {v2 : Int32} {v3 : Int32} {fin : Rec × Int32} (hk : kd Γ o = some 10) (hf : fX10_theft r v1 v2 v3 = some fin) : Kt l yX10_theft cX10_theft 5 (some .int) 6 136 Γ A (ug G o r) (ug G o fin.1) [.ref (ad Γ o), .int v1, .int v2, .int v3] (some (.int fin.2)) :=
  kt_of (by decide) (Nat.le_of_ble_eq_true rfl) (fun p e s m args below meth c C => wX10_theft_e C hk hf rfl)
theorem kgX10_theft {l : Launch} {Γ : Gm} {A : Nat → Prop} {G : Gs} {o : Nat} {v1 : Int32} {v2 : Int32} {v3 : Int32} {fin : Rec × Int32} (hk : kd Γ o = some 10) (hf : fX10_theft (G o) v1 v2 v3 = some fin) : Kt l yX10_theft cX10_theft 5 (some .int) 6 136 Γ A G (ug G o fin.1) [.ref (ad Γ o), .int v1, .int v2, .int v3] (some (.int fin.2)) := by
  have h := kX10_theft (l := l) (A := A) (G := G) (r := G o) hk hf
  rw [ug_self] at h
  exact h
noncomputable def bX10_fill_235 (r : Rec) (v1 : Int32) : Option (Rec × Int32) :=
  gd (inR v1 1024) (some ((r, ga r 39 (Int32.toNatClampNeg v1))))
set_option maxRecDepth 100000 in
set_option maxHeartbeats 4000000 in
theorem wX10_fill_235 {p : Program} {l : Launch} {e : Env} {s : State} {m : MethodId} {args : Array Value} {below : List Frame} {meth : Method} {c : Code} {Γ : Gm} {A : Nat → Prop} {G : Gs} {o : Nat} {r : Rec} {v1 : Int32} {q : (Rec × Int32)} {fin : Rec × Int32} (C : Cx p s m args meth c yX10_fill cX10_fill 8 (some .int) Γ A) (hk : kd Γ o = some 10) (hf : bX10_fill_235 r v1 = some q) (hq : (fun x => x = fin) q) : Wk p l e { frames := 1, cells := 0, slots := 0, locals := 21 } s m args below meth c Γ A (ug G o fin.1) (some (.int fin.2)) 235 8 [(0, .ref (ad Γ o)), (1, .int v1)] [] (ug G o r) := by
  intro H locs ls hw hS hl
  unfold bX10_fill_235 at hf
  obtain ⟨hx, hb, hml, hr, hown, htw, hlocks, hE⟩ := id C
  have hown : s.vm.findClass RX10 = some m.cls := hown
  refine lv_aload_n hx hb dX10_fill_235 rfl (lv_at hl 0 rfl) ?_
  refine va_get (ci := 10) (v := .ref (aa Γ o 39)) (C := RX10) (T := TX10) (N := 49) hx hb htw uwX10 hown hE.1 (wo_me hw hk) 0 rfl rfl 39 (by decide) (htw _ mw1282) (fun _ h9 => h9) rfl dX10_fill_236 ?_
  refine lv_iload_n hx hb dX10_fill_239 rfl (lv_at hl 1 rfl) ?_
  obtain ⟨g1, hf⟩ := gd_some hf
  refine va_iald hx hb hE.1 (wo_me hw hk) 18 0 rfl rfl (inR_in g1) dX10_fill_240 ?_
  obtain rfl := Option.some.inj hf
  subst hq
  exact rt_i C hw hS dX10_fill_241

noncomputable def bX10_fill_229 (r : Rec) (v1 : Int32) (v2 : Int32) (v3 : Int32) : Option ((Int32 × Rec) ⊕ (Rec × Int32)) :=
  some (.inl (v3 + 1, r))
set_option maxRecDepth 100000 in
set_option maxHeartbeats 4000000 in
theorem wX10_fill_229 {p : Program} {l : Launch} {e : Env} {s : State} {m : MethodId} {args : Array Value} {below : List Frame} {meth : Method} {c : Code} {Γ : Gm} {A : Nat → Prop} {G : Gs} {o : Nat} {r : Rec} {v1 : Int32} {v2 : Int32} {v3 : Int32} {q : ((Int32 × Rec) ⊕ (Rec × Int32))} {fin : Rec × Int32} (C : Cx p s m args meth c yX10_fill cX10_fill 8 (some .int) Γ A) (hk : kd Γ o = some 10) (hf : bX10_fill_229 r v1 v2 v3 = some q) (hq : (KC (fun st : Int32 × Rec => Wk p l e { frames := 1, cells := 0, slots := 0, locals := 21 } s m args below meth c Γ A (ug G o fin.1) (some (.int fin.2)) 37 8 [(0, .ref (ad Γ o)), (1, .int v1), (2, .int v2), (3, .int st.1)] [] (ug G o st.2)) (fun x => x = fin)) q) : Wk p l e { frames := 1, cells := 0, slots := 0, locals := 21 } s m args below meth c Γ A (ug G o fin.1) (some (.int fin.2)) 229 8 [(0, .ref (ad Γ o)), (1, .int v1), (2, .int v2), (3, .int v3)] [] (ug G o r) := by
  intro H locs ls hw hS hl
  unfold bX10_fill_229 at hf
  obtain ⟨hx, hb, hml, hr, hown, htw, hlocks, hE⟩ := id C
  have hown : s.vm.findClass RX10 = some m.cls := hown
  refine lv_iinc (v := v3 + 1) (lv' := [(3, .int (v3 + 1)), (0, .ref (ad Γ o)), (1, .int v1), (2, .int v2)]) hx hb dX10_fill_229 hl (k := 3) rfl (by rfl) (by decide) rfl (fun ls hl => ?_)
  refine lv_goto (tgt := 37) hx hb dX10_fill_232 (by decide) ?_
  obtain rfl := Option.some.inj hf
  exact hq.1 _ rfl H locs ls hw hS (lv_sub hl [1, 2, 3, 0] rfl)

noncomputable def bX10_fill_223 (r : Rec) (v1 : Int32) (v2 : Int32) (v3 : Int32) (v4 : Int32) : Option ((Int32 × Rec) ⊕ ((Int32 × Rec) ⊕ (Rec × Int32))) :=
  some (.inl (v4 + 1, r))
set_option maxRecDepth 100000 in
set_option maxHeartbeats 4000000 in
theorem wX10_fill_223 {p : Program} {l : Launch} {e : Env} {s : State} {m : MethodId} {args : Array Value} {below : List Frame} {meth : Method} {c : Code} {Γ : Gm} {A : Nat → Prop} {G : Gs} {o : Nat} {r : Rec} {v1 : Int32} {v2 : Int32} {v3 : Int32} {v4 : Int32} {q : ((Int32 × Rec) ⊕ ((Int32 × Rec) ⊕ (Rec × Int32)))} {fin : Rec × Int32} (C : Cx p s m args meth c yX10_fill cX10_fill 8 (some .int) Γ A) (hk : kd Γ o = some 10) (hf : bX10_fill_223 r v1 v2 v3 v4 = some q) (hq : (KC (fun st : Int32 × Rec => Wk p l e { frames := 1, cells := 0, slots := 0, locals := 21 } s m args below meth c Γ A (ug G o fin.1) (some (.int fin.2)) 45 8 [(0, .ref (ad Γ o)), (1, .int v1), (2, .int v2), (3, .int v3), (4, .int st.1)] [] (ug G o st.2)) (KC (fun st : Int32 × Rec => Wk p l e { frames := 1, cells := 0, slots := 0, locals := 21 } s m args below meth c Γ A (ug G o fin.1) (some (.int fin.2)) 37 8 [(0, .ref (ad Γ o)), (1, .int v1), (2, .int v2), (3, .int st.1)] [] (ug G o st.2)) (fun x => x = fin))) q) : Wk p l e { frames := 1, cells := 0, slots := 0, locals := 21 } s m args below meth c Γ A (ug G o fin.1) (some (.int fin.2)) 223 8 [(0, .ref (ad Γ o)), (1, .int v1), (2, .int v2), (3, .int v3), (4, .int v4)] [] (ug G o r) := by
  intro H locs ls hw hS hl
  unfold bX10_fill_223 at hf
  obtain ⟨hx, hb, hml, hr, hown, htw, hlocks, hE⟩ := id C
  have hown : s.vm.findClass RX10 = some m.cls := hown
  refine lv_iinc (v := v4 + 1) (lv' := [(4, .int (v4 + 1)), (0, .ref (ad Γ o)), (1, .int v1), (2, .int v2), (3, .int v3)]) hx hb dX10_fill_223 hl (k := 4) rfl (by rfl) (by decide) rfl (fun ls hl => ?_)
  refine lv_goto (tgt := 45) hx hb dX10_fill_226 (by decide) ?_
  obtain rfl := Option.some.inj hf
  exact hq.1 _ rfl H locs ls hw hS (lv_sub hl [1, 2, 3, 4, 0] rfl)

noncomputable def bX10_fill_194 (r : Rec) (v1 : Int32) (v2 : Int32) (v3 : Int32) (v4 : Int32) (s0 : Int32) : Option ((Int32 × Rec) ⊕ ((Int32 × Rec) ⊕ (Rec × Int32))) :=
  (some (v3 ||| ((1 : Int32) <<< (v4 &&& 31)))).bind fun x2 => gd (inR x2 1024) ((fX10_lesser (ga r 39 (Int32.toNatClampNeg x2)) s0).bind fun z4 => (some (v3 ||| ((1 : Int32) <<< (v4 &&& 31)))).bind fun x5 => gd (inR x5 1024) ((some (sa r 39 (upd (ga r 39) (Int32.toNatClampNeg x5) z4))).bind fun r7 => bX10_fill_223 r7 v1 v2 v3 v4))
set_option maxRecDepth 100000 in
set_option maxHeartbeats 4000000 in
theorem wX10_fill_194 {p : Program} {l : Launch} {e : Env} {s : State} {m : MethodId} {args : Array Value} {below : List Frame} {meth : Method} {c : Code} {Γ : Gm} {A : Nat → Prop} {G : Gs} {o : Nat} {r : Rec} {v1 : Int32} {v2 : Int32} {v3 : Int32} {v4 : Int32} {s0 : Int32} {q : ((Int32 × Rec) ⊕ ((Int32 × Rec) ⊕ (Rec × Int32)))} {fin : Rec × Int32} (C : Cx p s m args meth c yX10_fill cX10_fill 8 (some .int) Γ A) (hk : kd Γ o = some 10) (hf : bX10_fill_194 r v1 v2 v3 v4 s0 = some q) (hq : (KC (fun st : Int32 × Rec => Wk p l e { frames := 1, cells := 0, slots := 0, locals := 21 } s m args below meth c Γ A (ug G o fin.1) (some (.int fin.2)) 45 8 [(0, .ref (ad Γ o)), (1, .int v1), (2, .int v2), (3, .int v3), (4, .int st.1)] [] (ug G o st.2)) (KC (fun st : Int32 × Rec => Wk p l e { frames := 1, cells := 0, slots := 0, locals := 21 } s m args below meth c Γ A (ug G o fin.1) (some (.int fin.2)) 37 8 [(0, .ref (ad Γ o)), (1, .int v1), (2, .int v2), (3, .int st.1)] [] (ug G o st.2)) (fun x => x = fin))) q) : Wk p l e { frames := 1, cells := 0, slots := 0, locals := 21 } s m args below meth c Γ A (ug G o fin.1) (some (.int fin.2)) 194 8 [(0, .ref (ad Γ o)), (1, .int v1), (2, .int v2), (3, .int v3), (4, .int v4)] [.int s0] (ug G o r) := by
  intro H locs ls hw hS hl
  unfold bX10_fill_194 at hf
  obtain ⟨hx, hb, hml, hr, hown, htw, hlocks, hE⟩ := id C
  have hown : s.vm.findClass RX10 = some m.cls := hown
  refine lv_istore (lv' := [(7, .int s0), (0, .ref (ad Γ o)), (1, .int v1), (2, .int v2), (3, .int v3), (4, .int v4)]) hx hb dX10_fill_194 hl (by decide) rfl (fun ls hl => ?_)
  refine lv_aload_n hx hb dX10_fill_196 rfl (lv_at hl 1 rfl) ?_
  refine va_get (ci := 10) (v := .ref (aa Γ o 39)) (C := RX10) (T := TX10) (N := 49) hx hb htw uwX10 hown hE.1 (wo_me hw hk) 0 rfl rfl 39 (by decide) (htw _ mw1282) (fun _ h9 => h9) rfl dX10_fill_197 ?_
  refine lv_iload_n hx hb dX10_fill_200 rfl (lv_at hl 4 rfl) ?_
  refine lv_iconst (v := 1) hx hb dX10_fill_201 (by decide) ?_
  refine lv_iload hx hb dX10_fill_202 (lv_at hl 5 rfl) ?_
  refine lv_ishl hx hb dX10_fill_204 ?_
  refine lv_ior hx hb dX10_fill_205 ?_
  refine lv_aload_n hx hb dX10_fill_206 rfl (lv_at hl 1 rfl) ?_
  refine va_get (ci := 10) (v := .ref (aa Γ o 39)) (C := RX10) (T := TX10) (N := 49) hx hb htw uwX10 hown hE.1 (wo_me hw hk) 0 rfl rfl 39 (by decide) (htw _ mw1282) (fun _ h9 => h9) rfl dX10_fill_207 ?_
  refine lv_iload_n hx hb dX10_fill_210 rfl (lv_at hl 4 rfl) ?_
  refine lv_iconst (v := 1) hx hb dX10_fill_211 (by decide) ?_
  refine lv_iload hx hb dX10_fill_212 (lv_at hl 5 rfl) ?_
  refine lv_ishl hx hb dX10_fill_214 ?_
  refine lv_ior hx hb dX10_fill_215 ?_
  obtain ⟨x2, hx2, hf⟩ := bd hf
  have hx2 := Option.some.inj hx2
  refine tp1i hx2 ?_
  obtain ⟨g3, hf⟩ := gd_some hf
  refine va_iald hx hb hE.1 (wo_me hw hk) 18 0 rfl rfl (inR_in g3) dX10_fill_216 ?_
  refine lv_iload hx hb dX10_fill_217 (lv_at hl 0 rfl) ?_
  obtain ⟨z4, hz4, hf⟩ := bd hf
  refine cl_Ss (rest := [.int (v3 ||| ((1 : Int32) <<< (v4 &&& 31))), .ref (aa Γ o 39)]) (kX10_lesser (l := l) (Γ := Γ) (A := A) (G := (ug G o r)) hz4) ⟨hx, hb, hml, hown, htw⟩ hE hw hS mw1681 mw1682 mw129 mw1683 pdX10_lesser ⟨Nat.le_of_ble_eq_true rfl, Nat.le_of_ble_eq_true rfl⟩ rfl rfl hl.1 (Nat.le_of_ble_eq_true rfl) dX10_fill_219 (fun H locs hw hS => ?_)
  obtain ⟨x5, hx5, hf⟩ := bd hf
  have hx5 := Option.some.inj hx5
  refine tp2i hx5 ?_
  obtain ⟨g6, hf⟩ := gd_some hf
  obtain ⟨r7, hr7, hf⟩ := bd hf
  have hr7 := Option.some.inj hr7
  refine wo_iast hx hb hE hw hS hk (q0 := 18) rfl (inR_in g6) (sa10_39 hr7) dX10_fill_222 (fun H locs hw hS => ?_)
  exact wX10_fill_223 C hk hf hq H locs ls hw hS (lv_sub hl [1, 2, 3, 4, 5] rfl)

noncomputable def bX10_fill_163 (r : Rec) (v1 : Int32) (v2 : Int32) (v3 : Int32) (v4 : Int32) (v5 : Int32) (v6 : Int32) : Option ((Int32 × Rec) ⊕ ((Int32 × Rec) ⊕ (Rec × Int32))) :=
  if 10 ≤ v5 then bX10_fill_194 r v1 v2 v3 v4 1000000 else (fX10_of r (37 + v4)).bind fun z8 => bX10_fill_194 r v1 v2 v3 v4 (((100 * v5) + v6) + z8)
set_option maxRecDepth 100000 in
set_option maxHeartbeats 4000000 in
theorem wX10_fill_163 {p : Program} {l : Launch} {e : Env} {s : State} {m : MethodId} {args : Array Value} {below : List Frame} {meth : Method} {c : Code} {Γ : Gm} {A : Nat → Prop} {G : Gs} {o : Nat} {r : Rec} {v1 : Int32} {v2 : Int32} {v3 : Int32} {v4 : Int32} {v5 : Int32} {v6 : Int32} {q : ((Int32 × Rec) ⊕ ((Int32 × Rec) ⊕ (Rec × Int32)))} {fin : Rec × Int32} (C : Cx p s m args meth c yX10_fill cX10_fill 8 (some .int) Γ A) (hk : kd Γ o = some 10) (hf : bX10_fill_163 r v1 v2 v3 v4 v5 v6 = some q) (hq : (KC (fun st : Int32 × Rec => Wk p l e { frames := 1, cells := 0, slots := 0, locals := 21 } s m args below meth c Γ A (ug G o fin.1) (some (.int fin.2)) 45 8 [(0, .ref (ad Γ o)), (1, .int v1), (2, .int v2), (3, .int v3), (4, .int st.1)] [] (ug G o st.2)) (KC (fun st : Int32 × Rec => Wk p l e { frames := 1, cells := 0, slots := 0, locals := 21 } s m args below meth c Γ A (ug G o fin.1) (some (.int fin.2)) 37 8 [(0, .ref (ad Γ o)), (1, .int v1), (2, .int v2), (3, .int st.1)] [] (ug G o st.2)) (fun x => x = fin))) q) : Wk p l e { frames := 1, cells := 0, slots := 0, locals := 21 } s m args below meth c Γ A (ug G o fin.1) (some (.int fin.2)) 163 8 [(0, .ref (ad Γ o)), (1, .int v1), (2, .int v2), (3, .int v3), (4, .int v4), (5, .int v5), (6, .int v6)] [] (ug G o r) := by
  intro H locs ls hw hS hl
  unfold bX10_fill_163 at hf
  obtain ⟨hx, hb, hml, hr, hown, htw, hlocks, hE⟩ := id C
  have hown : s.vm.findClass RX10 = some m.cls := hown
  refine lv_iload hx hb dX10_fill_163 (lv_at hl 5 rfl) ?_
  refine lv_bipush (v := 10) hx hb dX10_fill_165 (by decide) ?_
  refine lv_icmp_ge (tgt := 191) hx hb dX10_fill_167 (by decide) (fun c9 => ?_) (fun c9 => ?_)
  · have hf := ifp c9 hf
    refine lv_ldcw hx hb hown (htw _ mw1676) dX10_fill_191 ?_
    exact wX10_fill_194 C hk hf hq H locs ls hw hS (lv_sub hl [0, 1, 2, 3, 4] rfl)
  · have hf := ifn c9 hf
    refine lv_bipush (v := 100) hx hb dX10_fill_170 (by decide) ?_
    refine lv_iload hx hb dX10_fill_172 (lv_at hl 5 rfl) ?_
    refine lv_imul hx hb dX10_fill_174 ?_
    refine lv_iload hx hb dX10_fill_175 (lv_at hl 6 rfl) ?_
    refine lv_iadd hx hb dX10_fill_177 ?_
    refine lv_aload_n hx hb dX10_fill_178 rfl (lv_at hl 0 rfl) ?_
    refine lv_bipush (v := 37) hx hb dX10_fill_179 (by decide) ?_
    refine lv_iload hx hb dX10_fill_181 (lv_at hl 4 rfl) ?_
    refine lv_iadd hx hb dX10_fill_183 ?_
    obtain ⟨z8, hz8, hf⟩ := bd hf
    refine cl_Vs (rest := [.int ((100 * v5) + v6)]) (kX10_of (l := l) (Γ := Γ) (A := A) (G := G) (o := o) hk hz8) ⟨hx, hb, hml, hown, htw⟩ hE hw hS (wo_me hw hk) (q0 := 0) rfl rfl mw1541 mw1543 mw66 mw129 mw1544 pdX10_of ⟨Nat.le_of_ble_eq_true rfl, Nat.le_of_ble_eq_true rfl⟩ rfl rfl hl.1 (Nat.le_of_ble_eq_true rfl) dX10_fill_184 (fun H locs hw hS => ?_)
    refine lv_iadd hx hb dX10_fill_187 ?_
    refine lv_goto (tgt := 194) hx hb dX10_fill_188 (by decide) ?_
    exact wX10_fill_194 C hk hf hq H locs ls hw hS (lv_sub hl [0, 1, 2, 3, 4] rfl)

noncomputable def bX10_fill_158 (r : Rec) (v1 : Int32) (v2 : Int32) (v3 : Int32) (v4 : Int32) (v5 : Int32) (s0 : Int32) : Option ((Int32 × Int32) ⊕ ((Int32 × Rec) ⊕ ((Int32 × Rec) ⊕ (Rec × Int32)))) :=
  some (.inl (v5, s0))
set_option maxRecDepth 100000 in
set_option maxHeartbeats 4000000 in
theorem wX10_fill_158 {p : Program} {l : Launch} {e : Env} {s : State} {m : MethodId} {args : Array Value} {below : List Frame} {meth : Method} {c : Code} {Γ : Gm} {A : Nat → Prop} {G : Gs} {o : Nat} {r : Rec} {v1 : Int32} {v2 : Int32} {v3 : Int32} {v4 : Int32} {v5 : Int32} {s0 : Int32} {q : ((Int32 × Int32) ⊕ ((Int32 × Rec) ⊕ ((Int32 × Rec) ⊕ (Rec × Int32))))} {fin : Rec × Int32} (C : Cx p s m args meth c yX10_fill cX10_fill 8 (some .int) Γ A) (hk : kd Γ o = some 10) (hf : bX10_fill_158 r v1 v2 v3 v4 v5 s0 = some q) (hq : (KC (fun st : Int32 × Int32 => Wk p l e { frames := 1, cells := 0, slots := 0, locals := 21 } s m args below meth c Γ A (ug G o fin.1) (some (.int fin.2)) 114 8 [(0, .ref (ad Γ o)), (1, .int v1), (2, .int v2), (3, .int v3), (4, .int v4), (5, .int st.1), (6, .int st.2)] [] (ug G o r)) (KC (fun st : Int32 × Rec => Wk p l e { frames := 1, cells := 0, slots := 0, locals := 21 } s m args below meth c Γ A (ug G o fin.1) (some (.int fin.2)) 45 8 [(0, .ref (ad Γ o)), (1, .int v1), (2, .int v2), (3, .int v3), (4, .int st.1)] [] (ug G o st.2)) (KC (fun st : Int32 × Rec => Wk p l e { frames := 1, cells := 0, slots := 0, locals := 21 } s m args below meth c Γ A (ug G o fin.1) (some (.int fin.2)) 37 8 [(0, .ref (ad Γ o)), (1, .int v1), (2, .int v2), (3, .int st.1)] [] (ug G o st.2)) (fun x => x = fin)))) q) : Wk p l e { frames := 1, cells := 0, slots := 0, locals := 21 } s m args below meth c Γ A (ug G o fin.1) (some (.int fin.2)) 158 8 [(0, .ref (ad Γ o)), (1, .int v1), (2, .int v2), (3, .int v3), (4, .int v4), (5, .int v5)] [.int s0] (ug G o r) := by
  intro H locs ls hw hS hl
  unfold bX10_fill_158 at hf
  obtain ⟨hx, hb, hml, hr, hown, htw, hlocks, hE⟩ := id C
  have hown : s.vm.findClass RX10 = some m.cls := hown
  refine lv_istore (lv' := [(6, .int s0), (0, .ref (ad Γ o)), (1, .int v1), (2, .int v2), (3, .int v3), (4, .int v4), (5, .int v5)]) hx hb dX10_fill_158 hl (by decide) rfl (fun ls hl => ?_)
  refine lv_goto (tgt := 114) hx hb dX10_fill_160 (by decide) ?_
  obtain rfl := Option.some.inj hf
  exact hq.1 _ rfl H locs ls hw hS (lv_sub hl [1, 2, 3, 4, 5, 6, 0] rfl)

noncomputable def bX10_fill_114 (r : Rec) (v1 : Int32) (v2 : Int32) (v3 : Int32) (v4 : Int32) (v5 : Int32) (v6 : Int32) : Option ((Int32 × Int32) ⊕ ((Int32 × Rec) ⊕ ((Int32 × Rec) ⊕ (Rec × Int32)))) :=
  if 10 ≤ v5 then out1 (bX10_fill_163 r v1 v2 v3 v4 v5 v6) else (fX10_of r (37 + v4)).bind fun z11 => if (v6 + z11) ≤ v2 then out1 (bX10_fill_163 r v1 v2 v3 v4 v5 v6) else if 10 ≤ (v5 + 1) then bX10_fill_158 r v1 v2 v3 v4 (v5 + 1) 0 else gd (inR (v5 + 1) 10) (bX10_fill_158 r v1 v2 v3 v4 (v5 + 1) (ga r 40 (Int32.toNatClampNeg (v5 + 1))))
set_option maxRecDepth 100000 in
set_option maxHeartbeats 4000000 in
theorem wX10_fill_114 {p : Program} {l : Launch} {e : Env} {s : State} {m : MethodId} {args : Array Value} {below : List Frame} {meth : Method} {c : Code} {Γ : Gm} {A : Nat → Prop} {G : Gs} {o : Nat} {r : Rec} {v1 : Int32} {v2 : Int32} {v3 : Int32} {v4 : Int32} {v5 : Int32} {v6 : Int32} {q : ((Int32 × Int32) ⊕ ((Int32 × Rec) ⊕ ((Int32 × Rec) ⊕ (Rec × Int32))))} {fin : Rec × Int32} (C : Cx p s m args meth c yX10_fill cX10_fill 8 (some .int) Γ A) (hk : kd Γ o = some 10) (hf : bX10_fill_114 r v1 v2 v3 v4 v5 v6 = some q) (hq : (KC (fun st : Int32 × Int32 => Wk p l e { frames := 1, cells := 0, slots := 0, locals := 21 } s m args below meth c Γ A (ug G o fin.1) (some (.int fin.2)) 114 8 [(0, .ref (ad Γ o)), (1, .int v1), (2, .int v2), (3, .int v3), (4, .int v4), (5, .int st.1), (6, .int st.2)] [] (ug G o r)) (KC (fun st : Int32 × Rec => Wk p l e { frames := 1, cells := 0, slots := 0, locals := 21 } s m args below meth c Γ A (ug G o fin.1) (some (.int fin.2)) 45 8 [(0, .ref (ad Γ o)), (1, .int v1), (2, .int v2), (3, .int v3), (4, .int st.1)] [] (ug G o st.2)) (KC (fun st : Int32 × Rec => Wk p l e { frames := 1, cells := 0, slots := 0, locals := 21 } s m args below meth c Γ A (ug G o fin.1) (some (.int fin.2)) 37 8 [(0, .ref (ad Γ o)), (1, .int v1), (2, .int v2), (3, .int st.1)] [] (ug G o st.2)) (fun x => x = fin)))) q) : Wk p l e { frames := 1, cells := 0, slots := 0, locals := 21 } s m args below meth c Γ A (ug G o fin.1) (some (.int fin.2)) 114 8 [(0, .ref (ad Γ o)), (1, .int v1), (2, .int v2), (3, .int v3), (4, .int v4), (5, .int v5), (6, .int v6)] [] (ug G o r) := by
  intro H locs ls hw hS hl
  unfold bX10_fill_114 at hf
  obtain ⟨hx, hb, hml, hr, hown, htw, hlocks, hE⟩ := id C
  have hown : s.vm.findClass RX10 = some m.cls := hown
  refine lv_iload hx hb dX10_fill_114 (lv_at hl 5 rfl) ?_
  refine lv_bipush (v := 10) hx hb dX10_fill_116 (by decide) ?_
  refine lv_icmp_ge (tgt := 163) hx hb dX10_fill_118 (by decide) (fun c16 => ?_) (fun c16 => ?_)
  · have hf := ifp c16 hf
    obtain ⟨q10, hfq10, eq10⟩ := out1_some hf
    subst eq10
    have hf := hfq10
    have hq := hq.2 _ rfl
    exact wX10_fill_163 C hk hf hq H locs ls hw hS hl
  · have hf := ifn c16 hf
    refine lv_iload hx hb dX10_fill_121 (lv_at hl 6 rfl) ?_
    refine lv_aload_n hx hb dX10_fill_123 rfl (lv_at hl 0 rfl) ?_
    refine lv_bipush (v := 37) hx hb dX10_fill_124 (by decide) ?_
    refine lv_iload hx hb dX10_fill_126 (lv_at hl 4 rfl) ?_
    refine lv_iadd hx hb dX10_fill_128 ?_
    obtain ⟨z11, hz11, hf⟩ := bd hf
    refine cl_Vs (rest := [.int v6]) (kX10_of (l := l) (Γ := Γ) (A := A) (G := G) (o := o) hk hz11) ⟨hx, hb, hml, hown, htw⟩ hE hw hS (wo_me hw hk) (q0 := 0) rfl rfl mw1541 mw1543 mw66 mw129 mw1544 pdX10_of ⟨Nat.le_of_ble_eq_true rfl, Nat.le_of_ble_eq_true rfl⟩ rfl rfl hl.1 (Nat.le_of_ble_eq_true rfl) dX10_fill_129 (fun H locs hw hS => ?_)
    refine lv_iadd hx hb dX10_fill_132 ?_
    refine lv_iload_n hx hb dX10_fill_133 rfl (lv_at hl 2 rfl) ?_
    refine lv_icmp_le (tgt := 163) hx hb dX10_fill_134 (by decide) (fun c15 => ?_) (fun c15 => ?_)
    · have hf := ifp c15 hf
      obtain ⟨q12, hfq12, eq12⟩ := out1_some hf
      subst eq12
      have hf := hfq12
      have hq := hq.2 _ rfl
      exact wX10_fill_163 C hk hf hq H locs ls hw hS hl
    · have hf := ifn c15 hf
      refine lv_iinc (v := v5 + 1) (lv' := [(5, .int (v5 + 1)), (0, .ref (ad Γ o)), (1, .int v1), (2, .int v2), (3, .int v3), (4, .int v4), (6, .int v6)]) hx hb dX10_fill_137 hl (k := 5) rfl (by rfl) (by decide) rfl (fun ls hl => ?_)
      refine lv_iload hx hb dX10_fill_140 (lv_at hl 0 rfl) ?_
      refine lv_bipush (v := 10) hx hb dX10_fill_142 (by decide) ?_
      refine lv_icmp_ge (tgt := 157) hx hb dX10_fill_144 (by decide) (fun c14 => ?_) (fun c14 => ?_)
      · have hf := ifp c14 hf
        refine lv_iconst (v := 0) hx hb dX10_fill_157 (by decide) ?_
        exact wX10_fill_158 C hk hf hq H locs ls hw hS (lv_sub hl [1, 2, 3, 4, 5, 0] rfl)
      · have hf := ifn c14 hf
        refine lv_aload_n hx hb dX10_fill_147 rfl (lv_at hl 1 rfl) ?_
        refine va_get (ci := 10) (v := .ref (aa Γ o 40)) (C := RX10) (T := TX10) (N := 49) hx hb htw uwX10 hown hE.1 (wo_me hw hk) 0 rfl rfl 40 (by decide) (htw _ mw1283) (fun _ h9 => h9) rfl dX10_fill_148 ?_
        refine lv_iload hx hb dX10_fill_151 (lv_at hl 0 rfl) ?_
        obtain ⟨g13, hf⟩ := gd_some hf
        refine va_iald hx hb hE.1 (wo_me hw hk) 19 0 rfl rfl (inR_in g13) dX10_fill_153 ?_
        refine lv_goto (tgt := 158) hx hb dX10_fill_154 (by decide) ?_
        exact wX10_fill_158 C hk hf hq H locs ls hw hS (lv_sub hl [1, 2, 3, 4, 5, 0] rfl)

set_option maxRecDepth 100000 in
set_option maxHeartbeats 4000000 in
theorem lwX10_fill_114 {p : Program} {l : Launch} {e : Env} {s : State} {m : MethodId} {args : Array Value} {below : List Frame} {meth : Method} {c : Code} {Γ : Gm} {A : Nat → Prop} {G : Gs} {o : Nat} {r : Rec} {v1 : Int32} {v2 : Int32} {v3 : Int32} {v4 : Int32} {v5 : Int32} {v6 : Int32} {q : ((Int32 × Rec) ⊕ ((Int32 × Rec) ⊕ (Rec × Int32)))} {fin : Rec × Int32} (C : Cx p s m args meth c yX10_fill cX10_fill 8 (some .int) Γ A) (hk : kd Γ o = some 10) (hf : iter (fun st : Int32 × Int32 => bX10_fill_114 r v1 v2 v3 v4 st.1 st.2) (v5, v6) = some q) (hq : (KC (fun st : Int32 × Rec => Wk p l e { frames := 1, cells := 0, slots := 0, locals := 21 } s m args below meth c Γ A (ug G o fin.1) (some (.int fin.2)) 45 8 [(0, .ref (ad Γ o)), (1, .int v1), (2, .int v2), (3, .int v3), (4, .int st.1)] [] (ug G o st.2)) (KC (fun st : Int32 × Rec => Wk p l e { frames := 1, cells := 0, slots := 0, locals := 21 } s m args below meth c Γ A (ug G o fin.1) (some (.int fin.2)) 37 8 [(0, .ref (ad Γ o)), (1, .int v1), (2, .int v2), (3, .int st.1)] [] (ug G o st.2)) (fun x => x = fin))) q) : Wk p l e { frames := 1, cells := 0, slots := 0, locals := 21 } s m args below meth c Γ A (ug G o fin.1) (some (.int fin.2)) 114 8 [(0, .ref (ad Γ o)), (1, .int v1), (2, .int v2), (3, .int v3), (4, .int v4), (5, .int v5), (6, .int v6)] [] (ug G o r) := by
  intro H locs ls hw hS hl
  refine iter_walk (P := (fun st : Int32 × Int32 => Wk p l e { frames := 1, cells := 0, slots := 0, locals := 21 } s m args below meth c Γ A (ug G o fin.1) (some (.int fin.2)) 114 8 [(0, .ref (ad Γ o)), (1, .int v1), (2, .int v2), (3, .int v3), (4, .int v4), (5, .int st.1), (6, .int st.2)] [] (ug G o r))) (K := (KC (fun st : Int32 × Rec => Wk p l e { frames := 1, cells := 0, slots := 0, locals := 21 } s m args below meth c Γ A (ug G o fin.1) (some (.int fin.2)) 45 8 [(0, .ref (ad Γ o)), (1, .int v1), (2, .int v2), (3, .int v3), (4, .int st.1)] [] (ug G o st.2)) (KC (fun st : Int32 × Rec => Wk p l e { frames := 1, cells := 0, slots := 0, locals := 21 } s m args below meth c Γ A (ug G o fin.1) (some (.int fin.2)) 37 8 [(0, .ref (ad Γ o)), (1, .int v1), (2, .int v2), (3, .int st.1)] [] (ug G o st.2)) (fun x => x = fin)))) (fun st q hq1 h1 h2 => ?_) hf hq H locs ls hw hS hl
  exact wX10_fill_114 (v5 := st.1) (v6 := st.2) C hk hq1 ⟨h1, h2⟩

noncomputable def bX10_fill_45 (r : Rec) (v1 : Int32) (v2 : Int32) (v3 : Int32) (v4 : Int32) : Option ((Int32 × Rec) ⊕ ((Int32 × Rec) ⊕ (Rec × Int32))) :=
  if (gi r 27) ≤ v4 then out1 (bX10_fill_229 r v1 v2 v3) else if (v3 &&& (v1 ^^^ (-1))) = 0 then gd (inR v3 1024) (if 1000000 ≤ (ga r 39 (Int32.toNatClampNeg v3)) then out1 (bX10_fill_229 r v1 v2 v3) else (fX10_has v1 v4).bind fun z21 => if z21 = 0 then bX10_fill_223 r v1 v2 v3 v4 else (fX10_has v3 v4).bind fun z22 => if z22 = 0 then gd (inR v3 1024) ((some ((ga r 39 (Int32.toNatClampNeg v3)) / 100)).bind fun x24 => gd (inR v3 1024) ((some (ga r 39 (Int32.toNatClampNeg v3))).bind fun x26 => iter (fun st : Int32 × Int32 => bX10_fill_114 r v1 v2 v3 v4 st.1 st.2) (x24, x26 - x26 / 100 * 100))) else bX10_fill_223 r v1 v2 v3 v4) else out1 (bX10_fill_229 r v1 v2 v3)
set_option maxRecDepth 100000 in
set_option maxHeartbeats 4000000 in
theorem wX10_fill_45 {p : Program} {l : Launch} {e : Env} {s : State} {m : MethodId} {args : Array Value} {below : List Frame} {meth : Method} {c : Code} {Γ : Gm} {A : Nat → Prop} {G : Gs} {o : Nat} {r : Rec} {v1 : Int32} {v2 : Int32} {v3 : Int32} {v4 : Int32} {q : ((Int32 × Rec) ⊕ ((Int32 × Rec) ⊕ (Rec × Int32)))} {fin : Rec × Int32} (C : Cx p s m args meth c yX10_fill cX10_fill 8 (some .int) Γ A) (hk : kd Γ o = some 10) (hf : bX10_fill_45 r v1 v2 v3 v4 = some q) (hq : (KC (fun st : Int32 × Rec => Wk p l e { frames := 1, cells := 0, slots := 0, locals := 21 } s m args below meth c Γ A (ug G o fin.1) (some (.int fin.2)) 45 8 [(0, .ref (ad Γ o)), (1, .int v1), (2, .int v2), (3, .int v3), (4, .int st.1)] [] (ug G o st.2)) (KC (fun st : Int32 × Rec => Wk p l e { frames := 1, cells := 0, slots := 0, locals := 21 } s m args below meth c Γ A (ug G o fin.1) (some (.int fin.2)) 37 8 [(0, .ref (ad Γ o)), (1, .int v1), (2, .int v2), (3, .int st.1)] [] (ug G o st.2)) (fun x => x = fin))) q) : Wk p l e { frames := 1, cells := 0, slots := 0, locals := 21 } s m args below meth c Γ A (ug G o fin.1) (some (.int fin.2)) 45 8 [(0, .ref (ad Γ o)), (1, .int v1), (2, .int v2), (3, .int v3), (4, .int v4)] [] (ug G o r) := by
  intro H locs ls hw hS hl
  unfold bX10_fill_45 at hf
  obtain ⟨hx, hb, hml, hr, hown, htw, hlocks, hE⟩ := id C
  have hown : s.vm.findClass RX10 = some m.cls := hown
  refine lv_iload hx hb dX10_fill_45 (lv_at hl 4 rfl) ?_
  refine lv_aload_n hx hb dX10_fill_47 rfl (lv_at hl 0 rfl) ?_
  refine va_get (ci := 10) (v := .int (gi r 27)) (C := RX10) (T := TX10) (N := 49) hx hb htw uwX10 hown hE.1 (wo_me hw hk) 0 rfl rfl 27 (by decide) (htw _ mw1270) (fun _ h9 => h9) rfl dX10_fill_48 ?_
  refine lv_icmp_ge (tgt := 229) hx hb dX10_fill_51 (by decide) (fun c31 => ?_) (fun c31 => ?_)
  · have hf := ifp c31 hf
    obtain ⟨q17, hfq17, eq17⟩ := out1_some hf
    subst eq17
    have hf := hfq17
    have hq := hq.2 _ rfl
    exact wX10_fill_229 C hk hf hq H locs ls hw hS (lv_sub hl [0, 1, 2, 3] rfl)
  · have hf := ifn c31 hf
    refine lv_iload_n hx hb dX10_fill_54 rfl (lv_at hl 3 rfl) ?_
    refine lv_iload_n hx hb dX10_fill_55 rfl (lv_at hl 1 rfl) ?_
    refine lv_iconst (v := (-1)) hx hb dX10_fill_56 (by decide) ?_
    refine lv_ixor hx hb dX10_fill_57 ?_
    refine lv_iand hx hb dX10_fill_58 ?_
    refine lv_if_ne (tgt := 229) hx hb dX10_fill_59 (by decide) (fun c30 => ?_) (fun c30 => ?_)
    · have hf := ifn c30 hf
      obtain ⟨q18, hfq18, eq18⟩ := out1_some hf
      subst eq18
      have hf := hfq18
      have hq := hq.2 _ rfl
      exact wX10_fill_229 C hk hf hq H locs ls hw hS (lv_sub hl [0, 1, 2, 3] rfl)
    · have hf := ifp c30 hf
      refine lv_aload_n hx hb dX10_fill_62 rfl (lv_at hl 0 rfl) ?_
      refine va_get (ci := 10) (v := .ref (aa Γ o 39)) (C := RX10) (T := TX10) (N := 49) hx hb htw uwX10 hown hE.1 (wo_me hw hk) 0 rfl rfl 39 (by decide) (htw _ mw1282) (fun _ h9 => h9) rfl dX10_fill_63 ?_
      refine lv_iload_n hx hb dX10_fill_66 rfl (lv_at hl 3 rfl) ?_
      obtain ⟨g19, hf⟩ := gd_some hf
      refine va_iald hx hb hE.1 (wo_me hw hk) 18 0 rfl rfl (inR_in g19) dX10_fill_67 ?_
      refine lv_ldcw hx hb hown (htw _ mw1676) dX10_fill_68 ?_
      refine lv_icmp_ge (tgt := 229) hx hb dX10_fill_71 (by decide) (fun c29 => ?_) (fun c29 => ?_)
      · have hf := ifp c29 hf
        obtain ⟨q20, hfq20, eq20⟩ := out1_some hf
        subst eq20
        have hf := hfq20
        have hq := hq.2 _ rfl
        exact wX10_fill_229 C hk hf hq H locs ls hw hS (lv_sub hl [0, 1, 2, 3] rfl)
      · have hf := ifn c29 hf
        refine lv_iload_n hx hb dX10_fill_74 rfl (lv_at hl 1 rfl) ?_
        refine lv_iload hx hb dX10_fill_75 (lv_at hl 4 rfl) ?_
        obtain ⟨z21, hz21, hf⟩ := bd hf
        refine cl_Ss (rest := []) (kX10_has (l := l) (Γ := Γ) (A := A) (G := (ug G o r)) hz21) ⟨hx, hb, hml, hown, htw⟩ hE hw hS mw1561 mw1562 mw129 mw1563 pdX10_has ⟨Nat.le_of_ble_eq_true rfl, Nat.le_of_ble_eq_true rfl⟩ rfl rfl hl.1 (Nat.le_of_ble_eq_true rfl) dX10_fill_77 (fun H locs hw hS => ?_)
        refine lv_if_eq (tgt := 223) hx hb dX10_fill_80 (by decide) (fun c28 => ?_) (fun c28 => ?_)
        · have hf := ifp c28 hf
          exact wX10_fill_223 C hk hf hq H locs ls hw hS hl
        · have hf := ifn c28 hf
          refine lv_iload_n hx hb dX10_fill_83 rfl (lv_at hl 3 rfl) ?_
          refine lv_iload hx hb dX10_fill_84 (lv_at hl 4 rfl) ?_
          obtain ⟨z22, hz22, hf⟩ := bd hf
          refine cl_Ss (rest := []) (kX10_has (l := l) (Γ := Γ) (A := A) (G := (ug G o r)) hz22) ⟨hx, hb, hml, hown, htw⟩ hE hw hS mw1561 mw1562 mw129 mw1563 pdX10_has ⟨Nat.le_of_ble_eq_true rfl, Nat.le_of_ble_eq_true rfl⟩ rfl rfl hl.1 (Nat.le_of_ble_eq_true rfl) dX10_fill_86 (fun H locs hw hS => ?_)
          refine lv_if_ne (tgt := 223) hx hb dX10_fill_89 (by decide) (fun c27 => ?_) (fun c27 => ?_)
          · have hf := ifn c27 hf
            exact wX10_fill_223 C hk hf hq H locs ls hw hS hl
          · have hf := ifp c27 hf
            refine lv_aload_n hx hb dX10_fill_92 rfl (lv_at hl 0 rfl) ?_
            refine va_get (ci := 10) (v := .ref (aa Γ o 39)) (C := RX10) (T := TX10) (N := 49) hx hb htw uwX10 hown hE.1 (wo_me hw hk) 0 rfl rfl 39 (by decide) (htw _ mw1282) (fun _ h9 => h9) rfl dX10_fill_93 ?_
            refine lv_iload_n hx hb dX10_fill_96 rfl (lv_at hl 3 rfl) ?_
            obtain ⟨g23, hf⟩ := gd_some hf
            refine va_iald hx hb hE.1 (wo_me hw hk) 18 0 rfl rfl (inR_in g23) dX10_fill_97 ?_
            refine lv_bipush (v := 100) hx hb dX10_fill_98 (by decide) ?_
            refine lv_idiv hx hb dX10_fill_100 (by decide) ?_
            obtain ⟨x24, hx24, hf⟩ := bd hf
            have hx24 := Option.some.inj hx24
            refine tp1i hx24 ?_
            refine lv_istore (lv' := [(5, .int x24), (0, .ref (ad Γ o)), (1, .int v1), (2, .int v2), (3, .int v3), (4, .int v4)]) hx hb dX10_fill_101 hl (by decide) rfl (fun ls hl => ?_)
            refine lv_aload_n hx hb dX10_fill_103 rfl (lv_at hl 1 rfl) ?_
            refine va_get (ci := 10) (v := .ref (aa Γ o 39)) (C := RX10) (T := TX10) (N := 49) hx hb htw uwX10 hown hE.1 (wo_me hw hk) 0 rfl rfl 39 (by decide) (htw _ mw1282) (fun _ h9 => h9) rfl dX10_fill_104 ?_
            refine lv_iload_n hx hb dX10_fill_107 rfl (lv_at hl 4 rfl) ?_
            obtain ⟨g25, hf⟩ := gd_some hf
            refine va_iald hx hb hE.1 (wo_me hw hk) 18 0 rfl rfl (inR_in g25) dX10_fill_108 ?_
            refine lv_bipush (v := 100) hx hb dX10_fill_109 (by decide) ?_
            obtain ⟨x26, hx26, hf⟩ := bd hf
            have hx26 := Option.some.inj hx26
            refine tp2i hx26 ?_
            refine lv_irem hx hb dX10_fill_111 (by decide) ?_
            refine lv_istore (lv' := [(6, .int (x26 - x26 / 100 * 100)), (5, .int x24), (0, .ref (ad Γ o)), (1, .int v1), (2, .int v2), (3, .int v3), (4, .int v4)]) hx hb dX10_fill_112 hl (by decide) rfl (fun ls hl => ?_)
            exact lwX10_fill_114 C hk hf hq H locs ls hw hS (lv_sub hl [2, 3, 4, 5, 6, 1, 0] rfl)

set_option maxRecDepth 100000 in
set_option maxHeartbeats 4000000 in
theorem lwX10_fill_45 {p : Program} {l : Launch} {e : Env} {s : State} {m : MethodId} {args : Array Value} {below : List Frame} {meth : Method} {c : Code} {Γ : Gm} {A : Nat → Prop} {G : Gs} {o : Nat} {r : Rec} {v1 : Int32} {v2 : Int32} {v3 : Int32} {v4 : Int32} {q : ((Int32 × Rec) ⊕ (Rec × Int32))} {fin : Rec × Int32} (C : Cx p s m args meth c yX10_fill cX10_fill 8 (some .int) Γ A) (hk : kd Γ o = some 10) (hf : iter (fun st : Int32 × Rec => bX10_fill_45 st.2 v1 v2 v3 st.1) (v4, r) = some q) (hq : (KC (fun st : Int32 × Rec => Wk p l e { frames := 1, cells := 0, slots := 0, locals := 21 } s m args below meth c Γ A (ug G o fin.1) (some (.int fin.2)) 37 8 [(0, .ref (ad Γ o)), (1, .int v1), (2, .int v2), (3, .int st.1)] [] (ug G o st.2)) (fun x => x = fin)) q) : Wk p l e { frames := 1, cells := 0, slots := 0, locals := 21 } s m args below meth c Γ A (ug G o fin.1) (some (.int fin.2)) 45 8 [(0, .ref (ad Γ o)), (1, .int v1), (2, .int v2), (3, .int v3), (4, .int v4)] [] (ug G o r) := by
  intro H locs ls hw hS hl
  refine iter_walk (P := (fun st : Int32 × Rec => Wk p l e { frames := 1, cells := 0, slots := 0, locals := 21 } s m args below meth c Γ A (ug G o fin.1) (some (.int fin.2)) 45 8 [(0, .ref (ad Γ o)), (1, .int v1), (2, .int v2), (3, .int v3), (4, .int st.1)] [] (ug G o st.2))) (K := (KC (fun st : Int32 × Rec => Wk p l e { frames := 1, cells := 0, slots := 0, locals := 21 } s m args below meth c Γ A (ug G o fin.1) (some (.int fin.2)) 37 8 [(0, .ref (ad Γ o)), (1, .int v1), (2, .int v2), (3, .int st.1)] [] (ug G o st.2)) (fun x => x = fin))) (fun st q hq1 h1 h2 => ?_) hf hq H locs ls hw hS hl
  exact wX10_fill_45 (r := st.2) (v4 := st.1) C hk hq1 ⟨h1, h2⟩

noncomputable def bX10_fill_37 (r : Rec) (v1 : Int32) (v2 : Int32) (v3 : Int32) : Option ((Int32 × Rec) ⊕ (Rec × Int32)) :=
  if v1 < v3 then out1 (bX10_fill_235 r v1) else iter (fun st : Int32 × Rec => bX10_fill_45 st.2 v1 v2 v3 st.1) (0, r)
set_option maxRecDepth 100000 in
set_option maxHeartbeats 4000000 in
theorem wX10_fill_37 {p : Program} {l : Launch} {e : Env} {s : State} {m : MethodId} {args : Array Value} {below : List Frame} {meth : Method} {c : Code} {Γ : Gm} {A : Nat → Prop} {G : Gs} {o : Nat} {r : Rec} {v1 : Int32} {v2 : Int32} {v3 : Int32} {q : ((Int32 × Rec) ⊕ (Rec × Int32))} {fin : Rec × Int32} (C : Cx p s m args meth c yX10_fill cX10_fill 8 (some .int) Γ A) (hk : kd Γ o = some 10) (hf : bX10_fill_37 r v1 v2 v3 = some q) (hq : (KC (fun st : Int32 × Rec => Wk p l e { frames := 1, cells := 0, slots := 0, locals := 21 } s m args below meth c Γ A (ug G o fin.1) (some (.int fin.2)) 37 8 [(0, .ref (ad Γ o)), (1, .int v1), (2, .int v2), (3, .int st.1)] [] (ug G o st.2)) (fun x => x = fin)) q) : Wk p l e { frames := 1, cells := 0, slots := 0, locals := 21 } s m args below meth c Γ A (ug G o fin.1) (some (.int fin.2)) 37 8 [(0, .ref (ad Γ o)), (1, .int v1), (2, .int v2), (3, .int v3)] [] (ug G o r) := by
  intro H locs ls hw hS hl
  unfold bX10_fill_37 at hf
  obtain ⟨hx, hb, hml, hr, hown, htw, hlocks, hE⟩ := id C
  have hown : s.vm.findClass RX10 = some m.cls := hown
  refine lv_iload_n hx hb dX10_fill_37 rfl (lv_at hl 3 rfl) ?_
  refine lv_iload_n hx hb dX10_fill_38 rfl (lv_at hl 1 rfl) ?_
  refine lv_icmp_gt (tgt := 235) hx hb dX10_fill_39 (by decide) (fun c33 => ?_) (fun c33 => ?_)
  · have hf := ifp c33 hf
    obtain ⟨q32, hfq32, eq32⟩ := out1_some hf
    subst eq32
    have hf := hfq32
    have hq := hq.2 _ rfl
    exact wX10_fill_235 C hk hf hq H locs ls hw hS (lv_sub hl [0, 1] rfl)
  · have hf := ifn c33 hf
    refine lv_iconst (v := 0) hx hb dX10_fill_42 (by decide) ?_
    refine lv_istore (lv' := [(4, .int 0), (0, .ref (ad Γ o)), (1, .int v1), (2, .int v2), (3, .int v3)]) hx hb dX10_fill_43 hl (by decide) rfl (fun ls hl => ?_)
    exact lwX10_fill_45 C hk hf hq H locs ls hw hS (lv_sub hl [1, 2, 3, 4, 0] rfl)

set_option maxRecDepth 100000 in
set_option maxHeartbeats 4000000 in
theorem lwX10_fill_37 {p : Program} {l : Launch} {e : Env} {s : State} {m : MethodId} {args : Array Value} {below : List Frame} {meth : Method} {c : Code} {Γ : Gm} {A : Nat → Prop} {G : Gs} {o : Nat} {r : Rec} {v1 : Int32} {v2 : Int32} {v3 : Int32} {q : (Rec × Int32)} {fin : Rec × Int32} (C : Cx p s m args meth c yX10_fill cX10_fill 8 (some .int) Γ A) (hk : kd Γ o = some 10) (hf : iter (fun st : Int32 × Rec => bX10_fill_37 st.2 v1 v2 st.1) (v3, r) = some q) (hq : (fun x => x = fin) q) : Wk p l e { frames := 1, cells := 0, slots := 0, locals := 21 } s m args below meth c Γ A (ug G o fin.1) (some (.int fin.2)) 37 8 [(0, .ref (ad Γ o)), (1, .int v1), (2, .int v2), (3, .int v3)] [] (ug G o r) := by
  intro H locs ls hw hS hl
  refine iter_walk (P := (fun st : Int32 × Rec => Wk p l e { frames := 1, cells := 0, slots := 0, locals := 21 } s m args below meth c Γ A (ug G o fin.1) (some (.int fin.2)) 37 8 [(0, .ref (ad Γ o)), (1, .int v1), (2, .int v2), (3, .int st.1)] [] (ug G o st.2))) (K := (fun x => x = fin)) (fun st q hq1 h1 h2 => ?_) hf hq H locs ls hw hS hl
  exact wX10_fill_37 (r := st.2) (v3 := st.1) C hk hq1 ⟨h1, h2⟩

noncomputable def bX10_fill_35 (r : Rec) (v1 : Int32) (v2 : Int32) : Option (Rec × Int32) :=
  iter (fun st : Int32 × Rec => bX10_fill_37 st.2 v1 v2 st.1) (0, r)
set_option maxRecDepth 100000 in
set_option maxHeartbeats 4000000 in
theorem wX10_fill_35 {p : Program} {l : Launch} {e : Env} {s : State} {m : MethodId} {args : Array Value} {below : List Frame} {meth : Method} {c : Code} {Γ : Gm} {A : Nat → Prop} {G : Gs} {o : Nat} {r : Rec} {v1 : Int32} {v2 : Int32} {q : (Rec × Int32)} {fin : Rec × Int32} (C : Cx p s m args meth c yX10_fill cX10_fill 8 (some .int) Γ A) (hk : kd Γ o = some 10) (hf : bX10_fill_35 r v1 v2 = some q) (hq : (fun x => x = fin) q) : Wk p l e { frames := 1, cells := 0, slots := 0, locals := 21 } s m args below meth c Γ A (ug G o fin.1) (some (.int fin.2)) 35 8 [(0, .ref (ad Γ o)), (1, .int v1), (2, .int v2)] [] (ug G o r) := by
  intro H locs ls hw hS hl
  unfold bX10_fill_35 at hf
  obtain ⟨hx, hb, hml, hr, hown, htw, hlocks, hE⟩ := id C
  have hown : s.vm.findClass RX10 = some m.cls := hown
  refine lv_iconst (v := 0) hx hb dX10_fill_35 (by decide) ?_
  refine lv_istore_n (lv' := [(3, .int 0), (0, .ref (ad Γ o)), (1, .int v1), (2, .int v2)]) hx hb dX10_fill_36 rfl hl (by decide) rfl (fun ls hl => ?_)
  exact lwX10_fill_37 C hk hf hq H locs ls hw hS (lv_sub hl [1, 2, 3, 0] rfl)

noncomputable def bX10_fill_28 (r : Rec) (v1 : Int32) (v2 : Int32) (v3 : Int32) (s0 : Int32) (s1 : Int32) : Option ((Int32 × Rec) ⊕ (Rec × Int32)) :=
  gd (inR s1 1024) ((some (sa r 39 (upd (ga r 39) (Int32.toNatClampNeg s1) s0))).bind fun r35 => some (.inl (v3 + 1, r35)))
set_option maxRecDepth 100000 in
set_option maxHeartbeats 4000000 in
theorem wX10_fill_28 {p : Program} {l : Launch} {e : Env} {s : State} {m : MethodId} {args : Array Value} {below : List Frame} {meth : Method} {c : Code} {Γ : Gm} {A : Nat → Prop} {G : Gs} {o : Nat} {r : Rec} {v1 : Int32} {v2 : Int32} {v3 : Int32} {s0 : Int32} {s1 : Int32} {q : ((Int32 × Rec) ⊕ (Rec × Int32))} {fin : Rec × Int32} (C : Cx p s m args meth c yX10_fill cX10_fill 8 (some .int) Γ A) (hk : kd Γ o = some 10) (hf : bX10_fill_28 r v1 v2 v3 s0 s1 = some q) (hq : (KC (fun st : Int32 × Rec => Wk p l e { frames := 1, cells := 0, slots := 0, locals := 21 } s m args below meth c Γ A (ug G o fin.1) (some (.int fin.2)) 2 8 [(0, .ref (ad Γ o)), (1, .int v1), (2, .int v2), (3, .int st.1)] [] (ug G o st.2)) (fun x => x = fin)) q) : Wk p l e { frames := 1, cells := 0, slots := 0, locals := 21 } s m args below meth c Γ A (ug G o fin.1) (some (.int fin.2)) 28 8 [(0, .ref (ad Γ o)), (1, .int v1), (2, .int v2), (3, .int v3)] [.int s0, .int s1, .ref (aa Γ o 39)] (ug G o r) := by
  intro H locs ls hw hS hl
  unfold bX10_fill_28 at hf
  obtain ⟨hx, hb, hml, hr, hown, htw, hlocks, hE⟩ := id C
  have hown : s.vm.findClass RX10 = some m.cls := hown
  obtain ⟨g34, hf⟩ := gd_some hf
  obtain ⟨r35, hr35, hf⟩ := bd hf
  have hr35 := Option.some.inj hr35
  refine wo_iast hx hb hE hw hS hk (q0 := 18) rfl (inR_in g34) (sa10_39 hr35) dX10_fill_28 (fun H locs hw hS => ?_)
  refine lv_iinc (v := v3 + 1) (lv' := [(3, .int (v3 + 1)), (0, .ref (ad Γ o)), (1, .int v1), (2, .int v2)]) hx hb dX10_fill_29 hl (k := 3) rfl (by rfl) (by decide) rfl (fun ls hl => ?_)
  refine lv_goto (tgt := 2) hx hb dX10_fill_32 (by decide) ?_
  obtain rfl := Option.some.inj hf
  exact hq.1 _ rfl H locs ls hw hS (lv_sub hl [1, 2, 3, 0] rfl)

noncomputable def bX10_fill_2 (r : Rec) (v1 : Int32) (v2 : Int32) (v3 : Int32) : Option ((Int32 × Rec) ⊕ (Rec × Int32)) :=
  if v1 < v3 then out1 (bX10_fill_35 r v1 v2) else if v3 = 0 then bX10_fill_28 r v1 v2 v3 (ga r 40 (Int32.toNatClampNeg 0)) v3 else bX10_fill_28 r v1 v2 v3 1000000 v3
set_option maxRecDepth 100000 in
set_option maxHeartbeats 4000000 in
theorem wX10_fill_2 {p : Program} {l : Launch} {e : Env} {s : State} {m : MethodId} {args : Array Value} {below : List Frame} {meth : Method} {c : Code} {Γ : Gm} {A : Nat → Prop} {G : Gs} {o : Nat} {r : Rec} {v1 : Int32} {v2 : Int32} {v3 : Int32} {q : ((Int32 × Rec) ⊕ (Rec × Int32))} {fin : Rec × Int32} (C : Cx p s m args meth c yX10_fill cX10_fill 8 (some .int) Γ A) (hk : kd Γ o = some 10) (hf : bX10_fill_2 r v1 v2 v3 = some q) (hq : (KC (fun st : Int32 × Rec => Wk p l e { frames := 1, cells := 0, slots := 0, locals := 21 } s m args below meth c Γ A (ug G o fin.1) (some (.int fin.2)) 2 8 [(0, .ref (ad Γ o)), (1, .int v1), (2, .int v2), (3, .int st.1)] [] (ug G o st.2)) (fun x => x = fin)) q) : Wk p l e { frames := 1, cells := 0, slots := 0, locals := 21 } s m args below meth c Γ A (ug G o fin.1) (some (.int fin.2)) 2 8 [(0, .ref (ad Γ o)), (1, .int v1), (2, .int v2), (3, .int v3)] [] (ug G o r) := by
  intro H locs ls hw hS hl
  unfold bX10_fill_2 at hf
  obtain ⟨hx, hb, hml, hr, hown, htw, hlocks, hE⟩ := id C
  have hown : s.vm.findClass RX10 = some m.cls := hown
  refine lv_iload_n hx hb dX10_fill_2 rfl (lv_at hl 3 rfl) ?_
  refine lv_iload_n hx hb dX10_fill_3 rfl (lv_at hl 1 rfl) ?_
  refine lv_icmp_gt (tgt := 35) hx hb dX10_fill_4 (by decide) (fun c38 => ?_) (fun c38 => ?_)
  · have hf := ifp c38 hf
    obtain ⟨q36, hfq36, eq36⟩ := out1_some hf
    subst eq36
    have hf := hfq36
    have hq := hq.2 _ rfl
    exact wX10_fill_35 C hk hf hq H locs ls hw hS (lv_sub hl [0, 1, 2] rfl)
  · have hf := ifn c38 hf
    refine lv_aload_n hx hb dX10_fill_7 rfl (lv_at hl 0 rfl) ?_
    refine va_get (ci := 10) (v := .ref (aa Γ o 39)) (C := RX10) (T := TX10) (N := 49) hx hb htw uwX10 hown hE.1 (wo_me hw hk) 0 rfl rfl 39 (by decide) (htw _ mw1282) (fun _ h9 => h9) rfl dX10_fill_8 ?_
    refine lv_iload_n hx hb dX10_fill_11 rfl (lv_at hl 3 rfl) ?_
    refine lv_iload_n hx hb dX10_fill_12 rfl (lv_at hl 3 rfl) ?_
    refine lv_if_ne (tgt := 25) hx hb dX10_fill_13 (by decide) (fun c37 => ?_) (fun c37 => ?_)
    · have hf := ifn c37 hf
      refine lv_ldcw hx hb hown (htw _ mw1676) dX10_fill_25 ?_
      exact wX10_fill_28 C hk hf hq H locs ls hw hS hl
    · have hf := ifp c37 hf
      refine lv_aload_n hx hb dX10_fill_16 rfl (lv_at hl 0 rfl) ?_
      refine va_get (ci := 10) (v := .ref (aa Γ o 40)) (C := RX10) (T := TX10) (N := 49) hx hb htw uwX10 hown hE.1 (wo_me hw hk) 0 rfl rfl 40 (by decide) (htw _ mw1283) (fun _ h9 => h9) rfl dX10_fill_17 ?_
      refine lv_iconst (v := 0) hx hb dX10_fill_20 (by decide) ?_
      refine va_iald hx hb hE.1 (wo_me hw hk) 19 0 rfl rfl (inR_in (i := 0) (n := 10) (by decide)) dX10_fill_21 ?_
      refine lv_goto (tgt := 28) hx hb dX10_fill_22 (by decide) ?_
      exact wX10_fill_28 C hk hf hq H locs ls hw hS hl

set_option maxRecDepth 100000 in
set_option maxHeartbeats 4000000 in
theorem lwX10_fill_2 {p : Program} {l : Launch} {e : Env} {s : State} {m : MethodId} {args : Array Value} {below : List Frame} {meth : Method} {c : Code} {Γ : Gm} {A : Nat → Prop} {G : Gs} {o : Nat} {r : Rec} {v1 : Int32} {v2 : Int32} {v3 : Int32} {q : (Rec × Int32)} {fin : Rec × Int32} (C : Cx p s m args meth c yX10_fill cX10_fill 8 (some .int) Γ A) (hk : kd Γ o = some 10) (hf : iter (fun st : Int32 × Rec => bX10_fill_2 st.2 v1 v2 st.1) (v3, r) = some q) (hq : (fun x => x = fin) q) : Wk p l e { frames := 1, cells := 0, slots := 0, locals := 21 } s m args below meth c Γ A (ug G o fin.1) (some (.int fin.2)) 2 8 [(0, .ref (ad Γ o)), (1, .int v1), (2, .int v2), (3, .int v3)] [] (ug G o r) := by
  intro H locs ls hw hS hl
  refine iter_walk (P := (fun st : Int32 × Rec => Wk p l e { frames := 1, cells := 0, slots := 0, locals := 21 } s m args below meth c Γ A (ug G o fin.1) (some (.int fin.2)) 2 8 [(0, .ref (ad Γ o)), (1, .int v1), (2, .int v2), (3, .int st.1)] [] (ug G o st.2))) (K := (fun x => x = fin)) (fun st q hq1 h1 h2 => ?_) hf hq H locs ls hw hS hl
  exact wX10_fill_2 (r := st.2) (v3 := st.1) C hk hq1 ⟨h1, h2⟩

noncomputable def fX10_fill (r : Rec) (v1 : Int32) (v2 : Int32) : Option (Rec × Int32) :=
  iter (fun st : Int32 × Rec => bX10_fill_2 st.2 v1 v2 st.1) (0, r)
set_option maxRecDepth 100000 in
set_option maxHeartbeats 4000000 in
theorem wX10_fill_e {p : Program} {l : Launch} {e : Env} {s : State} {m : MethodId} {args : Array Value} {below : List Frame} {meth : Method} {c : Code} {Γ : Gm} {A : Nat → Prop} {G : Gs} {o : Nat} {r : Rec} {v1 : Int32} {v2 : Int32} {q : (Rec × Int32)} {fin : Rec × Int32} (C : Cx p s m args meth c yX10_fill cX10_fill 8 (some .int) Γ A) (hk : kd Γ o = some 10) (hf : fX10_fill r v1 v2 = some q) (hq : (fun x => x = fin) q) : Wk p l e { frames := 1, cells := 0, slots := 0, locals := 21 } s m args below meth c Γ A (ug G o fin.1) (some (.int fin.2)) 0 8 [(0, .ref (ad Γ o)), (1, .int v1), (2, .int v2)] [] (ug G o r) := by
  intro H locs ls hw hS hl
  unfold fX10_fill at hf
  obtain ⟨hx, hb, hml, hr, hown, htw, hlocks, hE⟩ := id C
  have hown : s.vm.findClass RX10 = some m.cls := hown
  refine lv_iconst (v := 0) hx hb dX10_fill_0 (by decide) ?_
  refine lv_istore_n (lv' := [(3, .int 0), (0, .ref (ad Γ o)), (1, .int v1), (2, .int v2)]) hx hb dX10_fill_1 rfl hl (by decide) rfl (fun ls hl => ?_)
  exact lwX10_fill_2 C hk hf hq H locs ls hw hS (lv_sub hl [1, 2, 3, 0] rfl)

theorem kX10_fill {l : Launch} {Γ : Gm} {A : Nat → Prop} {G : Gs} {o : Nat} {r : Rec} {v1 : Int32} {v2 : Int32} {fin : Rec × Int32} (hk : kd Γ o = some 10) (hf : fX10_fill r v1 v2 = some fin) : Kt l yX10_fill cX10_fill 8 (some .int) 1 21 Γ A (ug G o r) (ug G o fin.1) [.ref (ad Γ o), .int v1, .int v2] (some (.int fin.2)) :=
  kt_of (by decide) (Nat.le_of_ble_eq_true rfl) (fun p e s m args below meth c C => wX10_fill_e C hk hf rfl)
theorem kgX10_fill {l : Launch} {Γ : Gm} {A : Nat → Prop} {G : Gs} {o : Nat} {v1 : Int32} {v2 : Int32} {fin : Rec × Int32} (hk : kd Γ o = some 10) (hf : fX10_fill (G o) v1 v2 = some fin) : Kt l yX10_fill cX10_fill 8 (some .int) 1 21 Γ A G (ug G o fin.1) [.ref (ad Γ o), .int v1, .int v2] (some (.int fin.2)) := by
  have h := kX10_fill (l := l) (A := A) (G := G) (r := G o) hk hf
  rw [ug_self] at h
  exact h
noncomputable def bX10_fewest_21 (r : Rec) (v1 : Int32) : Option (Rec × Int32) :=
  (fX10_everything r).bind fun z1 => (fX10_fill r z1 v1).bind fun z2 => if (gi z2.1 27) = 0 then some ((z2.1, 0)) else if z2.2 < 1000000 then some ((z2.1, (z2.2 / 100) + 1)) else some ((z2.1, (-1)))
set_option maxRecDepth 100000 in
set_option maxHeartbeats 4000000 in
theorem wX10_fewest_21 {p : Program} {l : Launch} {e : Env} {s : State} {m : MethodId} {args : Array Value} {below : List Frame} {meth : Method} {c : Code} {Γ : Gm} {A : Nat → Prop} {G : Gs} {o : Nat} {r : Rec} {v1 : Int32} {q : (Rec × Int32)} {fin : Rec × Int32} (C : Cx p s m args meth c yX10_fewest cX10_fewest 3 (some .int) Γ A) (hk : kd Γ o = some 10) (hf : bX10_fewest_21 r v1 = some q) (hq : (fun x => x = fin) q) : Wk p l e { frames := 2, cells := 0, slots := 0, locals := 48 } s m args below meth c Γ A (ug G o fin.1) (some (.int fin.2)) 21 3 [(0, .ref (ad Γ o)), (1, .int v1)] [] (ug G o r) := by
  intro H locs ls hw hS hl
  unfold bX10_fewest_21 at hf
  obtain ⟨hx, hb, hml, hr, hown, htw, hlocks, hE⟩ := id C
  have hown : s.vm.findClass RX10 = some m.cls := hown
  refine lv_aload_n hx hb dX10_fewest_21 rfl (lv_at hl 0 rfl) ?_
  refine lv_aload_n hx hb dX10_fewest_22 rfl (lv_at hl 0 rfl) ?_
  obtain ⟨z1, hz1, hf⟩ := bd hf
  refine cl_Vs (rest := [.ref (ad Γ o)]) (kX10_everything (l := l) (Γ := Γ) (A := A) (G := G) (o := o) hk hz1) ⟨hx, hb, hml, hown, htw⟩ hE hw hS (wo_me hw hk) (q0 := 0) rfl rfl mw1692 mw1694 mw95 mw129 mw1695 pdX10_everything ⟨Nat.le_of_ble_eq_true rfl, Nat.le_of_ble_eq_true rfl⟩ rfl rfl hl.1 (Nat.le_of_ble_eq_true rfl) dX10_fewest_23 (fun H locs hw hS => ?_)
  refine lv_iload_n hx hb dX10_fewest_26 rfl (lv_at hl 1 rfl) ?_
  obtain ⟨z2, hz2, hf⟩ := bd hf
  refine cl_Vs (rest := []) (kX10_fill (l := l) (Γ := Γ) (A := A) (G := G) (o := o) hk hz2) ⟨hx, hb, hml, hown, htw⟩ hE hw hS (wo_me hw hk) (q0 := 0) rfl rfl mw1743 mw1745 mw104 mw129 mw1746 pdX10_fill ⟨Nat.le_of_ble_eq_true rfl, Nat.le_of_ble_eq_true rfl⟩ rfl rfl hl.1 (Nat.le_of_ble_eq_true rfl) dX10_fewest_27 (fun H locs hw hS => ?_)
  refine lv_istore_n (lv' := [(2, .int z2.2), (0, .ref (ad Γ o)), (1, .int v1)]) hx hb dX10_fewest_30 rfl hl (by decide) rfl (fun ls hl => ?_)
  refine lv_aload_n hx hb dX10_fewest_31 rfl (lv_at hl 1 rfl) ?_
  refine va_get (ci := 10) (v := .int (gi z2.1 27)) (C := RX10) (T := TX10) (N := 49) hx hb htw uwX10 hown hE.1 (wo_me hw hk) 0 rfl rfl 27 (by decide) (htw _ mw1270) (fun _ h9 => h9) rfl dX10_fewest_32 ?_
  refine lv_if_ne (tgt := 42) hx hb dX10_fewest_35 (by decide) (fun c4 => ?_) (fun c4 => ?_)
  · have hf := ifn c4 hf
    refine lv_iload_n hx hb dX10_fewest_42 rfl (lv_at hl 0 rfl) ?_
    refine lv_ldcw hx hb hown (htw _ mw1676) dX10_fewest_43 ?_
    refine lv_icmp_lt (tgt := 53) hx hb dX10_fewest_46 (by decide) (fun c3 => ?_) (fun c3 => ?_)
    · have hf := ifp c3 hf
      refine lv_iload_n hx hb dX10_fewest_53 rfl (lv_at hl 0 rfl) ?_
      refine lv_bipush (v := 100) hx hb dX10_fewest_54 (by decide) ?_
      refine lv_idiv hx hb dX10_fewest_56 (by decide) ?_
      refine lv_iconst (v := 1) hx hb dX10_fewest_57 (by decide) ?_
      refine lv_iadd hx hb dX10_fewest_58 ?_
      obtain rfl := Option.some.inj hf
      subst hq
      exact rt_i C hw hS dX10_fewest_59
    · have hf := ifn c3 hf
      refine lv_iconst (v := (-1)) hx hb dX10_fewest_49 (by decide) ?_
      refine lv_goto (tgt := 59) hx hb dX10_fewest_50 (by decide) ?_
      obtain rfl := Option.some.inj hf
      subst hq
      exact rt_i C hw hS dX10_fewest_59
  · have hf := ifp c4 hf
    refine lv_iconst (v := 0) hx hb dX10_fewest_38 (by decide) ?_
    refine lv_goto (tgt := 59) hx hb dX10_fewest_39 (by decide) ?_
    obtain rfl := Option.some.inj hf
    subst hq
    exact rt_i C hw hS dX10_fewest_59

noncomputable def bX10_fewest_2 (r : Rec) (v1 : Int32) (v2 : Int32) : Option ((Int32 × Rec) ⊕ (Rec × Int32)) :=
  if 10 ≤ v2 then out1 (bX10_fewest_21 r v1) else gd (inR v2 10) ((some (sa r 40 (upd (ga r 40) (Int32.toNatClampNeg v2) 0))).bind fun r7 => some (.inl (v2 + 1, r7)))
set_option maxRecDepth 100000 in
set_option maxHeartbeats 4000000 in
theorem wX10_fewest_2 {p : Program} {l : Launch} {e : Env} {s : State} {m : MethodId} {args : Array Value} {below : List Frame} {meth : Method} {c : Code} {Γ : Gm} {A : Nat → Prop} {G : Gs} {o : Nat} {r : Rec} {v1 : Int32} {v2 : Int32} {q : ((Int32 × Rec) ⊕ (Rec × Int32))} {fin : Rec × Int32} (C : Cx p s m args meth c yX10_fewest cX10_fewest 3 (some .int) Γ A) (hk : kd Γ o = some 10) (hf : bX10_fewest_2 r v1 v2 = some q) (hq : (KC (fun st : Int32 × Rec => Wk p l e { frames := 2, cells := 0, slots := 0, locals := 48 } s m args below meth c Γ A (ug G o fin.1) (some (.int fin.2)) 2 3 [(0, .ref (ad Γ o)), (1, .int v1), (2, .int st.1)] [] (ug G o st.2)) (fun x => x = fin)) q) : Wk p l e { frames := 2, cells := 0, slots := 0, locals := 48 } s m args below meth c Γ A (ug G o fin.1) (some (.int fin.2)) 2 3 [(0, .ref (ad Γ o)), (1, .int v1), (2, .int v2)] [] (ug G o r) := by
  intro H locs ls hw hS hl
  unfold bX10_fewest_2 at hf
  obtain ⟨hx, hb, hml, hr, hown, htw, hlocks, hE⟩ := id C
  have hown : s.vm.findClass RX10 = some m.cls := hown
  refine lv_iload_n hx hb dX10_fewest_2 rfl (lv_at hl 2 rfl) ?_
  refine lv_bipush (v := 10) hx hb dX10_fewest_3 (by decide) ?_
  refine lv_icmp_ge (tgt := 21) hx hb dX10_fewest_5 (by decide) (fun c8 => ?_) (fun c8 => ?_)
  · have hf := ifp c8 hf
    obtain ⟨q5, hfq5, eq5⟩ := out1_some hf
    subst eq5
    have hf := hfq5
    have hq := hq.2 _ rfl
    exact wX10_fewest_21 C hk hf hq H locs ls hw hS (lv_sub hl [0, 1] rfl)
  · have hf := ifn c8 hf
    refine lv_aload_n hx hb dX10_fewest_8 rfl (lv_at hl 0 rfl) ?_
    refine va_get (ci := 10) (v := .ref (aa Γ o 40)) (C := RX10) (T := TX10) (N := 49) hx hb htw uwX10 hown hE.1 (wo_me hw hk) 0 rfl rfl 40 (by decide) (htw _ mw1283) (fun _ h9 => h9) rfl dX10_fewest_9 ?_
    refine lv_iload_n hx hb dX10_fewest_12 rfl (lv_at hl 2 rfl) ?_
    refine lv_iconst (v := 0) hx hb dX10_fewest_13 (by decide) ?_
    obtain ⟨g6, hf⟩ := gd_some hf
    obtain ⟨r7, hr7, hf⟩ := bd hf
    have hr7 := Option.some.inj hr7
    refine wo_iast hx hb hE hw hS hk (q0 := 19) rfl (inR_in g6) (sa10_40 hr7) dX10_fewest_14 (fun H locs hw hS => ?_)
    refine lv_iinc (v := v2 + 1) (lv' := [(2, .int (v2 + 1)), (0, .ref (ad Γ o)), (1, .int v1)]) hx hb dX10_fewest_15 hl (k := 2) rfl (by rfl) (by decide) rfl (fun ls hl => ?_)
    refine lv_goto (tgt := 2) hx hb dX10_fewest_18 (by decide) ?_
    obtain rfl := Option.some.inj hf
    exact hq.1 _ rfl H locs ls hw hS (lv_sub hl [1, 2, 0] rfl)

set_option maxRecDepth 100000 in
set_option maxHeartbeats 4000000 in
theorem lwX10_fewest_2 {p : Program} {l : Launch} {e : Env} {s : State} {m : MethodId} {args : Array Value} {below : List Frame} {meth : Method} {c : Code} {Γ : Gm} {A : Nat → Prop} {G : Gs} {o : Nat} {r : Rec} {v1 : Int32} {v2 : Int32} {q : (Rec × Int32)} {fin : Rec × Int32} (C : Cx p s m args meth c yX10_fewest cX10_fewest 3 (some .int) Γ A) (hk : kd Γ o = some 10) (hf : iter (fun st : Int32 × Rec => bX10_fewest_2 st.2 v1 st.1) (v2, r) = some q) (hq : (fun x => x = fin) q) : Wk p l e { frames := 2, cells := 0, slots := 0, locals := 48 } s m args below meth c Γ A (ug G o fin.1) (some (.int fin.2)) 2 3 [(0, .ref (ad Γ o)), (1, .int v1), (2, .int v2)] [] (ug G o r) := by
  intro H locs ls hw hS hl
  refine iter_walk (P := (fun st : Int32 × Rec => Wk p l e { frames := 2, cells := 0, slots := 0, locals := 48 } s m args below meth c Γ A (ug G o fin.1) (some (.int fin.2)) 2 3 [(0, .ref (ad Γ o)), (1, .int v1), (2, .int st.1)] [] (ug G o st.2))) (K := (fun x => x = fin)) (fun st q hq1 h1 h2 => ?_) hf hq H locs ls hw hS hl
  exact wX10_fewest_2 (r := st.2) (v2 := st.1) C hk hq1 ⟨h1, h2⟩

noncomputable def fX10_fewest (r : Rec) (v1 : Int32) : Option (Rec × Int32) :=
  iter (fun st : Int32 × Rec => bX10_fewest_2 st.2 v1 st.1) (0, r)
set_option maxRecDepth 100000 in
set_option maxHeartbeats 4000000 in
theorem wX10_fewest_e {p : Program} {l : Launch} {e : Env} {s : State} {m : MethodId} {args : Array Value} {below : List Frame} {meth : Method} {c : Code} {Γ : Gm} {A : Nat → Prop} {G : Gs} {o : Nat} {r : Rec} {v1 : Int32} {q : (Rec × Int32)} {fin : Rec × Int32} (C : Cx p s m args meth c yX10_fewest cX10_fewest 3 (some .int) Γ A) (hk : kd Γ o = some 10) (hf : fX10_fewest r v1 = some q) (hq : (fun x => x = fin) q) : Wk p l e { frames := 2, cells := 0, slots := 0, locals := 48 } s m args below meth c Γ A (ug G o fin.1) (some (.int fin.2)) 0 3 [(0, .ref (ad Γ o)), (1, .int v1)] [] (ug G o r) := by
  intro H locs ls hw hS hl
  unfold fX10_fewest at hf
  obtain ⟨hx, hb, hml, hr, hown, htw, hlocks, hE⟩ := id C
  have hown : s.vm.findClass RX10 = some m.cls := hown
  refine lv_iconst (v := 0) hx hb dX10_fewest_0 (by decide) ?_
  refine lv_istore_n (lv' := [(2, .int 0), (0, .ref (ad Γ o)), (1, .int v1)]) hx hb dX10_fewest_1 rfl hl (by decide) rfl (fun ls hl => ?_)
  exact lwX10_fewest_2 C hk hf hq H locs ls hw hS (lv_sub hl [1, 2, 0] rfl)

theorem kX10_fewest {l : Launch} {Γ : Gm} {A : Nat → Prop} {G : Gs} {o : Nat} {r : Rec} {v1 : Int32} {fin : Rec × Int32} (hk : kd Γ o = some 10) (hf : fX10_fewest r v1 = some fin) : Kt l yX10_fewest cX10_fewest 3 (some .int) 2 48 Γ A (ug G o r) (ug G o fin.1) [.ref (ad Γ o), .int v1] (some (.int fin.2)) :=
  kt_of (by decide) (Nat.le_of_ble_eq_true rfl) (fun p e s m args below meth c C => wX10_fewest_e C hk hf rfl)
theorem kgX10_fewest {l : Launch} {Γ : Gm} {A : Nat → Prop} {G : Gs} {o : Nat} {v1 : Int32} {fin : Rec × Int32} (hk : kd Γ o = some 10) (hf : fX10_fewest (G o) v1 = some fin) : Kt l yX10_fewest cX10_fewest 3 (some .int) 2 48 Γ A G (ug G o fin.1) [.ref (ad Γ o), .int v1] (some (.int fin.2)) := by
  have h := kX10_fewest (l := l) (A := A) (G := G) (r := G o) hk hf
  rw [ug_self] at h
  exact h
noncomputable def fX10_evenings (r : Rec) (v1 : Int32) (v2 : Int32) : Option (Rec × Int32) :=
  (some (si r 0 0)).bind fun r1 => (fX10_in v2 1 99).bind fun z2 => if z2 = 0 then some ((r1, (-1))) else (fX10_hand r1 v1).bind fun z3 => if z3.2 = 0 then some ((z3.1, (-1))) else (fX10_fewest z3.1 v2).bind fun z4 => some ((z4.1, z4.2))
set_option maxRecDepth 100000 in
set_option maxHeartbeats 4000000 in
theorem wX10_evenings_e {p : Program} {l : Launch} {e : Env} {s : State} {m : MethodId} {args : Array Value} {below : List Frame} {meth : Method} {c : Code} {Γ : Gm} {A : Nat → Prop} {G : Gs} {o : Nat} {r : Rec} {v1 : Int32} {v2 : Int32} {q : (Rec × Int32)} {fin : Rec × Int32} (C : Cx p s m args meth c yX10_evenings cX10_evenings 3 (some .int) Γ A) (hk : kd Γ o = some 10) (hf : fX10_evenings r v1 v2 = some q) (hq : (fun x => x = fin) q) : Wk p l e { frames := 3, cells := 0, slots := 0, locals := 70 } s m args below meth c Γ A (ug G o fin.1) (some (.int fin.2)) 0 3 [(0, .ref (ad Γ o)), (1, .int v1), (2, .int v2)] [] (ug G o r) := by
  intro H locs ls hw hS hl
  unfold fX10_evenings at hf
  obtain ⟨hx, hb, hml, hr, hown, htw, hlocks, hE⟩ := id C
  have hown : s.vm.findClass RX10 = some m.cls := hown
  refine lv_aload_n hx hb dX10_evenings_0 rfl (lv_at hl 0 rfl) ?_
  refine lv_iconst (v := 0) hx hb dX10_evenings_1 (by decide) ?_
  obtain ⟨r1, hr1, hf⟩ := bd hf
  have hr1 := Option.some.inj hr1
  refine wo_put (C := RX10) (T := TX10) (N := 49) (v := .int 0) (ty := .int) hx hb htw uwX10 tyX10 tyX10_ok nmX10 hown hE hw hS hk rfl rfl 0 (by decide) (htw _ mw1243) (fun _ h9 => h9) rfl (tyX10_ok 0 (by decide)) rfl rfl (Nat.le_of_ble_eq_true rfl) (st10_0 hr1) dX10_evenings_2 (fun H locs hw hS => ?_)
  refine lv_iload_n hx hb dX10_evenings_5 rfl (lv_at hl 2 rfl) ?_
  refine lv_iconst (v := 1) hx hb dX10_evenings_6 (by decide) ?_
  refine lv_bipush (v := 99) hx hb dX10_evenings_7 (by decide) ?_
  obtain ⟨z2, hz2, hf⟩ := bd hf
  refine cl_Ss (rest := []) (kX10_in (l := l) (Γ := Γ) (A := A) (G := (ug G o r1)) hz2) ⟨hx, hb, hml, hown, htw⟩ hE hw hS mw1404 mw1405 mw129 mw1406 pdX10_in ⟨Nat.le_of_ble_eq_true rfl, Nat.le_of_ble_eq_true rfl⟩ rfl rfl hl.1 (Nat.le_of_ble_eq_true rfl) dX10_evenings_9 (fun H locs hw hS => ?_)
  refine lv_if_eq (tgt := 31) hx hb dX10_evenings_12 (by decide) (fun c6 => ?_) (fun c6 => ?_)
  · have hf := ifp c6 hf
    refine lv_iconst (v := (-1)) hx hb dX10_evenings_31 (by decide) ?_
    obtain rfl := Option.some.inj hf
    subst hq
    exact rt_i C hw hS dX10_evenings_32
  · have hf := ifn c6 hf
    refine lv_aload_n hx hb dX10_evenings_15 rfl (lv_at hl 0 rfl) ?_
    refine lv_iload_n hx hb dX10_evenings_16 rfl (lv_at hl 1 rfl) ?_
    obtain ⟨z3, hz3, hf⟩ := bd hf
    refine cl_Vs (rest := []) (kX10_hand (l := l) (Γ := Γ) (A := A) (G := G) (o := o) hk hz3) ⟨hx, hb, hml, hown, htw⟩ hE hw hS (wo_me hw hk) (q0 := 0) rfl rfl mw1537 mw1539 mw65 mw129 mw1540 pdX10_hand ⟨Nat.le_of_ble_eq_true rfl, Nat.le_of_ble_eq_true rfl⟩ rfl rfl hl.1 (Nat.le_of_ble_eq_true rfl) dX10_evenings_17 (fun H locs hw hS => ?_)
    refine lv_if_eq (tgt := 31) hx hb dX10_evenings_20 (by decide) (fun c5 => ?_) (fun c5 => ?_)
    · have hf := ifp c5 hf
      refine lv_iconst (v := (-1)) hx hb dX10_evenings_31 (by decide) ?_
      obtain rfl := Option.some.inj hf
      subst hq
      exact rt_i C hw hS dX10_evenings_32
    · have hf := ifn c5 hf
      refine lv_aload_n hx hb dX10_evenings_23 rfl (lv_at hl 0 rfl) ?_
      refine lv_iload_n hx hb dX10_evenings_24 rfl (lv_at hl 2 rfl) ?_
      obtain ⟨z4, hz4, hf⟩ := bd hf
      refine cl_Vs (rest := []) (kX10_fewest (l := l) (Γ := Γ) (A := A) (G := G) (o := o) hk hz4) ⟨hx, hb, hml, hown, htw⟩ hE hw hS (wo_me hw hk) (q0 := 0) rfl rfl mw1739 mw1741 mw103 mw129 mw1742 pdX10_fewest ⟨Nat.le_of_ble_eq_true rfl, Nat.le_of_ble_eq_true rfl⟩ rfl rfl hl.1 (Nat.le_of_ble_eq_true rfl) dX10_evenings_25 (fun H locs hw hS => ?_)
      refine lv_goto (tgt := 32) hx hb dX10_evenings_28 (by decide) ?_
      obtain rfl := Option.some.inj hf
      subst hq
      exact rt_i C hw hS dX10_evenings_32

theorem kX10_evenings {l : Launch} {Γ : Gm} {A : Nat → Prop} {G : Gs} {o : Nat} {r : Rec} {v1 : Int32} {v2 : Int32} {fin : Rec × Int32} (hk : kd Γ o = some 10) (hf : fX10_evenings r v1 v2 = some fin) : Kt l yX10_evenings cX10_evenings 3 (some .int) 3 70 Γ A (ug G o r) (ug G o fin.1) [.ref (ad Γ o), .int v1, .int v2] (some (.int fin.2)) :=
  kt_of (by decide) (Nat.le_of_ble_eq_true rfl) (fun p e s m args below meth c C => wX10_evenings_e C hk hf rfl)
theorem kgX10_evenings {l : Launch} {Γ : Gm} {A : Nat → Prop} {G : Gs} {o : Nat} {v1 : Int32} {v2 : Int32} {fin : Rec × Int32} (hk : kd Γ o = some 10) (hf : fX10_evenings (G o) v1 v2 = some fin) : Kt l yX10_evenings cX10_evenings 3 (some .int) 3 70 Γ A G (ug G o fin.1) [.ref (ad Γ o), .int v1, .int v2] (some (.int fin.2)) := by
  have h := kX10_evenings (l := l) (A := A) (G := G) (r := G o) hk hf
  rw [ug_self] at h
  exact h
noncomputable def bX10_common_31 (v4 : Int64) : Option Int64 :=
  some (v4)
set_option maxRecDepth 100000 in
set_option maxHeartbeats 4000000 in
theorem wX10_common_31 {p : Program} {l : Launch} {e : Env} {s : State} {m : MethodId} {args : Array Value} {below : List Frame} {meth : Method} {c : Code} {Γ : Gm} {A : Nat → Prop} {G : Gs} {v4 : Int64} {q : Int64} {fin : Int64} (C : Cx p s m args meth c yX10_common cX10_common 10 (some .long) Γ A) (hf : bX10_common_31 v4 = some q) (hq : (fun x => x = fin) q) : Wk p l e { frames := 0, cells := 0, slots := 0, locals := 0 } s m args below meth c Γ A G (some (.long fin)) 31 10 [(4, .long v4)] [] G := by
  intro H locs ls hw hS hl
  unfold bX10_common_31 at hf
  obtain ⟨hx, hb, hml, hr, hown, htw, hlocks, hE⟩ := id C
  have hown : s.vm.findClass RX10 = some m.cls := hown
  refine lv_lload hx hb dX10_common_31 (lv_at hl 0 rfl) ?_
  obtain rfl := Option.some.inj hf
  subst hq
  exact rt_l C hw hS dX10_common_33

noncomputable def bX10_common_6 (v4 : Int64) (v6 : Int64) : Option ((Int64 × Int64) ⊕ Int64) :=
  if (lg_cmp v6 0) = 0 then out1 (bX10_common_31 v4) else gd (nzl v6) (some (.inl (v6, v4 - v4 / v6 * v6)))
set_option maxRecDepth 100000 in
set_option maxHeartbeats 4000000 in
theorem wX10_common_6 {p : Program} {l : Launch} {e : Env} {s : State} {m : MethodId} {args : Array Value} {below : List Frame} {meth : Method} {c : Code} {Γ : Gm} {A : Nat → Prop} {G : Gs} {v4 : Int64} {v6 : Int64} {q : ((Int64 × Int64) ⊕ Int64)} {fin : Int64} (C : Cx p s m args meth c yX10_common cX10_common 10 (some .long) Γ A) (hf : bX10_common_6 v4 v6 = some q) (hq : (KC (fun st : Int64 × Int64 => Wk p l e { frames := 0, cells := 0, slots := 0, locals := 0 } s m args below meth c Γ A G (some (.long fin)) 6 10 [(4, .long st.1), (6, .long st.2)] [] G) (fun x => x = fin)) q) : Wk p l e { frames := 0, cells := 0, slots := 0, locals := 0 } s m args below meth c Γ A G (some (.long fin)) 6 10 [(4, .long v4), (6, .long v6)] [] G := by
  intro H locs ls hw hS hl
  unfold bX10_common_6 at hf
  obtain ⟨hx, hb, hml, hr, hown, htw, hlocks, hE⟩ := id C
  have hown : s.vm.findClass RX10 = some m.cls := hown
  refine lv_lload hx hb dX10_common_6 (lv_at hl 1 rfl) ?_
  refine lv_lconst (v := 0) hx hb dX10_common_8 (by decide) ?_
  refine W.lcmp hx hb dX10_common_9 ?_
  refine lv_if_eq (tgt := 31) hx hb dX10_common_10 (by decide) (fun c3 => ?_) (fun c3 => ?_)
  · have hf := ifp c3 hf
    obtain ⟨q1, hfq1, eq1⟩ := out1_some hf
    subst eq1
    have hf := hfq1
    have hq := hq.2 _ rfl
    exact wX10_common_31 C hf hq H locs ls hw hS (lv_sub hl [0] rfl)
  · have hf := ifn c3 hf
    refine lv_lload hx hb dX10_common_13 (lv_at hl 0 rfl) ?_
    refine lv_lload hx hb dX10_common_15 (lv_at hl 1 rfl) ?_
    obtain ⟨g2, hf⟩ := gd_some hf
    refine lv_lrem hx hb dX10_common_17 (nzl_ne g2) ?_
    refine lv_lstore (lv' := [(8, .long (v4 - v4 / v6 * v6)), (4, .long v4), (6, .long v6)]) hx hb dX10_common_18 hl (by decide) rfl (fun ls hl => ?_)
    refine lv_lload hx hb dX10_common_20 (lv_at hl 2 rfl) ?_
    refine lv_lstore (lv' := [(4, .long v6), (8, .long (v4 - v4 / v6 * v6)), (6, .long v6)]) hx hb dX10_common_22 hl (by decide) rfl (fun ls hl => ?_)
    refine lv_lload hx hb dX10_common_24 (lv_at hl 1 rfl) ?_
    refine lv_lstore (lv' := [(6, .long (v4 - v4 / v6 * v6)), (4, .long v6), (8, .long (v4 - v4 / v6 * v6))]) hx hb dX10_common_26 hl (by decide) rfl (fun ls hl => ?_)
    refine lv_goto (tgt := 6) hx hb dX10_common_28 (by decide) ?_
    obtain rfl := Option.some.inj hf
    exact hq.1 _ rfl H locs ls hw hS (lv_sub hl [1, 0] rfl)

set_option maxRecDepth 100000 in
set_option maxHeartbeats 4000000 in
theorem lwX10_common_6 {p : Program} {l : Launch} {e : Env} {s : State} {m : MethodId} {args : Array Value} {below : List Frame} {meth : Method} {c : Code} {Γ : Gm} {A : Nat → Prop} {G : Gs} {v4 : Int64} {v6 : Int64} {q : Int64} {fin : Int64} (C : Cx p s m args meth c yX10_common cX10_common 10 (some .long) Γ A) (hf : iter (fun st : Int64 × Int64 => bX10_common_6 st.1 st.2) (v4, v6) = some q) (hq : (fun x => x = fin) q) : Wk p l e { frames := 0, cells := 0, slots := 0, locals := 0 } s m args below meth c Γ A G (some (.long fin)) 6 10 [(4, .long v4), (6, .long v6)] [] G := by
  intro H locs ls hw hS hl
  refine iter_walk (P := (fun st : Int64 × Int64 => Wk p l e { frames := 0, cells := 0, slots := 0, locals := 0 } s m args below meth c Γ A G (some (.long fin)) 6 10 [(4, .long st.1), (6, .long st.2)] [] G)) (K := (fun x => x = fin)) (fun st q hq1 h1 h2 => ?_) hf hq H locs ls hw hS hl
  exact wX10_common_6 (v4 := st.1) (v6 := st.2) C hq1 ⟨h1, h2⟩

noncomputable def fX10_common (v0 : Int64) (v2 : Int64) : Option Int64 :=
  iter (fun st : Int64 × Int64 => bX10_common_6 st.1 st.2) (v0, v2)
set_option maxRecDepth 100000 in
set_option maxHeartbeats 4000000 in
theorem wX10_common_e {p : Program} {l : Launch} {e : Env} {s : State} {m : MethodId} {args : Array Value} {below : List Frame} {meth : Method} {c : Code} {Γ : Gm} {A : Nat → Prop} {G : Gs} {v0 : Int64} {v2 : Int64} {q : Int64} {fin : Int64} (C : Cx p s m args meth c yX10_common cX10_common 10 (some .long) Γ A) (hf : fX10_common v0 v2 = some q) (hq : (fun x => x = fin) q) : Wk p l e { frames := 0, cells := 0, slots := 0, locals := 0 } s m args below meth c Γ A G (some (.long fin)) 0 10 [(0, .long v0), (2, .long v2)] [] G := by
  intro H locs ls hw hS hl
  unfold fX10_common at hf
  obtain ⟨hx, hb, hml, hr, hown, htw, hlocks, hE⟩ := id C
  have hown : s.vm.findClass RX10 = some m.cls := hown
  refine lv_lload_n hx hb dX10_common_0 rfl (lv_at hl 0 rfl) ?_
  refine lv_lstore (lv' := [(4, .long v0), (0, .long v0), (2, .long v2)]) hx hb dX10_common_1 hl (by decide) rfl (fun ls hl => ?_)
  refine lv_lload_n hx hb dX10_common_3 rfl (lv_at hl 2 rfl) ?_
  refine lv_lstore (lv' := [(6, .long v2), (4, .long v0), (0, .long v0), (2, .long v2)]) hx hb dX10_common_4 hl (by decide) rfl (fun ls hl => ?_)
  exact lwX10_common_6 C hf hq H locs ls hw hS (lv_sub hl [1, 0] rfl)

theorem kX10_common {l : Launch} {Γ : Gm} {A : Nat → Prop} {G : Gs} {v0 : Int64} {v2 : Int64} {fin : Int64} (hf : fX10_common v0 v2 = some fin) : Kt l yX10_common cX10_common 10 (some .long) 0 0 Γ A G G [.long v0, .long v2] (some (.long fin)) :=
  kt_of (by decide) (Nat.le_of_ble_eq_true rfl) (fun p e s m args below meth c C => wX10_common_e C hf rfl)
