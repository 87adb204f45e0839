noncomputable def bX10_cut_133 (r : Rec) (v3 : Int32) (v4 : Int32) (v5 : Int32) : Option (Rec × Int32) :=
  if v3 = 0 then some ((r, v5)) else some ((r, v4))
set_option maxRecDepth 100000 in
set_option maxHeartbeats 4000000 in
theorem wX10_cut_133 {p : Program} {l : Launch} {e : Env} {s : State} {m : MethodId} {args : Array Value} {below : List Frame} {meth : Method} {c : Code} {Γ : Gm} {A : Nat → Prop} {G : Gs} {o : Nat} {r : Rec} {v3 : Int32} {v4 : Int32} {v5 : Int32} {q : (Rec × Int32)} {fin : Rec × Int32} (C : Cx p s m args meth c yX10_cut cX10_cut 8 (some .int) Γ A) (hk : kd Γ o = some 10) (hf : bX10_cut_133 r v3 v4 v5 = some q) (hq : (fun x => x = fin) q) : Wk p l e { frames := 5, cells := 0, slots := 0, locals := 113 } s m args below meth c Γ A (ug G o fin.1) (some (.int fin.2)) 133 8 [(3, .int v3), (4, .int v4), (5, .int v5)] [] (ug G o r) := by
  intro H locs ls hw hS hl
  unfold bX10_cut_133 at hf
  obtain ⟨hx, hb, hml, hr, hown, htw, hlocks, hE⟩ := id C
  have hown : s.vm.findClass RX10 = some m.cls := hown
  refine lv_iload_n hx hb dX10_cut_133 rfl (lv_at hl 0 rfl) ?_
  refine lv_if_eq (tgt := 142) hx hb dX10_cut_134 (by decide) (fun c1 => ?_) (fun c1 => ?_)
  · have hf := ifp c1 hf
    refine lv_iload hx hb dX10_cut_142 (lv_at hl 2 rfl) ?_
    obtain rfl := Option.some.inj hf
    subst hq
    exact rt_i C hw hS dX10_cut_144
  · have hf := ifn c1 hf
    refine lv_iload hx hb dX10_cut_137 (lv_at hl 1 rfl) ?_
    refine lv_goto (tgt := 144) hx hb dX10_cut_139 (by decide) ?_
    obtain rfl := Option.some.inj hf
    subst hq
    exact rt_i C hw hS dX10_cut_144

noncomputable def bX10_cut_116 (r : Rec) (v2 : Int32) (v3 : Int32) (v5 : Int32) (v6 : Int32) (v7 : Int32) (s0 : Int32) : Option ((Int32 × Int32 × Int32) ⊕ (Rec × Int32)) :=
  (fX10_greater v5 v7).bind fun z2 => some (.inl (s0, z2, v6 + 1))
set_option maxRecDepth 100000 in
set_option maxHeartbeats 4000000 in
theorem wX10_cut_116 {p : Program} {l : Launch} {e : Env} {s : State} {m : MethodId} {args : Array Value} {below : List Frame} {meth : Method} {c : Code} {Γ : Gm} {A : Nat → Prop} {G : Gs} {o : Nat} {r : Rec} {v2 : Int32} {v3 : Int32} {v5 : Int32} {v6 : Int32} {v7 : Int32} {s0 : Int32} {q : ((Int32 × Int32 × Int32) ⊕ (Rec × Int32))} {fin : Rec × Int32} (C : Cx p s m args meth c yX10_cut cX10_cut 8 (some .int) Γ A) (hk : kd Γ o = some 10) (hf : bX10_cut_116 r v2 v3 v5 v6 v7 s0 = some q) (hq : (KC (fun st : Int32 × Int32 × Int32 => Wk p l e { frames := 5, cells := 0, slots := 0, locals := 113 } s m args below meth c Γ A (ug G o fin.1) (some (.int fin.2)) 33 8 [(0, .ref (ad Γ o)), (2, .int v2), (3, .int v3), (4, .int st.1), (5, .int st.2.1), (6, .int st.2.2)] [] (ug G o r)) (fun x => x = fin)) q) : Wk p l e { frames := 5, cells := 0, slots := 0, locals := 113 } s m args below meth c Γ A (ug G o fin.1) (some (.int fin.2)) 116 8 [(0, .ref (ad Γ o)), (2, .int v2), (3, .int v3), (5, .int v5), (6, .int v6), (7, .int v7)] [.int s0] (ug G o r) := by
  intro H locs ls hw hS hl
  unfold bX10_cut_116 at hf
  obtain ⟨hx, hb, hml, hr, hown, htw, hlocks, hE⟩ := id C
  have hown : s.vm.findClass RX10 = some m.cls := hown
  refine lv_istore (lv' := [(4, .int s0), (0, .ref (ad Γ o)), (2, .int v2), (3, .int v3), (5, .int v5), (6, .int v6), (7, .int v7)]) hx hb dX10_cut_116 hl (by decide) rfl (fun ls hl => ?_)
  refine lv_iload hx hb dX10_cut_118 (lv_at hl 4 rfl) ?_
  refine lv_iload hx hb dX10_cut_120 (lv_at hl 6 rfl) ?_
  obtain ⟨z2, hz2, hf⟩ := bd hf
  refine cl_Ss (rest := []) (kX10_greater (l := l) (Γ := Γ) (A := A) (G := (ug G o r)) hz2) ⟨hx, hb, hml, hown, htw⟩ hE hw hS mw1467 mw1468 mw129 mw1469 pdX10_greater ⟨Nat.le_of_ble_eq_true rfl, Nat.le_of_ble_eq_true rfl⟩ rfl rfl hl.1 (Nat.le_of_ble_eq_true rfl) dX10_cut_122 (fun H locs hw hS => ?_)
  refine lv_istore (lv' := [(5, .int z2), (4, .int s0), (0, .ref (ad Γ o)), (2, .int v2), (3, .int v3), (6, .int v6), (7, .int v7)]) hx hb dX10_cut_125 hl (by decide) rfl (fun ls hl => ?_)
  refine lv_iinc (v := v6 + 1) (lv' := [(6, .int (v6 + 1)), (5, .int z2), (4, .int s0), (0, .ref (ad Γ o)), (2, .int v2), (3, .int v3), (7, .int v7)]) hx hb dX10_cut_127 hl (k := 5) rfl (by rfl) (by decide) rfl (fun ls hl => ?_)
  refine lv_goto (tgt := 33) hx hb dX10_cut_130 (by decide) ?_
  obtain rfl := Option.some.inj hf
  exact hq.1 _ rfl H locs ls hw hS (lv_sub hl [3, 4, 5, 2, 1, 0] rfl)

noncomputable def bX10_cut_109 (r : Rec) (v2 : Int32) (v3 : Int32) (v5 : Int32) (v6 : Int32) (v7 : Int32) : Option ((Int32 × Int32 × Int32) ⊕ (Rec × Int32)) :=
  bX10_cut_116 r v2 v3 v5 v6 v7 v6
set_option maxRecDepth 100000 in
set_option maxHeartbeats 4000000 in
theorem wX10_cut_109 {p : Program} {l : Launch} {e : Env} {s : State} {m : MethodId} {args : Array Value} {below : List Frame} {meth : Method} {c : Code} {Γ : Gm} {A : Nat → Prop} {G : Gs} {o : Nat} {r : Rec} {v2 : Int32} {v3 : Int32} {v5 : Int32} {v6 : Int32} {v7 : Int32} {q : ((Int32 × Int32 × Int32) ⊕ (Rec × Int32))} {fin : Rec × Int32} (C : Cx p s m args meth c yX10_cut cX10_cut 8 (some .int) Γ A) (hk : kd Γ o = some 10) (hf : bX10_cut_109 r v2 v3 v5 v6 v7 = some q) (hq : (KC (fun st : Int32 × Int32 × Int32 => Wk p l e { frames := 5, cells := 0, slots := 0, locals := 113 } s m args below meth c Γ A (ug G o fin.1) (some (.int fin.2)) 33 8 [(0, .ref (ad Γ o)), (2, .int v2), (3, .int v3), (4, .int st.1), (5, .int st.2.1), (6, .int st.2.2)] [] (ug G o r)) (fun x => x = fin)) q) : Wk p l e { frames := 5, cells := 0, slots := 0, locals := 113 } s m args below meth c Γ A (ug G o fin.1) (some (.int fin.2)) 109 8 [(0, .ref (ad Γ o)), (2, .int v2), (3, .int v3), (5, .int v5), (6, .int v6), (7, .int v7)] [] (ug G o r) := by
  intro H locs ls hw hS hl
  unfold bX10_cut_109 at hf
  obtain ⟨hx, hb, hml, hr, hown, htw, hlocks, hE⟩ := id C
  have hown : s.vm.findClass RX10 = some m.cls := hown
  refine lv_iload hx hb dX10_cut_109 (lv_at hl 4 rfl) ?_
  refine lv_goto (tgt := 116) hx hb dX10_cut_111 (by decide) ?_
  exact wX10_cut_116 C hk hf hq H locs ls hw hS hl

noncomputable def bX10_cut_114 (r : Rec) (v2 : Int32) (v3 : Int32) (v4 : Int32) (v5 : Int32) (v6 : Int32) (v7 : Int32) : Option ((Int32 × Int32 × Int32) ⊕ (Rec × Int32)) :=
  bX10_cut_116 r v2 v3 v5 v6 v7 v4
set_option maxRecDepth 100000 in
set_option maxHeartbeats 4000000 in
theorem wX10_cut_114 {p : Program} {l : Launch} {e : Env} {s : State} {m : MethodId} {args : Array Value} {below : List Frame} {meth : Method} {c : Code} {Γ : Gm} {A : Nat → Prop} {G : Gs} {o : Nat} {r : Rec} {v2 : Int32} {v3 : Int32} {v4 : Int32} {v5 : Int32} {v6 : Int32} {v7 : Int32} {q : ((Int32 × Int32 × Int32) ⊕ (Rec × Int32))} {fin : Rec × Int32} (C : Cx p s m args meth c yX10_cut cX10_cut 8 (some .int) Γ A) (hk : kd Γ o = some 10) (hf : bX10_cut_114 r v2 v3 v4 v5 v6 v7 = some q) (hq : (KC (fun st : Int32 × Int32 × Int32 => Wk p l e { frames := 5, cells := 0, slots := 0, locals := 113 } s m args below meth c Γ A (ug G o fin.1) (some (.int fin.2)) 33 8 [(0, .ref (ad Γ o)), (2, .int v2), (3, .int v3), (4, .int st.1), (5, .int st.2.1), (6, .int st.2.2)] [] (ug G o r)) (fun x => x = fin)) q) : Wk p l e { frames := 5, cells := 0, slots := 0, locals := 113 } s m args below meth c Γ A (ug G o fin.1) (some (.int fin.2)) 114 8 [(0, .ref (ad Γ o)), (2, .int v2), (3, .int v3), (4, .int v4), (5, .int v5), (6, .int v6), (7, .int v7)] [] (ug G o r) := by
  intro H locs ls hw hS hl
  unfold bX10_cut_114 at hf
  obtain ⟨hx, hb, hml, hr, hown, htw, hlocks, hE⟩ := id C
  have hown : s.vm.findClass RX10 = some m.cls := hown
  refine lv_iload hx hb dX10_cut_114 (lv_at hl 3 rfl) ?_
  exact wX10_cut_116 C hk hf hq H locs ls hw hS (lv_sub hl [0, 1, 2, 4, 5, 6] rfl)

noncomputable def bX10_cut_80 (r : Rec) (v2 : Int32) (v3 : Int32) (v4 : Int32) (v5 : Int32) (v6 : Int32) (s0 : Int32) : Option ((Int32 × Int32 × Int32) ⊕ (Rec × Int32)) :=
  if v5 < s0 then bX10_cut_109 r v2 v3 v5 v6 s0 else if s0 = v5 then (fX10_ones v6).bind fun z3 => (fX10_ones v4).bind fun z4 => if z4 ≤ z3 then bX10_cut_114 r v2 v3 v4 v5 v6 s0 else bX10_cut_109 r v2 v3 v5 v6 s0 else bX10_cut_114 r v2 v3 v4 v5 v6 s0
set_option maxRecDepth 100000 in
set_option maxHeartbeats 4000000 in
theorem wX10_cut_80 {p : Program} {l : Launch} {e : Env} {s : State} {m : MethodId} {args : Array Value} {below : List Frame} {meth : Method} {c : Code} {Γ : Gm} {A : Nat → Prop} {G : Gs} {o : Nat} {r : Rec} {v2 : Int32} {v3 : Int32} {v4 : Int32} {v5 : Int32} {v6 : Int32} {s0 : Int32} {q : ((Int32 × Int32 × Int32) ⊕ (Rec × Int32))} {fin : Rec × Int32} (C : Cx p s m args meth c yX10_cut cX10_cut 8 (some .int) Γ A) (hk : kd Γ o = some 10) (hf : bX10_cut_80 r v2 v3 v4 v5 v6 s0 = some q) (hq : (KC (fun st : Int32 × Int32 × Int32 => Wk p l e { frames := 5, cells := 0, slots := 0, locals := 113 } s m args below meth c Γ A (ug G o fin.1) (some (.int fin.2)) 33 8 [(0, .ref (ad Γ o)), (2, .int v2), (3, .int v3), (4, .int st.1), (5, .int st.2.1), (6, .int st.2.2)] [] (ug G o r)) (fun x => x = fin)) q) : Wk p l e { frames := 5, cells := 0, slots := 0, locals := 113 } s m args below meth c Γ A (ug G o fin.1) (some (.int fin.2)) 80 8 [(0, .ref (ad Γ o)), (2, .int v2), (3, .int v3), (4, .int v4), (5, .int v5), (6, .int v6)] [.int s0] (ug G o r) := by
  intro H locs ls hw hS hl
  unfold bX10_cut_80 at hf
  obtain ⟨hx, hb, hml, hr, hown, htw, hlocks, hE⟩ := id C
  have hown : s.vm.findClass RX10 = some m.cls := hown
  refine lv_istore (lv' := [(7, .int s0), (0, .ref (ad Γ o)), (2, .int v2), (3, .int v3), (4, .int v4), (5, .int v5), (6, .int v6)]) hx hb dX10_cut_80 hl (by decide) rfl (fun ls hl => ?_)
  refine lv_iload hx hb dX10_cut_82 (lv_at hl 0 rfl) ?_
  refine lv_iload hx hb dX10_cut_84 (lv_at hl 5 rfl) ?_
  refine lv_icmp_gt (tgt := 109) hx hb dX10_cut_86 (by decide) (fun c7 => ?_) (fun c7 => ?_)
  · have hf := ifp c7 hf
    exact wX10_cut_109 C hk hf hq H locs ls hw hS (lv_sub hl [1, 2, 3, 5, 6, 0] rfl)
  · have hf := ifn c7 hf
    refine lv_iload hx hb dX10_cut_89 (lv_at hl 0 rfl) ?_
    refine lv_iload hx hb dX10_cut_91 (lv_at hl 5 rfl) ?_
    refine lv_icmp_ne (tgt := 114) hx hb dX10_cut_93 (by decide) (fun c6 => ?_) (fun c6 => ?_)
    · have hf := ifn c6 hf
      exact wX10_cut_114 C hk hf hq H locs ls hw hS (lv_sub hl [1, 2, 3, 4, 5, 6, 0] rfl)
    · have hf := ifp c6 hf
      refine lv_iload hx hb dX10_cut_96 (lv_at hl 6 rfl) ?_
      obtain ⟨z3, hz3, hf⟩ := bd hf
      refine cl_Ss (rest := []) (kX10_ones (l := l) (Γ := Γ) (A := A) (G := (ug G o r)) hz3) ⟨hx, hb, hml, hown, htw⟩ hE hw hS mw1716 mw1717 mw129 mw1718 pdX10_ones ⟨Nat.le_of_ble_eq_true rfl, Nat.le_of_ble_eq_true rfl⟩ rfl rfl hl.1 (Nat.le_of_ble_eq_true rfl) dX10_cut_98 (fun H locs hw hS => ?_)
      refine lv_iload hx hb dX10_cut_101 (lv_at hl 4 rfl) ?_
      obtain ⟨z4, hz4, hf⟩ := bd hf
      refine cl_Ss (rest := [.int z3]) (kX10_ones (l := l) (Γ := Γ) (A := A) (G := (ug G o r)) hz4) ⟨hx, hb, hml, hown, htw⟩ hE hw hS mw1716 mw1717 mw129 mw1718 pdX10_ones ⟨Nat.le_of_ble_eq_true rfl, Nat.le_of_ble_eq_true rfl⟩ rfl rfl hl.1 (Nat.le_of_ble_eq_true rfl) dX10_cut_103 (fun H locs hw hS => ?_)
      refine lv_icmp_ge (tgt := 114) hx hb dX10_cut_106 (by decide) (fun c5 => ?_) (fun c5 => ?_)
      · have hf := ifp c5 hf
        exact wX10_cut_114 C hk hf hq H locs ls hw hS (lv_sub hl [1, 2, 3, 4, 5, 6, 0] rfl)
      · have hf := ifn c5 hf
        exact wX10_cut_109 C hk hf hq H locs ls hw hS (lv_sub hl [1, 2, 3, 5, 6, 0] rfl)

noncomputable def bX10_cut_33 (r : Rec) (v2 : Int32) (v3 : Int32) (v4 : Int32) (v5 : Int32) (v6 : Int32) : Option ((Int32 × Int32 × Int32) ⊕ (Rec × Int32)) :=
  (fX10_everything r).bind fun z8 => if z8 < v6 then out1 (bX10_cut_133 r v3 v4 v5) else (fX10_ones v6).bind fun z10 => if z10 ≤ v2 then (fX10_everything r).bind fun z11 => (fX10_everything r).bind fun z12 => (fX10_comesOf r (z12 &&& (v6 ^^^ (-1))) (-1)).bind fun z13 => (fX10_weightOf r (z11 &&& (z13 ^^^ (-1)))).bind fun z14 => bX10_cut_80 r v2 v3 v4 v5 v6 z14 else bX10_cut_80 r v2 v3 v4 v5 v6 (-1)
set_option maxRecDepth 100000 in
set_option maxHeartbeats 4000000 in
theorem wX10_cut_33 {p : Program} {l : Launch} {e : Env} {s : State} {m : MethodId} {args : Array Value} {below : List Frame} {meth : Method} {c : Code} {Γ : Gm} {A : Nat → Prop} {G : Gs} {o : Nat} {r : Rec} {v2 : Int32} {v3 : Int32} {v4 : Int32} {v5 : Int32} {v6 : Int32} {q : ((Int32 × Int32 × Int32) ⊕ (Rec × Int32))} {fin : Rec × Int32} (C : Cx p s m args meth c yX10_cut cX10_cut 8 (some .int) Γ A) (hk : kd Γ o = some 10) (hf : bX10_cut_33 r v2 v3 v4 v5 v6 = some q) (hq : (KC (fun st : Int32 × Int32 × Int32 => Wk p l e { frames := 5, cells := 0, slots := 0, locals := 113 } s m args below meth c Γ A (ug G o fin.1) (some (.int fin.2)) 33 8 [(0, .ref (ad Γ o)), (2, .int v2), (3, .int v3), (4, .int st.1), (5, .int st.2.1), (6, .int st.2.2)] [] (ug G o r)) (fun x => x = fin)) q) : Wk p l e { frames := 5, cells := 0, slots := 0, locals := 113 } s m args below meth c Γ A (ug G o fin.1) (some (.int fin.2)) 33 8 [(0, .ref (ad Γ o)), (2, .int v2), (3, .int v3), (4, .int v4), (5, .int v5), (6, .int v6)] [] (ug G o r) := by
  intro H locs ls hw hS hl
  unfold bX10_cut_33 at hf
  obtain ⟨hx, hb, hml, hr, hown, htw, hlocks, hE⟩ := id C
  have hown : s.vm.findClass RX10 = some m.cls := hown
  refine lv_iload hx hb dX10_cut_33 (lv_at hl 5 rfl) ?_
  refine lv_aload_n hx hb dX10_cut_35 rfl (lv_at hl 0 rfl) ?_
  obtain ⟨z8, hz8, hf⟩ := bd hf
  refine cl_Vs (rest := [.int v6]) (kX10_everything (l := l) (Γ := Γ) (A := A) (G := G) (o := o) hk hz8) ⟨hx, hb, hml, hown, htw⟩ hE hw hS (wo_me hw hk) (q0 := 0) rfl rfl mw1692 mw1694 mw95 mw129 mw1695 pdX10_everything ⟨Nat.le_of_ble_eq_true rfl, Nat.le_of_ble_eq_true rfl⟩ rfl rfl hl.1 (Nat.le_of_ble_eq_true rfl) dX10_cut_36 (fun H locs hw hS => ?_)
  refine lv_icmp_gt (tgt := 133) hx hb dX10_cut_39 (by decide) (fun c16 => ?_) (fun c16 => ?_)
  · have hf := ifp c16 hf
    obtain ⟨q9, hfq9, eq9⟩ := out1_some hf
    subst eq9
    have hf := hfq9
    have hq := hq.2 _ rfl
    exact wX10_cut_133 C hk hf hq H locs ls hw hS (lv_sub hl [2, 3, 4] rfl)
  · have hf := ifn c16 hf
    refine lv_iload hx hb dX10_cut_42 (lv_at hl 5 rfl) ?_
    obtain ⟨z10, hz10, hf⟩ := bd hf
    refine cl_Ss (rest := []) (kX10_ones (l := l) (Γ := Γ) (A := A) (G := (ug G o r)) hz10) ⟨hx, hb, hml, hown, htw⟩ hE hw hS mw1716 mw1717 mw129 mw1718 pdX10_ones ⟨Nat.le_of_ble_eq_true rfl, Nat.le_of_ble_eq_true rfl⟩ rfl rfl hl.1 (Nat.le_of_ble_eq_true rfl) dX10_cut_44 (fun H locs hw hS => ?_)
    refine lv_iload_n hx hb dX10_cut_47 rfl (lv_at hl 1 rfl) ?_
    refine lv_icmp_le (tgt := 55) hx hb dX10_cut_48 (by decide) (fun c15 => ?_) (fun c15 => ?_)
    · have hf := ifp c15 hf
      refine lv_aload_n hx hb dX10_cut_55 rfl (lv_at hl 0 rfl) ?_
      refine lv_aload_n hx hb dX10_cut_56 rfl (lv_at hl 0 rfl) ?_
      obtain ⟨z11, hz11, hf⟩ := bd hf
      refine cl_Vs (rest := [.ref (ad Γ o)]) (kX10_everything (l := l) (Γ := Γ) (A := A) (G := G) (o := o) hk hz11) ⟨hx, hb, hml, hown, htw⟩ hE hw hS (wo_me hw hk) (q0 := 0) rfl rfl mw1692 mw1694 mw95 mw129 mw1695 pdX10_everything ⟨Nat.le_of_ble_eq_true rfl, Nat.le_of_ble_eq_true rfl⟩ rfl rfl hl.1 (Nat.le_of_ble_eq_true rfl) dX10_cut_57 (fun H locs hw hS => ?_)
      refine lv_aload_n hx hb dX10_cut_60 rfl (lv_at hl 0 rfl) ?_
      refine lv_aload_n hx hb dX10_cut_61 rfl (lv_at hl 0 rfl) ?_
      obtain ⟨z12, hz12, hf⟩ := bd hf
      refine cl_Vs (rest := [.ref (ad Γ o), .int z11, .ref (ad Γ o)]) (kX10_everything (l := l) (Γ := Γ) (A := A) (G := G) (o := o) hk hz12) ⟨hx, hb, hml, hown, htw⟩ hE hw hS (wo_me hw hk) (q0 := 0) rfl rfl mw1692 mw1694 mw95 mw129 mw1695 pdX10_everything ⟨Nat.le_of_ble_eq_true rfl, Nat.le_of_ble_eq_true rfl⟩ rfl rfl hl.1 (Nat.le_of_ble_eq_true rfl) dX10_cut_62 (fun H locs hw hS => ?_)
      refine lv_iload hx hb dX10_cut_65 (lv_at hl 5 rfl) ?_
      refine lv_iconst (v := (-1)) hx hb dX10_cut_67 (by decide) ?_
      refine lv_ixor hx hb dX10_cut_68 ?_
      refine lv_iand hx hb dX10_cut_69 ?_
      refine lv_iconst (v := (-1)) hx hb dX10_cut_70 (by decide) ?_
      obtain ⟨z13, hz13, hf⟩ := bd hf
      refine cl_Vs (rest := [.int z11, .ref (ad Γ o)]) (kX10_comesOf (l := l) (Γ := Γ) (A := A) (G := G) (o := o) hk hz13) ⟨hx, hb, hml, hown, htw⟩ hE hw hS (wo_me hw hk) (q0 := 0) rfl rfl mw1696 mw1698 mw96 mw129 mw1699 pdX10_comesOf ⟨Nat.le_of_ble_eq_true rfl, Nat.le_of_ble_eq_true rfl⟩ rfl rfl hl.1 (Nat.le_of_ble_eq_true rfl) dX10_cut_71 (fun H locs hw hS => ?_)
      refine lv_iconst (v := (-1)) hx hb dX10_cut_74 (by decide) ?_
      refine lv_ixor hx hb dX10_cut_75 ?_
      refine lv_iand hx hb dX10_cut_76 ?_
      obtain ⟨z14, hz14, hf⟩ := bd hf
      refine cl_Vs (rest := []) (kX10_weightOf (l := l) (Γ := Γ) (A := A) (G := G) (o := o) hk hz14) ⟨hx, hb, hml, hown, htw⟩ hE hw hS (wo_me hw hk) (q0 := 0) rfl rfl mw1727 mw1729 mw101 mw129 mw1730 pdX10_weightOf ⟨Nat.le_of_ble_eq_true rfl, Nat.le_of_ble_eq_true rfl⟩ rfl rfl hl.1 (Nat.le_of_ble_eq_true rfl) dX10_cut_77 (fun H locs hw hS => ?_)
      exact wX10_cut_80 C hk hf hq H locs ls hw hS hl
    · have hf := ifn c15 hf
      refine lv_iconst (v := (-1)) hx hb dX10_cut_51 (by decide) ?_
      refine lv_goto (tgt := 80) hx hb dX10_cut_52 (by decide) ?_
      exact wX10_cut_80 C hk hf hq H locs ls hw hS hl

set_option maxRecDepth 100000 in
set_option maxHeartbeats 4000000 in
theorem lwX10_cut_33 {p : Program} {l : Launch} {e : Env} {s : State} {m : MethodId} {args : Array Value} {below : List Frame} {meth : Method} {c : Code} {Γ : Gm} {A : Nat → Prop} {G : Gs} {o : Nat} {r : Rec} {v2 : Int32} {v3 : Int32} {v4 : Int32} {v5 : Int32} {v6 : Int32} {q : (Rec × Int32)} {fin : Rec × Int32} (C : Cx p s m args meth c yX10_cut cX10_cut 8 (some .int) Γ A) (hk : kd Γ o = some 10) (hf : iter (fun st : Int32 × Int32 × Int32 => bX10_cut_33 r v2 v3 st.1 st.2.1 st.2.2) (v4, v5, v6) = some q) (hq : (fun x => x = fin) q) : Wk p l e { frames := 5, cells := 0, slots := 0, locals := 113 } s m args below meth c Γ A (ug G o fin.1) (some (.int fin.2)) 33 8 [(0, .ref (ad Γ o)), (2, .int v2), (3, .int v3), (4, .int v4), (5, .int v5), (6, .int v6)] [] (ug G o r) := by
  intro H locs ls hw hS hl
  refine iter_walk (P := (fun st : Int32 × Int32 × Int32 => Wk p l e { frames := 5, cells := 0, slots := 0, locals := 113 } s m args below meth c Γ A (ug G o fin.1) (some (.int fin.2)) 33 8 [(0, .ref (ad Γ o)), (2, .int v2), (3, .int v3), (4, .int st.1), (5, .int st.2.1), (6, .int st.2.2)] [] (ug G o r))) (K := (fun x => x = fin)) (fun st q hq1 h1 h2 => ?_) hf hq H locs ls hw hS hl
  exact wX10_cut_33 (v4 := st.1) (v5 := st.2.1) (v6 := st.2.2) C hk hq1 ⟨h1, h2⟩

noncomputable def fX10_cut (r : Rec) (v1 : Int32) (v2 : Int32) (v3 : Int32) : Option (Rec × Int32) :=
  (some (si r 0 0)).bind fun r17 => (fX10_in v2 0 3).bind fun z18 => if z18 = 0 then some ((r17, (-1))) else (fX10_hand r17 v1).bind fun z19 => if z19.2 = 0 then some ((z19.1, (-1))) else iter (fun st : Int32 × Int32 × Int32 => bX10_cut_33 z19.1 v2 v3 st.1 st.2.1 st.2.2) (0, 0, 0)
set_option maxRecDepth 100000 in
set_option maxHeartbeats 4000000 in
theorem wX10_cut_e {p : Program} {l : Launch} {e : Env} {s : State} {m : MethodId} {args : Array Value} {below : List Frame} {meth : Method} {c : Code} {Γ : Gm} {A : Nat → Prop} {G : Gs} {o : Nat} {r : Rec} {v1 : Int32} {v2 : Int32} {v3 : Int32} {q : (Rec × Int32)} {fin : Rec × Int32} (C : Cx p s m args meth c yX10_cut cX10_cut 8 (some .int) Γ A) (hk : kd Γ o = some 10) (hf : fX10_cut r v1 v2 v3 = some q) (hq : (fun x => x = fin) q) : Wk p l e { frames := 5, cells := 0, slots := 0, locals := 113 } s m args below meth c Γ A (ug G o fin.1) (some (.int fin.2)) 0 8 [(0, .ref (ad Γ o)), (1, .int v1), (2, .int v2), (3, .int v3)] [] (ug G o r) := by
  intro H locs ls hw hS hl
  unfold fX10_cut at hf
  obtain ⟨hx, hb, hml, hr, hown, htw, hlocks, hE⟩ := id C
  have hown : s.vm.findClass RX10 = some m.cls := hown
  refine lv_aload_n hx hb dX10_cut_0 rfl (lv_at hl 0 rfl) ?_
  refine lv_iconst (v := 0) hx hb dX10_cut_1 (by decide) ?_
  obtain ⟨r17, hr17, hf⟩ := bd hf
  have hr17 := Option.some.inj hr17
  refine wo_put (C := RX10) (T := TX10) (N := 49) (v := .int 0) (ty := .int) hx hb htw uwX10 tyX10 tyX10_ok nmX10 hown hE hw hS hk rfl rfl 0 (by decide) (htw _ mw1243) (fun _ h9 => h9) rfl (tyX10_ok 0 (by decide)) rfl rfl (Nat.le_of_ble_eq_true rfl) (st10_0 hr17) dX10_cut_2 (fun H locs hw hS => ?_)
  refine lv_iload_n hx hb dX10_cut_5 rfl (lv_at hl 2 rfl) ?_
  refine lv_iconst (v := 0) hx hb dX10_cut_6 (by decide) ?_
  refine lv_iconst (v := 3) hx hb dX10_cut_7 (by decide) ?_
  obtain ⟨z18, hz18, hf⟩ := bd hf
  refine cl_Ss (rest := []) (kX10_in (l := l) (Γ := Γ) (A := A) (G := (ug G o r17)) hz18) ⟨hx, hb, hml, hown, htw⟩ hE hw hS mw1404 mw1405 mw129 mw1406 pdX10_in ⟨Nat.le_of_ble_eq_true rfl, Nat.le_of_ble_eq_true rfl⟩ rfl rfl hl.1 (Nat.le_of_ble_eq_true rfl) dX10_cut_8 (fun H locs hw hS => ?_)
  refine lv_if_eq (tgt := 22) hx hb dX10_cut_11 (by decide) (fun c21 => ?_) (fun c21 => ?_)
  · have hf := ifp c21 hf
    refine lv_iconst (v := (-1)) hx hb dX10_cut_22 (by decide) ?_
    obtain rfl := Option.some.inj hf
    subst hq
    exact rt_i C hw hS dX10_cut_23
  · have hf := ifn c21 hf
    refine lv_aload_n hx hb dX10_cut_14 rfl (lv_at hl 0 rfl) ?_
    refine lv_iload_n hx hb dX10_cut_15 rfl (lv_at hl 1 rfl) ?_
    obtain ⟨z19, hz19, hf⟩ := bd hf
    refine cl_Vs (rest := []) (kX10_hand (l := l) (Γ := Γ) (A := A) (G := G) (o := o) hk hz19) ⟨hx, hb, hml, hown, htw⟩ hE hw hS (wo_me hw hk) (q0 := 0) rfl rfl mw1537 mw1539 mw65 mw129 mw1540 pdX10_hand ⟨Nat.le_of_ble_eq_true rfl, Nat.le_of_ble_eq_true rfl⟩ rfl rfl hl.1 (Nat.le_of_ble_eq_true rfl) dX10_cut_16 (fun H locs hw hS => ?_)
    refine lv_if_ne (tgt := 24) hx hb dX10_cut_19 (by decide) (fun c20 => ?_) (fun c20 => ?_)
    · have hf := ifn c20 hf
      refine lv_iconst (v := 0) hx hb dX10_cut_24 (by decide) ?_
      refine lv_istore (lv' := [(4, .int 0), (0, .ref (ad Γ o)), (1, .int v1), (2, .int v2), (3, .int v3)]) hx hb dX10_cut_25 hl (by decide) rfl (fun ls hl => ?_)
      refine lv_iconst (v := 0) hx hb dX10_cut_27 (by decide) ?_
      refine lv_istore (lv' := [(5, .int 0), (4, .int 0), (0, .ref (ad Γ o)), (1, .int v1), (2, .int v2), (3, .int v3)]) hx hb dX10_cut_28 hl (by decide) rfl (fun ls hl => ?_)
      refine lv_iconst (v := 0) hx hb dX10_cut_30 (by decide) ?_
      refine lv_istore (lv' := [(6, .int 0), (5, .int 0), (4, .int 0), (0, .ref (ad Γ o)), (1, .int v1), (2, .int v2), (3, .int v3)]) hx hb dX10_cut_31 hl (by decide) rfl (fun ls hl => ?_)
      exact lwX10_cut_33 C hk hf hq H locs ls hw hS (lv_sub hl [3, 5, 6, 2, 1, 0] rfl)
    · have hf := ifp c20 hf
      refine lv_iconst (v := (-1)) hx hb dX10_cut_22 (by decide) ?_
      obtain rfl := Option.some.inj hf
      subst hq
      exact rt_i C hw hS dX10_cut_23

theorem kX10_cut {l : Launch} {Γ : Gm} {A : Nat → Prop} {G : Gs} {o : Nat} {r : Rec} {v1 : Int32} {v2 : Int32} {v3 : Int32} {fin : Rec × Int32} (hk : kd Γ o = some 10) (hf : fX10_cut r v1 v2 v3 = some fin) : Kt l yX10_cut cX10_cut 8 (some .int) 5 113 Γ A (ug G o r) (ug G o fin.1) [.ref (ad Γ o), .int v1, .int v2, .int v3] (some (.int fin.2)) :=
  kt_of (by decide) (Nat.le_of_ble_eq_true rfl) (fun p e s m args below meth c C => wX10_cut_e C hk hf rfl)
theorem kgX10_cut {l : Launch} {Γ : Gm} {A : Nat → Prop} {G : Gs} {o : Nat} {v1 : Int32} {v2 : Int32} {v3 : Int32} {fin : Rec × Int32} (hk : kd Γ o = some 10) (hf : fX10_cut (G o) v1 v2 v3 = some fin) : Kt l yX10_cut cX10_cut 8 (some .int) 5 113 Γ A G (ug G o fin.1) [.ref (ad Γ o), .int v1, .int v2, .int v3] (some (.int fin.2)) := by
  have h := kX10_cut (l := l) (A := A) (G := G) (r := G o) hk hf
  rw [ug_self] at h
  exact h
noncomputable def bX10_after_269 (r : Rec) (v3 : Int32) (v4 : Int32) (v5 : Int32) (v6 : Int32) (v8 : Int32) : Option (Rec × Int32) :=
  if v3 = 0 then some ((r, v8)) else if v3 = 1 then some ((r, v4)) else if v3 = 2 then some ((r, v5)) else some ((r, v6))
set_option maxRecDepth 100000 in
set_option maxHeartbeats 4000000 in
theorem wX10_after_269 {p : Program} {l : Launch} {e : Env} {s : State} {m : MethodId} {args : Array Value} {below : List Frame} {meth : Method} {c : Code} {Γ : Gm} {A : Nat → Prop} {G : Gs} {o : Nat} {r : Rec} {v3 : Int32} {v4 : Int32} {v5 : Int32} {v6 : Int32} {v8 : Int32} {q : (Rec × Int32)} {fin : Rec × Int32} (C : Cx p s m args meth c yX10_after cX10_after 11 (some .int) Γ A) (hk : kd Γ o = some 10) (hf : bX10_after_269 r v3 v4 v5 v6 v8 = some q) (hq : (fun x => x = fin) q) : Wk p l e { frames := 6, cells := 0, slots := 0, locals := 134 } s m args below meth c Γ A (ug G o fin.1) (some (.int fin.2)) 269 11 [(3, .int v3), (4, .int v4), (5, .int v5), (6, .int v6), (8, .int v8)] [] (ug G o r) := by
  intro H locs ls hw hS hl
  unfold bX10_after_269 at hf
  obtain ⟨hx, hb, hml, hr, hown, htw, hlocks, hE⟩ := id C
  have hown : s.vm.findClass RX10 = some m.cls := hown
  refine lv_iload_n hx hb dX10_after_269 rfl (lv_at hl 0 rfl) ?_
  refine lv_if_ne (tgt := 278) hx hb dX10_after_270 (by decide) (fun c3 => ?_) (fun c3 => ?_)
  · have hf := ifn c3 hf
    refine lv_iload_n hx hb dX10_after_278 rfl (lv_at hl 0 rfl) ?_
    refine lv_iconst (v := 1) hx hb dX10_after_279 (by decide) ?_
    refine lv_icmp_ne (tgt := 288) hx hb dX10_after_280 (by decide) (fun c2 => ?_) (fun c2 => ?_)
    · have hf := ifn c2 hf
      refine lv_iload_n hx hb dX10_after_288 rfl (lv_at hl 0 rfl) ?_
      refine lv_iconst (v := 2) hx hb dX10_after_289 (by decide) ?_
      refine lv_icmp_ne (tgt := 298) hx hb dX10_after_290 (by decide) (fun c1 => ?_) (fun c1 => ?_)
      · have hf := ifn c1 hf
        refine lv_iload hx hb dX10_after_298 (lv_at hl 3 rfl) ?_
        obtain rfl := Option.some.inj hf
        subst hq
        exact rt_i C hw hS dX10_after_300
      · have hf := ifp c1 hf
        refine lv_iload hx hb dX10_after_293 (lv_at hl 2 rfl) ?_
        refine lv_goto (tgt := 300) hx hb dX10_after_295 (by decide) ?_
        obtain rfl := Option.some.inj hf
        subst hq
        exact rt_i C hw hS dX10_after_300
    · have hf := ifp c2 hf
      refine lv_iload hx hb dX10_after_283 (lv_at hl 1 rfl) ?_
      refine lv_goto (tgt := 300) hx hb dX10_after_285 (by decide) ?_
      obtain rfl := Option.some.inj hf
      subst hq
      exact rt_i C hw hS dX10_after_300
  · have hf := ifp c3 hf
    refine lv_iload hx hb dX10_after_273 (lv_at hl 4 rfl) ?_
    refine lv_goto (tgt := 300) hx hb dX10_after_275 (by decide) ?_
    obtain rfl := Option.some.inj hf
    subst hq
    exact rt_i C hw hS dX10_after_300

noncomputable def bX10_after_261 (r : Rec) (v3 : Int32) (v4 : Int32) (v5 : Int32) (v6 : Int32) (v9 : Int32) (s0 : Int32) : Option ((Int32 × Int32) ⊕ (Rec × Int32)) :=
  some (.inl (s0, v9 + 1))
set_option maxRecDepth 100000 in
set_option maxHeartbeats 4000000 in
theorem wX10_after_261 {p : Program} {l : Launch} {e : Env} {s : State} {m : MethodId} {args : Array Value} {below : List Frame} {meth : Method} {c : Code} {Γ : Gm} {A : Nat → Prop} {G : Gs} {o : Nat} {r : Rec} {v3 : Int32} {v4 : Int32} {v5 : Int32} {v6 : Int32} {v9 : Int32} {s0 : Int32} {q : ((Int32 × Int32) ⊕ (Rec × Int32))} {fin : Rec × Int32} (C : Cx p s m args meth c yX10_after cX10_after 11 (some .int) Γ A) (hk : kd Γ o = some 10) (hf : bX10_after_261 r v3 v4 v5 v6 v9 s0 = some q) (hq : (KC (fun st : Int32 × Int32 => Wk p l e { frames := 6, cells := 0, slots := 0, locals := 134 } s m args below meth c Γ A (ug G o fin.1) (some (.int fin.2)) 218 11 [(0, .ref (ad Γ o)), (3, .int v3), (4, .int v4), (5, .int v5), (6, .int v6), (8, .int st.1), (9, .int st.2)] [] (ug G o r)) (fun x => x = fin)) q) : Wk p l e { frames := 6, cells := 0, slots := 0, locals := 134 } s m args below meth c Γ A (ug G o fin.1) (some (.int fin.2)) 261 11 [(0, .ref (ad Γ o)), (3, .int v3), (4, .int v4), (5, .int v5), (6, .int v6), (9, .int v9)] [.int s0] (ug G o r) := by
  intro H locs ls hw hS hl
  unfold bX10_after_261 at hf
  obtain ⟨hx, hb, hml, hr, hown, htw, hlocks, hE⟩ := id C
  have hown : s.vm.findClass RX10 = some m.cls := hown
  refine lv_istore (lv' := [(8, .int s0), (0, .ref (ad Γ o)), (3, .int v3), (4, .int v4), (5, .int v5), (6, .int v6), (9, .int v9)]) hx hb dX10_after_261 hl (by decide) rfl (fun ls hl => ?_)
  refine lv_iinc (v := v9 + 1) (lv' := [(9, .int (v9 + 1)), (8, .int s0), (0, .ref (ad Γ o)), (3, .int v3), (4, .int v4), (5, .int v5), (6, .int v6)]) hx hb dX10_after_263 hl (k := 6) rfl (by rfl) (by decide) rfl (fun ls hl => ?_)
  refine lv_goto (tgt := 218) hx hb dX10_after_266 (by decide) ?_
  obtain rfl := Option.some.inj hf
  exact hq.1 _ rfl H locs ls hw hS (lv_sub hl [2, 3, 4, 5, 6, 1, 0] rfl)

noncomputable def bX10_after_251 (r : Rec) (v3 : Int32) (v4 : Int32) (v5 : Int32) (v6 : Int32) (v8 : Int32) (v9 : Int32) (s0 : Int32) (s1 : Int32) : Option ((Int32 × Int32) ⊕ (Rec × Int32)) :=
  if s1 ≤ s0 then bX10_after_261 r v3 v4 v5 v6 v9 v8 else bX10_after_261 r v3 v4 v5 v6 v9 v9
set_option maxRecDepth 100000 in
set_option maxHeartbeats 4000000 in
theorem wX10_after_251 {p : Program} {l : Launch} {e : Env} {s : State} {m : MethodId} {args : Array Value} {below : List Frame} {meth : Method} {c : Code} {Γ : Gm} {A : Nat → Prop} {G : Gs} {o : Nat} {r : Rec} {v3 : Int32} {v4 : Int32} {v5 : Int32} {v6 : Int32} {v8 : Int32} {v9 : Int32} {s0 : Int32} {s1 : Int32} {q : ((Int32 × Int32) ⊕ (Rec × Int32))} {fin : Rec × Int32} (C : Cx p s m args meth c yX10_after cX10_after 11 (some .int) Γ A) (hk : kd Γ o = some 10) (hf : bX10_after_251 r v3 v4 v5 v6 v8 v9 s0 s1 = some q) (hq : (KC (fun st : Int32 × Int32 => Wk p l e { frames := 6, cells := 0, slots := 0, locals := 134 } s m args below meth c Γ A (ug G o fin.1) (some (.int fin.2)) 218 11 [(0, .ref (ad Γ o)), (3, .int v3), (4, .int v4), (5, .int v5), (6, .int v6), (8, .int st.1), (9, .int st.2)] [] (ug G o r)) (fun x => x = fin)) q) : Wk p l e { frames := 6, cells := 0, slots := 0, locals := 134 } s m args below meth c Γ A (ug G o fin.1) (some (.int fin.2)) 251 11 [(0, .ref (ad Γ o)), (3, .int v3), (4, .int v4), (5, .int v5), (6, .int v6), (8, .int v8), (9, .int v9)] [.int s0, .int s1] (ug G o r) := by
  intro H locs ls hw hS hl
  unfold bX10_after_251 at hf
  obtain ⟨hx, hb, hml, hr, hown, htw, hlocks, hE⟩ := id C
  have hown : s.vm.findClass RX10 = some m.cls := hown
  refine lv_icmp_le (tgt := 259) hx hb dX10_after_251 (by decide) (fun c4 => ?_) (fun c4 => ?_)
  · have hf := ifp c4 hf
    refine lv_iload hx hb dX10_after_259 (lv_at hl 5 rfl) ?_
    exact wX10_after_261 C hk hf hq H locs ls hw hS (lv_sub hl [0, 1, 2, 3, 4, 6] rfl)
  · have hf := ifn c4 hf
    refine lv_iload hx hb dX10_after_254 (lv_at hl 6 rfl) ?_
    refine lv_goto (tgt := 261) hx hb dX10_after_256 (by decide) ?_
    exact wX10_after_261 C hk hf hq H locs ls hw hS (lv_sub hl [0, 1, 2, 3, 4, 6] rfl)

noncomputable def bX10_after_218 (r : Rec) (v3 : Int32) (v4 : Int32) (v5 : Int32) (v6 : Int32) (v8 : Int32) (v9 : Int32) : Option ((Int32 × Int32) ⊕ (Rec × Int32)) :=
  if (gi r 26) ≤ v9 then out1 (bX10_after_269 r v3 v4 v5 v6 v8) else gd (inR v9 8) (if v8 = (-1) then bX10_after_251 r v3 v4 v5 v6 v8 v9 0 (ga r 47 (Int32.toNatClampNeg v9)) else gd (inR v8 8) (bX10_after_251 r v3 v4 v5 v6 v8 v9 (ga r 47 (Int32.toNatClampNeg v8)) (ga r 47 (Int32.toNatClampNeg v9))))
set_option maxRecDepth 100000 in
set_option maxHeartbeats 4000000 in
theorem wX10_after_218 {p : Program} {l : Launch} {e : Env} {s : State} {m : MethodId} {args : Array Value} {below : List Frame} {meth : Method} {c : Code} {Γ : Gm} {A : Nat → Prop} {G : Gs} {o : Nat} {r : Rec} {v3 : Int32} {v4 : Int32} {v5 : Int32} {v6 : Int32} {v8 : Int32} {v9 : Int32} {q : ((Int32 × Int32) ⊕ (Rec × Int32))} {fin : Rec × Int32} (C : Cx p s m args meth c yX10_after cX10_after 11 (some .int) Γ A) (hk : kd Γ o = some 10) (hf : bX10_after_218 r v3 v4 v5 v6 v8 v9 = some q) (hq : (KC (fun st : Int32 × Int32 => Wk p l e { frames := 6, cells := 0, slots := 0, locals := 134 } s m args below meth c Γ A (ug G o fin.1) (some (.int fin.2)) 218 11 [(0, .ref (ad Γ o)), (3, .int v3), (4, .int v4), (5, .int v5), (6, .int v6), (8, .int st.1), (9, .int st.2)] [] (ug G o r)) (fun x => x = fin)) q) : Wk p l e { frames := 6, cells := 0, slots := 0, locals := 134 } s m args below meth c Γ A (ug G o fin.1) (some (.int fin.2)) 218 11 [(0, .ref (ad Γ o)), (3, .int v3), (4, .int v4), (5, .int v5), (6, .int v6), (8, .int v8), (9, .int v9)] [] (ug G o r) := by
  intro H locs ls hw hS hl
  unfold bX10_after_218 at hf
  obtain ⟨hx, hb, hml, hr, hown, htw, hlocks, hE⟩ := id C
  have hown : s.vm.findClass RX10 = some m.cls := hown
  refine lv_iload hx hb dX10_after_218 (lv_at hl 6 rfl) ?_
  refine lv_aload_n hx hb dX10_after_220 rfl (lv_at hl 0 rfl) ?_
  refine va_get (ci := 10) (v := .int (gi r 26)) (C := RX10) (T := TX10) (N := 49) hx hb htw uwX10 hown hE.1 (wo_me hw hk) 0 rfl rfl 26 (by decide) (htw _ mw1269) (fun _ h9 => h9) rfl dX10_after_221 ?_
  refine lv_icmp_ge (tgt := 269) hx hb dX10_after_224 (by decide) (fun c9 => ?_) (fun c9 => ?_)
  · have hf := ifp c9 hf
    obtain ⟨q5, hfq5, eq5⟩ := out1_some hf
    subst eq5
    have hf := hfq5
    have hq := hq.2 _ rfl
    exact wX10_after_269 C hk hf hq H locs ls hw hS (lv_sub hl [1, 2, 3, 4, 5] rfl)
  · have hf := ifn c9 hf
    refine lv_aload_n hx hb dX10_after_227 rfl (lv_at hl 0 rfl) ?_
    refine va_get (ci := 10) (v := .ref (aa Γ o 47)) (C := RX10) (T := TX10) (N := 49) hx hb htw uwX10 hown hE.1 (wo_me hw hk) 0 rfl rfl 47 (by decide) (htw _ mw1290) (fun _ h9 => h9) rfl dX10_after_228 ?_
    refine lv_iload hx hb dX10_after_231 (lv_at hl 6 rfl) ?_
    obtain ⟨g6, hf⟩ := gd_some hf
    refine va_iald hx hb hE.1 (wo_me hw hk) 23 0 rfl rfl (inR_in g6) dX10_after_233 ?_
    refine lv_iload hx hb dX10_after_234 (lv_at hl 5 rfl) ?_
    refine lv_iconst (v := (-1)) hx hb dX10_after_236 (by decide) ?_
    refine lv_icmp_ne (tgt := 244) hx hb dX10_after_237 (by decide) (fun c8 => ?_) (fun c8 => ?_)
    · have hf := ifn c8 hf
      refine lv_aload_n hx hb dX10_after_244 rfl (lv_at hl 0 rfl) ?_
      refine va_get (ci := 10) (v := .ref (aa Γ o 47)) (C := RX10) (T := TX10) (N := 49) hx hb htw uwX10 hown hE.1 (wo_me hw hk) 0 rfl rfl 47 (by decide) (htw _ mw1290) (fun _ h9 => h9) rfl dX10_after_245 ?_
      refine lv_iload hx hb dX10_after_248 (lv_at hl 5 rfl) ?_
      obtain ⟨g7, hf⟩ := gd_some hf
      refine va_iald hx hb hE.1 (wo_me hw hk) 23 0 rfl rfl (inR_in g7) dX10_after_250 ?_
      exact wX10_after_251 C hk hf hq H locs ls hw hS hl
    · have hf := ifp c8 hf
      refine lv_iconst (v := 0) hx hb dX10_after_240 (by decide) ?_
      refine lv_goto (tgt := 251) hx hb dX10_after_241 (by decide) ?_
      exact wX10_after_251 C hk hf hq H locs ls hw hS hl

set_option maxRecDepth 100000 in
set_option maxHeartbeats 4000000 in
theorem lwX10_after_218 {p : Program} {l : Launch} {e : Env} {s : State} {m : MethodId} {args : Array Value} {below : List Frame} {meth : Method} {c : Code} {Γ : Gm} {A : Nat → Prop} {G : Gs} {o : Nat} {r : Rec} {v3 : Int32} {v4 : Int32} {v5 : Int32} {v6 : Int32} {v8 : Int32} {v9 : Int32} {q : (Rec × Int32)} {fin : Rec × Int32} (C : Cx p s m args meth c yX10_after cX10_after 11 (some .int) Γ A) (hk : kd Γ o = some 10) (hf : iter (fun st : Int32 × Int32 => bX10_after_218 r v3 v4 v5 v6 st.1 st.2) (v8, v9) = some q) (hq : (fun x => x = fin) q) : Wk p l e { frames := 6, cells := 0, slots := 0, locals := 134 } s m args below meth c Γ A (ug G o fin.1) (some (.int fin.2)) 218 11 [(0, .ref (ad Γ o)), (3, .int v3), (4, .int v4), (5, .int v5), (6, .int v6), (8, .int v8), (9, .int v9)] [] (ug G o r) := by
  intro H locs ls hw hS hl
  refine iter_walk (P := (fun st : Int32 × Int32 => Wk p l e { frames := 6, cells := 0, slots := 0, locals := 134 } s m args below meth c Γ A (ug G o fin.1) (some (.int fin.2)) 218 11 [(0, .ref (ad Γ o)), (3, .int v3), (4, .int v4), (5, .int v5), (6, .int v6), (8, .int st.1), (9, .int st.2)] [] (ug G o r))) (K := (fun x => x = fin)) (fun st q hq1 h1 h2 => ?_) hf hq H locs ls hw hS hl
  exact wX10_after_218 (v8 := st.1) (v9 := st.2) C hk hq1 ⟨h1, h2⟩

noncomputable def bX10_after_212 (r : Rec) (v3 : Int32) (v4 : Int32) (v5 : Int32) (v6 : Int32) : Option (Rec × Int32) :=
  iter (fun st : Int32 × Int32 => bX10_after_218 r v3 v4 v5 v6 st.1 st.2) ((-1), 0)
set_option maxRecDepth 100000 in
set_option maxHeartbeats 4000000 in
theorem wX10_after_212 {p : Program} {l : Launch} {e : Env} {s : State} {m : MethodId} {args : Array Value} {below : List Frame} {meth : Method} {c : Code} {Γ : Gm} {A : Nat → Prop} {G : Gs} {o : Nat} {r : Rec} {v3 : Int32} {v4 : Int32} {v5 : Int32} {v6 : Int32} {q : (Rec × Int32)} {fin : Rec × Int32} (C : Cx p s m args meth c yX10_after cX10_after 11 (some .int) Γ A) (hk : kd Γ o = some 10) (hf : bX10_after_212 r v3 v4 v5 v6 = some q) (hq : (fun x => x = fin) q) : Wk p l e { frames := 6, cells := 0, slots := 0, locals := 134 } s m args below meth c Γ A (ug G o fin.1) (some (.int fin.2)) 212 11 [(0, .ref (ad Γ o)), (3, .int v3), (4, .int v4), (5, .int v5), (6, .int v6)] [] (ug G o r) := by
  intro H locs ls hw hS hl
  unfold bX10_after_212 at hf
  obtain ⟨hx, hb, hml, hr, hown, htw, hlocks, hE⟩ := id C
  have hown : s.vm.findClass RX10 = some m.cls := hown
  refine lv_iconst (v := (-1)) hx hb dX10_after_212 (by decide) ?_
  refine lv_istore (lv' := [(8, .int (-1)), (0, .ref (ad Γ o)), (3, .int v3), (4, .int v4), (5, .int v5), (6, .int v6)]) hx hb dX10_after_213 hl (by decide) rfl (fun ls hl => ?_)
  refine lv_iconst (v := 0) hx hb dX10_after_215 (by decide) ?_
  refine lv_istore (lv' := [(9, .int 0), (8, .int (-1)), (0, .ref (ad Γ o)), (3, .int v3), (4, .int v4), (5, .int v5), (6, .int v6)]) hx hb dX10_after_216 hl (by decide) rfl (fun ls hl => ?_)
  exact lwX10_after_218 C hk hf hq H locs ls hw hS (lv_sub hl [2, 3, 4, 5, 6, 1, 0] rfl)

noncomputable def bX10_after_204 (r : Rec) (v3 : Int32) (v4 : Int32) (v5 : Int32) (v6 : Int32) (v8 : Int32) (s0 : Int32) : Option ((Int32 × Int32 × Int32 × Int32 × Int32 × Rec) ⊕ (Rec × Int32)) :=
  some (.inl (v4, v5, v6, s0, v8 + 1, r))
set_option maxRecDepth 100000 in
set_option maxHeartbeats 4000000 in
theorem wX10_after_204 {p : Program} {l : Launch} {e : Env} {s : State} {m : MethodId} {args : Array Value} {below : List Frame} {meth : Method} {c : Code} {Γ : Gm} {A : Nat → Prop} {G : Gs} {o : Nat} {r : Rec} {v3 : Int32} {v4 : Int32} {v5 : Int32} {v6 : Int32} {v8 : Int32} {s0 : Int32} {q : ((Int32 × Int32 × Int32 × Int32 × Int32 × Rec) ⊕ (Rec × Int32))} {fin : Rec × Int32} (C : Cx p s m args meth c yX10_after cX10_after 11 (some .int) Γ A) (hk : kd Γ o = some 10) (hf : bX10_after_204 r v3 v4 v5 v6 v8 s0 = some q) (hq : (KC (fun st : Int32 × Int32 × Int32 × Int32 × Int32 × Rec => Wk p l e { frames := 6, cells := 0, slots := 0, locals := 134 } s m args below meth c Γ A (ug G o fin.1) (some (.int fin.2)) 69 11 [(0, .ref (ad Γ o)), (3, .int v3), (4, .int st.1), (5, .int st.2.1), (6, .int st.2.2.1), (7, .int st.2.2.2.1), (8, .int st.2.2.2.2.1)] [] (ug G o st.2.2.2.2.2)) (fun x => x = fin)) q) : Wk p l e { frames := 6, cells := 0, slots := 0, locals := 134 } s m args below meth c Γ A (ug G o fin.1) (some (.int fin.2)) 204 11 [(0, .ref (ad Γ o)), (3, .int v3), (4, .int v4), (5, .int v5), (6, .int v6), (8, .int v8)] [.int s0] (ug G o r) := by
  intro H locs ls hw hS hl
  unfold bX10_after_204 at hf
  obtain ⟨hx, hb, hml, hr, hown, htw, hlocks, hE⟩ := id C
  have hown : s.vm.findClass RX10 = some m.cls := hown
  refine lv_istore (lv' := [(7, .int s0), (0, .ref (ad Γ o)), (3, .int v3), (4, .int v4), (5, .int v5), (6, .int v6), (8, .int v8)]) hx hb dX10_after_204 hl (by decide) rfl (fun ls hl => ?_)
  refine lv_iinc (v := v8 + 1) (lv' := [(8, .int (v8 + 1)), (7, .int s0), (0, .ref (ad Γ o)), (3, .int v3), (4, .int v4), (5, .int v5), (6, .int v6)]) hx hb dX10_after_206 hl (k := 6) rfl (by rfl) (by decide) rfl (fun ls hl => ?_)
  refine lv_goto (tgt := 69) hx hb dX10_after_209 (by decide) ?_
  obtain rfl := Option.some.inj hf
  exact hq.1 _ rfl H locs ls hw hS (lv_sub hl [2, 3, 4, 5, 6, 1, 0] rfl)

noncomputable def bX10_after_203 (r : Rec) (v3 : Int32) (v4 : Int32) (v5 : Int32) (v6 : Int32) (v8 : Int32) : Option ((Int32 × Int32 × Int32 × Int32 × Int32 × Rec) ⊕ (Rec × Int32)) :=
  bX10_after_204 r v3 v4 v5 v6 v8 0
set_option maxRecDepth 100000 in
set_option maxHeartbeats 4000000 in
theorem wX10_after_203 {p : Program} {l : Launch} {e : Env} {s : State} {m : MethodId} {args : Array Value} {below : List Frame} {meth : Method} {c : Code} {Γ : Gm} {A : Nat → Prop} {G : Gs} {o : Nat} {r : Rec} {v3 : Int32} {v4 : Int32} {v5 : Int32} {v6 : Int32} {v8 : Int32} {q : ((Int32 × Int32 × Int32 × Int32 × Int32 × Rec) ⊕ (Rec × Int32))} {fin : Rec × Int32} (C : Cx p s m args meth c yX10_after cX10_after 11 (some .int) Γ A) (hk : kd Γ o = some 10) (hf : bX10_after_203 r v3 v4 v5 v6 v8 = some q) (hq : (KC (fun st : Int32 × Int32 × Int32 × Int32 × Int32 × Rec => Wk p l e { frames := 6, cells := 0, slots := 0, locals := 134 } s m args below meth c Γ A (ug G o fin.1) (some (.int fin.2)) 69 11 [(0, .ref (ad Γ o)), (3, .int v3), (4, .int st.1), (5, .int st.2.1), (6, .int st.2.2.1), (7, .int st.2.2.2.1), (8, .int st.2.2.2.2.1)] [] (ug G o st.2.2.2.2.2)) (fun x => x = fin)) q) : Wk p l e { frames := 6, cells := 0, slots := 0, locals := 134 } s m args below meth c Γ A (ug G o fin.1) (some (.int fin.2)) 203 11 [(0, .ref (ad Γ o)), (3, .int v3), (4, .int v4), (5, .int v5), (6, .int v6), (8, .int v8)] [] (ug G o r) := by
  intro H locs ls hw hS hl
  unfold bX10_after_203 at hf
  obtain ⟨hx, hb, hml, hr, hown, htw, hlocks, hE⟩ := id C
  have hown : s.vm.findClass RX10 = some m.cls := hown
  refine lv_iconst (v := 0) hx hb dX10_after_203 (by decide) ?_
  exact wX10_after_204 C hk hf hq H locs ls hw hS hl

noncomputable def bX10_after_181 (r : Rec) (v3 : Int32) (v4 : Int32) (v5 : Int32) (v6 : Int32) (v8 : Int32) : Option ((Int32 × Int32 × Int32 × Int32 × Int32 × Rec) ⊕ (Rec × Int32)) :=
  (fX10_deeds r).bind fun z10 => if z10 ≤ v8 then bX10_after_203 r v3 v4 v5 v6 v8 else (fX10_doesDeed r v8).bind fun z11 => if z11.2 = 0 then bX10_after_203 z11.1 v3 v4 v5 v6 v8 else bX10_after_204 z11.1 v3 v4 v5 v6 v8 1
set_option maxRecDepth 100000 in
set_option maxHeartbeats 4000000 in
theorem wX10_after_181 {p : Program} {l : Launch} {e : Env} {s : State} {m : MethodId} {args : Array Value} {below : List Frame} {meth : Method} {c : Code} {Γ : Gm} {A : Nat → Prop} {G : Gs} {o : Nat} {r : Rec} {v3 : Int32} {v4 : Int32} {v5 : Int32} {v6 : Int32} {v8 : Int32} {q : ((Int32 × Int32 × Int32 × Int32 × Int32 × Rec) ⊕ (Rec × Int32))} {fin : Rec × Int32} (C : Cx p s m args meth c yX10_after cX10_after 11 (some .int) Γ A) (hk : kd Γ o = some 10) (hf : bX10_after_181 r v3 v4 v5 v6 v8 = some q) (hq : (KC (fun st : Int32 × Int32 × Int32 × Int32 × Int32 × Rec => Wk p l e { frames := 6, cells := 0, slots := 0, locals := 134 } s m args below meth c Γ A (ug G o fin.1) (some (.int fin.2)) 69 11 [(0, .ref (ad Γ o)), (3, .int v3), (4, .int st.1), (5, .int st.2.1), (6, .int st.2.2.1), (7, .int st.2.2.2.1), (8, .int st.2.2.2.2.1)] [] (ug G o st.2.2.2.2.2)) (fun x => x = fin)) q) : Wk p l e { frames := 6, cells := 0, slots := 0, locals := 134 } s m args below meth c Γ A (ug G o fin.1) (some (.int fin.2)) 181 11 [(0, .ref (ad Γ o)), (3, .int v3), (4, .int v4), (5, .int v5), (6, .int v6), (8, .int v8)] [] (ug G o r) := by
  intro H locs ls hw hS hl
  unfold bX10_after_181 at hf
  obtain ⟨hx, hb, hml, hr, hown, htw, hlocks, hE⟩ := id C
  have hown : s.vm.findClass RX10 = some m.cls := hown
  refine lv_iload hx hb dX10_after_181 (lv_at hl 5 rfl) ?_
  refine lv_aload_n hx hb dX10_after_183 rfl (lv_at hl 0 rfl) ?_
  obtain ⟨z10, hz10, hf⟩ := bd hf
  refine cl_Vs (rest := [.int v8]) (kX10_deeds (l := l) (Γ := Γ) (A := A) (G := G) (o := o) hk hz10) ⟨hx, hb, hml, hown, htw⟩ hE hw hS (wo_me hw hk) (q0 := 0) rfl rfl mw1576 mw1578 mw72 mw129 mw1579 pdX10_deeds ⟨Nat.le_of_ble_eq_true rfl, Nat.le_of_ble_eq_true rfl⟩ rfl rfl hl.1 (Nat.le_of_ble_eq_true rfl) dX10_after_184 (fun H locs hw hS => ?_)
  refine lv_icmp_ge (tgt := 203) hx hb dX10_after_187 (by decide) (fun c13 => ?_) (fun c13 => ?_)
  · have hf := ifp c13 hf
    exact wX10_after_203 C hk hf hq H locs ls hw hS hl
  · have hf := ifn c13 hf
    refine lv_aload_n hx hb dX10_after_190 rfl (lv_at hl 0 rfl) ?_
    refine lv_iload hx hb dX10_after_191 (lv_at hl 5 rfl) ?_
    obtain ⟨z11, hz11, hf⟩ := bd hf
    refine cl_Vs (rest := []) (kX10_doesDeed (l := l) (Γ := Γ) (A := A) (G := G) (o := o) hk hz11) ⟨hx, hb, hml, hown, htw⟩ hE hw hS (wo_me hw hk) (q0 := 0) rfl rfl mw1600 mw1602 mw77 mw129 mw1603 pdX10_doesDeed ⟨Nat.le_of_ble_eq_true rfl, Nat.le_of_ble_eq_true rfl⟩ rfl rfl hl.1 (Nat.le_of_ble_eq_true rfl) dX10_after_193 (fun H locs hw hS => ?_)
    refine lv_if_eq (tgt := 203) hx hb dX10_after_196 (by decide) (fun c12 => ?_) (fun c12 => ?_)
    · have hf := ifp c12 hf
      exact wX10_after_203 C hk hf hq H locs ls hw hS hl
    · have hf := ifn c12 hf
      refine lv_iconst (v := 1) hx hb dX10_after_199 (by decide) ?_
      refine lv_goto (tgt := 204) hx hb dX10_after_200 (by decide) ?_
      exact wX10_after_204 C hk hf hq H locs ls hw hS hl

noncomputable def bX10_after_152 (r : Rec) (v3 : Int32) (v4 : Int32) (v5 : Int32) (v6 : Int32) (v8 : Int32) (v10 : Int32) : Option ((Int32 × Int32) ⊕ ((Int32 × Int32 × Int32 × Int32 × Int32 × Rec) ⊕ (Rec × Int32))) :=
  if (gi r 26) ≤ v10 then out1 (bX10_after_181 r v3 v4 v5 v6 v8) else gd (inR v10 8) ((fX10_greater v6 (ga r 33 (Int32.toNatClampNeg v10))).bind fun z16 => some (.inl (z16, v10 + 1)))
set_option maxRecDepth 100000 in
set_option maxHeartbeats 4000000 in
theorem wX10_after_152 {p : Program} {l : Launch} {e : Env} {s : State} {m : MethodId} {args : Array Value} {below : List Frame} {meth : Method} {c : Code} {Γ : Gm} {A : Nat → Prop} {G : Gs} {o : Nat} {r : Rec} {v3 : Int32} {v4 : Int32} {v5 : Int32} {v6 : Int32} {v8 : Int32} {v10 : Int32} {q : ((Int32 × Int32) ⊕ ((Int32 × Int32 × Int32 × Int32 × Int32 × Rec) ⊕ (Rec × Int32)))} {fin : Rec × Int32} (C : Cx p s m args meth c yX10_after cX10_after 11 (some .int) Γ A) (hk : kd Γ o = some 10) (hf : bX10_after_152 r v3 v4 v5 v6 v8 v10 = some q) (hq : (KC (fun st : Int32 × Int32 => Wk p l e { frames := 6, cells := 0, slots := 0, locals := 134 } s m args below meth c Γ A (ug G o fin.1) (some (.int fin.2)) 152 11 [(0, .ref (ad Γ o)), (3, .int v3), (4, .int v4), (5, .int v5), (6, .int st.1), (8, .int v8), (10, .int st.2)] [] (ug G o r)) (KC (fun st : Int32 × Int32 × Int32 × Int32 × Int32 × Rec => Wk p l e { frames := 6, cells := 0, slots := 0, locals := 134 } s m args below meth c Γ A (ug G o fin.1) (some (.int fin.2)) 69 11 [(0, .ref (ad Γ o)), (3, .int v3), (4, .int st.1), (5, .int st.2.1), (6, .int st.2.2.1), (7, .int st.2.2.2.1), (8, .int st.2.2.2.2.1)] [] (ug G o st.2.2.2.2.2)) (fun x => x = fin))) q) : Wk p l e { frames := 6, cells := 0, slots := 0, locals := 134 } s m args below meth c Γ A (ug G o fin.1) (some (.int fin.2)) 152 11 [(0, .ref (ad Γ o)), (3, .int v3), (4, .int v4), (5, .int v5), (6, .int v6), (8, .int v8), (10, .int v10)] [] (ug G o r) := by
  intro H locs ls hw hS hl
  unfold bX10_after_152 at hf
  obtain ⟨hx, hb, hml, hr, hown, htw, hlocks, hE⟩ := id C
  have hown : s.vm.findClass RX10 = some m.cls := hown
  refine lv_iload hx hb dX10_after_152 (lv_at hl 6 rfl) ?_
  refine lv_aload_n hx hb dX10_after_154 rfl (lv_at hl 0 rfl) ?_
  refine va_get (ci := 10) (v := .int (gi r 26)) (C := RX10) (T := TX10) (N := 49) hx hb htw uwX10 hown hE.1 (wo_me hw hk) 0 rfl rfl 26 (by decide) (htw _ mw1269) (fun _ h9 => h9) rfl dX10_after_155 ?_
  refine lv_icmp_ge (tgt := 181) hx hb dX10_after_158 (by decide) (fun c17 => ?_) (fun c17 => ?_)
  · have hf := ifp c17 hf
    obtain ⟨q14, hfq14, eq14⟩ := out1_some hf
    subst eq14
    have hf := hfq14
    have hq := hq.2 _ rfl
    exact wX10_after_181 C hk hf hq H locs ls hw hS (lv_sub hl [0, 1, 2, 3, 4, 5] rfl)
  · have hf := ifn c17 hf
    refine lv_iload hx hb dX10_after_161 (lv_at hl 4 rfl) ?_
    refine lv_aload_n hx hb dX10_after_163 rfl (lv_at hl 0 rfl) ?_
    refine va_get (ci := 10) (v := .ref (aa Γ o 33)) (C := RX10) (T := TX10) (N := 49) hx hb htw uwX10 hown hE.1 (wo_me hw hk) 0 rfl rfl 33 (by decide) (htw _ mw1276) (fun _ h9 => h9) rfl dX10_after_164 ?_
    refine lv_iload hx hb dX10_after_167 (lv_at hl 6 rfl) ?_
    obtain ⟨g15, hf⟩ := gd_some hf
    refine va_iald hx hb hE.1 (wo_me hw hk) 13 0 rfl rfl (inR_in g15) dX10_after_169 ?_
    obtain ⟨z16, hz16, hf⟩ := bd hf
    refine cl_Ss (rest := []) (kX10_greater (l := l) (Γ := Γ) (A := A) (G := (ug G o r)) hz16) ⟨hx, hb, hml, hown, htw⟩ hE hw hS mw1467 mw1468 mw129 mw1469 pdX10_greater ⟨Nat.le_of_ble_eq_true rfl, Nat.le_of_ble_eq_true rfl⟩ rfl rfl hl.1 (Nat.le_of_ble_eq_true rfl) dX10_after_170 (fun H locs hw hS => ?_)
    refine lv_istore (lv' := [(6, .int z16), (0, .ref (ad Γ o)), (3, .int v3), (4, .int v4), (5, .int v5), (8, .int v8), (10, .int v10)]) hx hb dX10_after_173 hl (by decide) rfl (fun ls hl => ?_)
    refine lv_iinc (v := v10 + 1) (lv' := [(10, .int (v10 + 1)), (6, .int z16), (0, .ref (ad Γ o)), (3, .int v3), (4, .int v4), (5, .int v5), (8, .int v8)]) hx hb dX10_after_175 hl (k := 6) rfl (by rfl) (by decide) rfl (fun ls hl => ?_)
    refine lv_goto (tgt := 152) hx hb dX10_after_178 (by decide) ?_
    obtain rfl := Option.some.inj hf
    exact hq.1 _ rfl H locs ls hw hS (lv_sub hl [2, 3, 4, 5, 1, 6, 0] rfl)

set_option maxRecDepth 100000 in
set_option maxHeartbeats 4000000 in
theorem lwX10_after_152 {p : Program} {l : Launch} {e : Env} {s : State} {m : MethodId} {args : Array Value} {below : List Frame} {meth : Method} {c : Code} {Γ : Gm} {A : Nat → Prop} {G : Gs} {o : Nat} {r : Rec} {v3 : Int32} {v4 : Int32} {v5 : Int32} {v6 : Int32} {v8 : Int32} {v10 : Int32} {q : ((Int32 × Int32 × Int32 × Int32 × Int32 × Rec) ⊕ (Rec × Int32))} {fin : Rec × Int32} (C : Cx p s m args meth c yX10_after cX10_after 11 (some .int) Γ A) (hk : kd Γ o = some 10) (hf : iter (fun st : Int32 × Int32 => bX10_after_152 r v3 v4 v5 st.1 v8 st.2) (v6, v10) = some q) (hq : (KC (fun st : Int32 × Int32 × Int32 × Int32 × Int32 × Rec => Wk p l e { frames := 6, cells := 0, slots := 0, locals := 134 } s m args below meth c Γ A (ug G o fin.1) (some (.int fin.2)) 69 11 [(0, .ref (ad Γ o)), (3, .int v3), (4, .int st.1), (5, .int st.2.1), (6, .int st.2.2.1), (7, .int st.2.2.2.1), (8, .int st.2.2.2.2.1)] [] (ug G o st.2.2.2.2.2)) (fun x => x = fin)) q) : Wk p l e { frames := 6, cells := 0, slots := 0, locals := 134 } s m args below meth c Γ A (ug G o fin.1) (some (.int fin.2)) 152 11 [(0, .ref (ad Γ o)), (3, .int v3), (4, .int v4), (5, .int v5), (6, .int v6), (8, .int v8), (10, .int v10)] [] (ug G o r) := by
  intro H locs ls hw hS hl
  refine iter_walk (P := (fun st : Int32 × Int32 => Wk p l e { frames := 6, cells := 0, slots := 0, locals := 134 } s m args below meth c Γ A (ug G o fin.1) (some (.int fin.2)) 152 11 [(0, .ref (ad Γ o)), (3, .int v3), (4, .int v4), (5, .int v5), (6, .int st.1), (8, .int v8), (10, .int st.2)] [] (ug G o r))) (K := (KC (fun st : Int32 × Int32 × Int32 × Int32 × Int32 × Rec => Wk p l e { frames := 6, cells := 0, slots := 0, locals := 134 } s m args below meth c Γ A (ug G o fin.1) (some (.int fin.2)) 69 11 [(0, .ref (ad Γ o)), (3, .int v3), (4, .int st.1), (5, .int st.2.1), (6, .int st.2.2.1), (7, .int st.2.2.2.1), (8, .int st.2.2.2.2.1)] [] (ug G o st.2.2.2.2.2)) (fun x => x = fin))) (fun st q hq1 h1 h2 => ?_) hf hq H locs ls hw hS hl
  exact wX10_after_152 (v6 := st.1) (v10 := st.2) C hk hq1 ⟨h1, h2⟩

noncomputable def bX10_after_147 (r : Rec) (v3 : Int32) (v4 : Int32) (v6 : Int32) (v8 : Int32) (s0 : Int32) : Option ((Int32 × Int32 × Int32 × Int32 × Int32 × Rec) ⊕ (Rec × Int32)) :=
  iter (fun st : Int32 × Int32 => bX10_after_152 r v3 v4 s0 st.1 v8 st.2) (v6, 0)
set_option maxRecDepth 100000 in
set_option maxHeartbeats 4000000 in
theorem wX10_after_147 {p : Program} {l : Launch} {e : Env} {s : State} {m : MethodId} {args : Array Value} {below : List Frame} {meth : Method} {c : Code} {Γ : Gm} {A : Nat → Prop} {G : Gs} {o : Nat} {r : Rec} {v3 : Int32} {v4 : Int32} {v6 : Int32} {v8 : Int32} {s0 : Int32} {q : ((Int32 × Int32 × Int32 × Int32 × Int32 × Rec) ⊕ (Rec × Int32))} {fin : Rec × Int32} (C : Cx p s m args meth c yX10_after cX10_after 11 (some .int) Γ A) (hk : kd Γ o = some 10) (hf : bX10_after_147 r v3 v4 v6 v8 s0 = some q) (hq : (KC (fun st : Int32 × Int32 × Int32 × Int32 × Int32 × Rec => Wk p l e { frames := 6, cells := 0, slots := 0, locals := 134 } s m args below meth c Γ A (ug G o fin.1) (some (.int fin.2)) 69 11 [(0, .ref (ad Γ o)), (3, .int v3), (4, .int st.1), (5, .int st.2.1), (6, .int st.2.2.1), (7, .int st.2.2.2.1), (8, .int st.2.2.2.2.1)] [] (ug G o st.2.2.2.2.2)) (fun x => x = fin)) q) : Wk p l e { frames := 6, cells := 0, slots := 0, locals := 134 } s m args below meth c Γ A (ug G o fin.1) (some (.int fin.2)) 147 11 [(0, .ref (ad Γ o)), (3, .int v3), (4, .int v4), (6, .int v6), (8, .int v8)] [.int s0] (ug G o r) := by
  intro H locs ls hw hS hl
  unfold bX10_after_147 at hf
  obtain ⟨hx, hb, hml, hr, hown, htw, hlocks, hE⟩ := id C
  have hown : s.vm.findClass RX10 = some m.cls := hown
  refine lv_istore (lv' := [(5, .int s0), (0, .ref (ad Γ o)), (3, .int v3), (4, .int v4), (6, .int v6), (8, .int v8)]) hx hb dX10_after_147 hl (by decide) rfl (fun ls hl => ?_)
  refine lv_iconst (v := 0) hx hb dX10_after_149 (by decide) ?_
  refine lv_istore (lv' := [(10, .int 0), (5, .int s0), (0, .ref (ad Γ o)), (3, .int v3), (4, .int v4), (6, .int v6), (8, .int v8)]) hx hb dX10_after_150 hl (by decide) rfl (fun ls hl => ?_)
  exact lwX10_after_152 C hk hf hq H locs ls hw hS (lv_sub hl [2, 3, 4, 1, 5, 6, 0] rfl)

noncomputable def bX10_after_145 (r : Rec) (v3 : Int32) (v4 : Int32) (v5 : Int32) (v6 : Int32) (v8 : Int32) : Option ((Int32 × Int32 × Int32 × Int32 × Int32 × Rec) ⊕ (Rec × Int32)) :=
  bX10_after_147 r v3 v4 v6 v8 v5
set_option maxRecDepth 100000 in
set_option maxHeartbeats 4000000 in
theorem wX10_after_145 {p : Program} {l : Launch} {e : Env} {s : State} {m : MethodId} {args : Array Value} {below : List Frame} {meth : Method} {c : Code} {Γ : Gm} {A : Nat → Prop} {G : Gs} {o : Nat} {r : Rec} {v3 : Int32} {v4 : Int32} {v5 : Int32} {v6 : Int32} {v8 : Int32} {q : ((Int32 × Int32 × Int32 × Int32 × Int32 × Rec) ⊕ (Rec × Int32))} {fin : Rec × Int32} (C : Cx p s m args meth c yX10_after cX10_after 11 (some .int) Γ A) (hk : kd Γ o = some 10) (hf : bX10_after_145 r v3 v4 v5 v6 v8 = some q) (hq : (KC (fun st : Int32 × Int32 × Int32 × Int32 × Int32 × Rec => Wk p l e { frames := 6, cells := 0, slots := 0, locals := 134 } s m args below meth c Γ A (ug G o fin.1) (some (.int fin.2)) 69 11 [(0, .ref (ad Γ o)), (3, .int v3), (4, .int st.1), (5, .int st.2.1), (6, .int st.2.2.1), (7, .int st.2.2.2.1), (8, .int st.2.2.2.2.1)] [] (ug G o st.2.2.2.2.2)) (fun x => x = fin)) q) : Wk p l e { frames := 6, cells := 0, slots := 0, locals := 134 } s m args below meth c Γ A (ug G o fin.1) (some (.int fin.2)) 145 11 [(0, .ref (ad Γ o)), (3, .int v3), (4, .int v4), (5, .int v5), (6, .int v6), (8, .int v8)] [] (ug G o r) := by
  intro H locs ls hw hS hl
  unfold bX10_after_145 at hf
  obtain ⟨hx, hb, hml, hr, hown, htw, hlocks, hE⟩ := id C
  have hown : s.vm.findClass RX10 = some m.cls := hown
  refine lv_iload hx hb dX10_after_145 (lv_at hl 3 rfl) ?_
  exact wX10_after_147 C hk hf hq H locs ls hw hS (lv_sub hl [0, 1, 2, 4, 5] rfl)

noncomputable def bX10_after_125 (r : Rec) (v3 : Int32) (v4 : Int32) (v5 : Int32) (v6 : Int32) (v8 : Int32) (s0 : Int32) (s1 : Int32) (s2 : Int32) : Option ((Int32 × Int32 × Int32 × Int32 × Int32 × Rec) ⊕ (Rec × Int32)) :=
  gd (inR s2 8) ((some (sa r 47 (upd (ga r 47) (Int32.toNatClampNeg s2) (s1 + s0)))).bind fun r19 => if v5 = (-1) then (fX10_isDusk r19).bind fun z20 => if z20 = 0 then bX10_after_145 r19 v3 v4 v5 v6 v8 else bX10_after_147 r19 v3 v4 v6 v8 v8 else bX10_after_145 r19 v3 v4 v5 v6 v8)
set_option maxRecDepth 100000 in
set_option maxHeartbeats 4000000 in
theorem wX10_after_125 {p : Program} {l : Launch} {e : Env} {s : State} {m : MethodId} {args : Array Value} {below : List Frame} {meth : Method} {c : Code} {Γ : Gm} {A : Nat → Prop} {G : Gs} {o : Nat} {r : Rec} {v3 : Int32} {v4 : Int32} {v5 : Int32} {v6 : Int32} {v8 : Int32} {s0 : Int32} {s1 : Int32} {s2 : Int32} {q : ((Int32 × Int32 × Int32 × Int32 × Int32 × Rec) ⊕ (Rec × Int32))} {fin : Rec × Int32} (C : Cx p s m args meth c yX10_after cX10_after 11 (some .int) Γ A) (hk : kd Γ o = some 10) (hf : bX10_after_125 r v3 v4 v5 v6 v8 s0 s1 s2 = some q) (hq : (KC (fun st : Int32 × Int32 × Int32 × Int32 × Int32 × Rec => Wk p l e { frames := 6, cells := 0, slots := 0, locals := 134 } s m args below meth c Γ A (ug G o fin.1) (some (.int fin.2)) 69 11 [(0, .ref (ad Γ o)), (3, .int v3), (4, .int st.1), (5, .int st.2.1), (6, .int st.2.2.1), (7, .int st.2.2.2.1), (8, .int st.2.2.2.2.1)] [] (ug G o st.2.2.2.2.2)) (fun x => x = fin)) q) : Wk p l e { frames := 6, cells := 0, slots := 0, locals := 134 } s m args below meth c Γ A (ug G o fin.1) (some (.int fin.2)) 125 11 [(0, .ref (ad Γ o)), (3, .int v3), (4, .int v4), (5, .int v5), (6, .int v6), (8, .int v8)] [.int s0, .int s1, .int s2, .ref (aa Γ o 47)] (ug G o r) := by
  intro H locs ls hw hS hl
  unfold bX10_after_125 at hf
  obtain ⟨hx, hb, hml, hr, hown, htw, hlocks, hE⟩ := id C
  have hown : s.vm.findClass RX10 = some m.cls := hown
  refine lv_iadd hx hb dX10_after_125 ?_
  obtain ⟨g18, hf⟩ := gd_some hf
  obtain ⟨r19, hr19, hf⟩ := bd hf
  have hr19 := Option.some.inj hr19
  refine wo_iast hx hb hE hw hS hk (q0 := 23) rfl (inR_in g18) (sa10_47 hr19) dX10_after_126 (fun H locs hw hS => ?_)
  refine lv_iload hx hb dX10_after_127 (lv_at hl 3 rfl) ?_
  refine lv_iconst (v := (-1)) hx hb dX10_after_129 (by decide) ?_
  refine lv_icmp_ne (tgt := 145) hx hb dX10_after_130 (by decide) (fun c22 => ?_) (fun c22 => ?_)
  · have hf := ifn c22 hf
    exact wX10_after_145 C hk hf hq H locs ls hw hS hl
  · have hf := ifp c22 hf
    refine lv_aload_n hx hb dX10_after_133 rfl (lv_at hl 0 rfl) ?_
    obtain ⟨z20, hz20, hf⟩ := bd hf
    refine cl_Vs (rest := []) (kX10_isDusk (l := l) (Γ := Γ) (A := A) (G := G) (o := o) hk hz20) ⟨hx, hb, hml, hown, htw⟩ hE hw hS (wo_me hw hk) (q0 := 0) rfl rfl mw1648 mw1650 mw88 mw129 mw1651 pdX10_isDusk ⟨Nat.le_of_ble_eq_true rfl, Nat.le_of_ble_eq_true rfl⟩ rfl rfl hl.1 (Nat.le_of_ble_eq_true rfl) dX10_after_134 (fun H locs hw hS => ?_)
    refine lv_if_eq (tgt := 145) hx hb dX10_after_137 (by decide) (fun c21 => ?_) (fun c21 => ?_)
    · have hf := ifp c21 hf
      exact wX10_after_145 C hk hf hq H locs ls hw hS hl
    · have hf := ifn c21 hf
      refine lv_iload hx hb dX10_after_140 (lv_at hl 5 rfl) ?_
      refine lv_goto (tgt := 147) hx hb dX10_after_142 (by decide) ?_
      exact wX10_after_147 C hk hf hq H locs ls hw hS (lv_sub hl [0, 1, 2, 4, 5] rfl)

noncomputable def bX10_after_112 (r : Rec) (v3 : Int32) (v4 : Int32) (v5 : Int32) (v6 : Int32) (v8 : Int32) (v9 : Int32) (s0 : Int32) : Option ((Int32 × Int32 × Int32 × Int32 × Int32 × Rec) ⊕ (Rec × Int32)) :=
  gd (inR s0 8) (if v9 = (-1) then bX10_after_125 r v3 v4 v5 v6 v8 0 (ga r 47 (Int32.toNatClampNeg s0)) s0 else bX10_after_125 r v3 v4 v5 v6 v8 1 (ga r 47 (Int32.toNatClampNeg s0)) s0)
set_option maxRecDepth 100000 in
set_option maxHeartbeats 4000000 in
theorem wX10_after_112 {p : Program} {l : Launch} {e : Env} {s : State} {m : MethodId} {args : Array Value} {below : List Frame} {meth : Method} {c : Code} {Γ : Gm} {A : Nat → Prop} {G : Gs} {o : Nat} {r : Rec} {v3 : Int32} {v4 : Int32} {v5 : Int32} {v6 : Int32} {v8 : Int32} {v9 : Int32} {s0 : Int32} {q : ((Int32 × Int32 × Int32 × Int32 × Int32 × Rec) ⊕ (Rec × Int32))} {fin : Rec × Int32} (C : Cx p s m args meth c yX10_after cX10_after 11 (some .int) Γ A) (hk : kd Γ o = some 10) (hf : bX10_after_112 r v3 v4 v5 v6 v8 v9 s0 = some q) (hq : (KC (fun st : Int32 × Int32 × Int32 × Int32 × Int32 × Rec => Wk p l e { frames := 6, cells := 0, slots := 0, locals := 134 } s m args below meth c Γ A (ug G o fin.1) (some (.int fin.2)) 69 11 [(0, .ref (ad Γ o)), (3, .int v3), (4, .int st.1), (5, .int st.2.1), (6, .int st.2.2.1), (7, .int st.2.2.2.1), (8, .int st.2.2.2.2.1)] [] (ug G o st.2.2.2.2.2)) (fun x => x = fin)) q) : Wk p l e { frames := 6, cells := 0, slots := 0, locals := 134 } s m args below meth c Γ A (ug G o fin.1) (some (.int fin.2)) 112 11 [(0, .ref (ad Γ o)), (3, .int v3), (4, .int v4), (5, .int v5), (6, .int v6), (8, .int v8), (9, .int v9)] [.int s0, .ref (aa Γ o 47)] (ug G o r) := by
  intro H locs ls hw hS hl
  unfold bX10_after_112 at hf
  obtain ⟨hx, hb, hml, hr, hown, htw, hlocks, hE⟩ := id C
  have hown : s.vm.findClass RX10 = some m.cls := hown
  refine lv_dup2_11 hx hb dX10_after_112 rfl rfl ?_
  obtain ⟨g23, hf⟩ := gd_some hf
  refine va_iald hx hb hE.1 (wo_me hw hk) 23 0 rfl rfl (inR_in g23) dX10_after_113 ?_
  refine lv_iload hx hb dX10_after_114 (lv_at hl 6 rfl) ?_
  refine lv_iconst (v := (-1)) hx hb dX10_after_116 (by decide) ?_
  refine lv_icmp_ne (tgt := 124) hx hb dX10_after_117 (by decide) (fun c24 => ?_) (fun c24 => ?_)
  · have hf := ifn c24 hf
    refine lv_iconst (v := 1) hx hb dX10_after_124 (by decide) ?_
    exact wX10_after_125 C hk hf hq H locs ls hw hS (lv_sub hl [0, 1, 2, 3, 4, 5] rfl)
  · have hf := ifp c24 hf
    refine lv_iconst (v := 0) hx hb dX10_after_120 (by decide) ?_
    refine lv_goto (tgt := 125) hx hb dX10_after_121 (by decide) ?_
    exact wX10_after_125 C hk hf hq H locs ls hw hS (lv_sub hl [0, 1, 2, 3, 4, 5] rfl)

noncomputable def bX10_after_93 (r : Rec) (v3 : Int32) (v5 : Int32) (v6 : Int32) (v8 : Int32) (v9 : Int32) (s0 : Int32) (s1 : Int32) : Option ((Int32 × Int32 × Int32 × Int32 × Int32 × Rec) ⊕ (Rec × Int32)) :=
  if v9 = (-1) then bX10_after_112 r v3 (s1 + s0) v5 v6 v8 v9 0 else bX10_after_112 r v3 (s1 + s0) v5 v6 v8 v9 v9
set_option maxRecDepth 100000 in
set_option maxHeartbeats 4000000 in
theorem wX10_after_93 {p : Program} {l : Launch} {e : Env} {s : State} {m : MethodId} {args : Array Value} {below : List Frame} {meth : Method} {c : Code} {Γ : Gm} {A : Nat → Prop} {G : Gs} {o : Nat} {r : Rec} {v3 : Int32} {v5 : Int32} {v6 : Int32} {v8 : Int32} {v9 : Int32} {s0 : Int32} {s1 : Int32} {q : ((Int32 × Int32 × Int32 × Int32 × Int32 × Rec) ⊕ (Rec × Int32))} {fin : Rec × Int32} (C : Cx p s m args meth c yX10_after cX10_after 11 (some .int) Γ A) (hk : kd Γ o = some 10) (hf : bX10_after_93 r v3 v5 v6 v8 v9 s0 s1 = some q) (hq : (KC (fun st : Int32 × Int32 × Int32 × Int32 × Int32 × Rec => Wk p l e { frames := 6, cells := 0, slots := 0, locals := 134 } s m args below meth c Γ A (ug G o fin.1) (some (.int fin.2)) 69 11 [(0, .ref (ad Γ o)), (3, .int v3), (4, .int st.1), (5, .int st.2.1), (6, .int st.2.2.1), (7, .int st.2.2.2.1), (8, .int st.2.2.2.2.1)] [] (ug G o st.2.2.2.2.2)) (fun x => x = fin)) q) : Wk p l e { frames := 6, cells := 0, slots := 0, locals := 134 } s m args below meth c Γ A (ug G o fin.1) (some (.int fin.2)) 93 11 [(0, .ref (ad Γ o)), (3, .int v3), (5, .int v5), (6, .int v6), (8, .int v8), (9, .int v9)] [.int s0, .int s1] (ug G o r) := by
  intro H locs ls hw hS hl
  unfold bX10_after_93 at hf
  obtain ⟨hx, hb, hml, hr, hown, htw, hlocks, hE⟩ := id C
  have hown : s.vm.findClass RX10 = some m.cls := hown
  refine lv_iadd hx hb dX10_after_93 ?_
  refine lv_istore (lv' := [(4, .int (s1 + s0)), (0, .ref (ad Γ o)), (3, .int v3), (5, .int v5), (6, .int v6), (8, .int v8), (9, .int v9)]) hx hb dX10_after_94 hl (by decide) rfl (fun ls hl => ?_)
  refine lv_aload_n hx hb dX10_after_96 rfl (lv_at hl 1 rfl) ?_
  refine va_get (ci := 10) (v := .ref (aa Γ o 47)) (C := RX10) (T := TX10) (N := 49) hx hb htw uwX10 hown hE.1 (wo_me hw hk) 0 rfl rfl 47 (by decide) (htw _ mw1290) (fun _ h9 => h9) rfl dX10_after_97 ?_
  refine lv_iload hx hb dX10_after_100 (lv_at hl 6 rfl) ?_
  refine lv_iconst (v := (-1)) hx hb dX10_after_102 (by decide) ?_
  refine lv_icmp_ne (tgt := 110) hx hb dX10_after_103 (by decide) (fun c25 => ?_) (fun c25 => ?_)
  · have hf := ifn c25 hf
    refine lv_iload hx hb dX10_after_110 (lv_at hl 6 rfl) ?_
    exact wX10_after_112 C hk hf hq H locs ls hw hS (lv_sub hl [1, 2, 0, 3, 4, 5, 6] rfl)
  · have hf := ifp c25 hf
    refine lv_iconst (v := 0) hx hb dX10_after_106 (by decide) ?_
    refine lv_goto (tgt := 112) hx hb dX10_after_107 (by decide) ?_
    exact wX10_after_112 C hk hf hq H locs ls hw hS (lv_sub hl [1, 2, 0, 3, 4, 5, 6] rfl)

noncomputable def bX10_after_69 (r : Rec) (v3 : Int32) (v4 : Int32) (v5 : Int32) (v6 : Int32) (v7 : Int32) (v8 : Int32) : Option ((Int32 × Int32 × Int32 × Int32 × Int32 × Rec) ⊕ (Rec × Int32)) :=
  if v7 = 0 then out1 (bX10_after_212 r v3 v4 v5 v6) else (fX10_bright r).bind fun z27 => if z27 = (-1) then bX10_after_93 r v3 v5 v6 v8 z27 1 v4 else bX10_after_93 r v3 v5 v6 v8 z27 0 v4
set_option maxRecDepth 100000 in
set_option maxHeartbeats 4000000 in
theorem wX10_after_69 {p : Program} {l : Launch} {e : Env} {s : State} {m : MethodId} {args : Array Value} {below : List Frame} {meth : Method} {c : Code} {Γ : Gm} {A : Nat → Prop} {G : Gs} {o : Nat} {r : Rec} {v3 : Int32} {v4 : Int32} {v5 : Int32} {v6 : Int32} {v7 : Int32} {v8 : Int32} {q : ((Int32 × Int32 × Int32 × Int32 × Int32 × Rec) ⊕ (Rec × Int32))} {fin : Rec × Int32} (C : Cx p s m args meth c yX10_after cX10_after 11 (some .int) Γ A) (hk : kd Γ o = some 10) (hf : bX10_after_69 r v3 v4 v5 v6 v7 v8 = some q) (hq : (KC (fun st : Int32 × Int32 × Int32 × Int32 × Int32 × Rec => Wk p l e { frames := 6, cells := 0, slots := 0, locals := 134 } s m args below meth c Γ A (ug G o fin.1) (some (.int fin.2)) 69 11 [(0, .ref (ad Γ o)), (3, .int v3), (4, .int st.1), (5, .int st.2.1), (6, .int st.2.2.1), (7, .int st.2.2.2.1), (8, .int st.2.2.2.2.1)] [] (ug G o st.2.2.2.2.2)) (fun x => x = fin)) q) : Wk p l e { frames := 6, cells := 0, slots := 0, locals := 134 } s m args below meth c Γ A (ug G o fin.1) (some (.int fin.2)) 69 11 [(0, .ref (ad Γ o)), (3, .int v3), (4, .int v4), (5, .int v5), (6, .int v6), (7, .int v7), (8, .int v8)] [] (ug G o r) := by
  intro H locs ls hw hS hl
  unfold bX10_after_69 at hf
  obtain ⟨hx, hb, hml, hr, hown, htw, hlocks, hE⟩ := id C
  have hown : s.vm.findClass RX10 = some m.cls := hown
  refine lv_iload hx hb dX10_after_69 (lv_at hl 5 rfl) ?_
  refine lv_if_eq (tgt := 212) hx hb dX10_after_71 (by decide) (fun c29 => ?_) (fun c29 => ?_)
  · have hf := ifp c29 hf
    obtain ⟨q26, hfq26, eq26⟩ := out1_some hf
    subst eq26
    have hf := hfq26
    have hq := hq.2 _ rfl
    exact wX10_after_212 C hk hf hq H locs ls hw hS (lv_sub hl [0, 1, 2, 3, 4] rfl)
  · have hf := ifn c29 hf
    refine lv_aload_n hx hb dX10_after_74 rfl (lv_at hl 0 rfl) ?_
    obtain ⟨z27, hz27, hf⟩ := bd hf
    refine cl_Vs (rest := []) (kX10_bright (l := l) (Γ := Γ) (A := A) (G := G) (o := o) hk hz27) ⟨hx, hb, hml, hown, htw⟩ hE hw hS (wo_me hw hk) (q0 := 0) rfl rfl mw1644 mw1646 mw87 mw129 mw1647 pdX10_bright ⟨Nat.le_of_ble_eq_true rfl, Nat.le_of_ble_eq_true rfl⟩ rfl rfl hl.1 (Nat.le_of_ble_eq_true rfl) dX10_after_75 (fun H locs hw hS => ?_)
    refine lv_istore (lv' := [(9, .int z27), (0, .ref (ad Γ o)), (3, .int v3), (4, .int v4), (5, .int v5), (6, .int v6), (7, .int v7), (8, .int v8)]) hx hb dX10_after_78 hl (by decide) rfl (fun ls hl => ?_)
    refine lv_iload hx hb dX10_after_80 (lv_at hl 3 rfl) ?_
    refine lv_iload hx hb dX10_after_82 (lv_at hl 0 rfl) ?_
    refine lv_iconst (v := (-1)) hx hb dX10_after_84 (by decide) ?_
    refine lv_icmp_ne (tgt := 92) hx hb dX10_after_85 (by decide) (fun c28 => ?_) (fun c28 => ?_)
    · have hf := ifn c28 hf
      refine lv_iconst (v := 0) hx hb dX10_after_92 (by decide) ?_
      exact wX10_after_93 C hk hf hq H locs ls hw hS (lv_sub hl [1, 2, 4, 5, 7, 0] rfl)
    · have hf := ifp c28 hf
      refine lv_iconst (v := 1) hx hb dX10_after_88 (by decide) ?_
      refine lv_goto (tgt := 93) hx hb dX10_after_89 (by decide) ?_
      exact wX10_after_93 C hk hf hq H locs ls hw hS (lv_sub hl [1, 2, 4, 5, 7, 0] rfl)

set_option maxRecDepth 100000 in
set_option maxHeartbeats 4000000 in
theorem lwX10_after_69 {p : Program} {l : Launch} {e : Env} {s : State} {m : MethodId} {args : Array Value} {below : List Frame} {meth : Method} {c : Code} {Γ : Gm} {A : Nat → Prop} {G : Gs} {o : Nat} {r : Rec} {v3 : Int32} {v4 : Int32} {v5 : Int32} {v6 : Int32} {v7 : Int32} {v8 : Int32} {q : (Rec × Int32)} {fin : Rec × Int32} (C : Cx p s m args meth c yX10_after cX10_after 11 (some .int) Γ A) (hk : kd Γ o = some 10) (hf : iter (fun st : Int32 × Int32 × Int32 × Int32 × Int32 × Rec => bX10_after_69 st.2.2.2.2.2 v3 st.1 st.2.1 st.2.2.1 st.2.2.2.1 st.2.2.2.2.1) (v4, v5, v6, v7, v8, r) = some q) (hq : (fun x => x = fin) q) : Wk p l e { frames := 6, cells := 0, slots := 0, locals := 134 } s m args below meth c Γ A (ug G o fin.1) (some (.int fin.2)) 69 11 [(0, .ref (ad Γ o)), (3, .int v3), (4, .int v4), (5, .int v5), (6, .int v6), (7, .int v7), (8, .int v8)] [] (ug G o r) := by
  intro H locs ls hw hS hl
  refine iter_walk (P := (fun st : Int32 × Int32 × Int32 × Int32 × Int32 × Rec => Wk p l e { frames := 6, cells := 0, slots := 0, locals := 134 } s m args below meth c Γ A (ug G o fin.1) (some (.int fin.2)) 69 11 [(0, .ref (ad Γ o)), (3, .int v3), (4, .int st.1), (5, .int st.2.1), (6, .int st.2.2.1), (7, .int st.2.2.2.1), (8, .int st.2.2.2.2.1)] [] (ug G o st.2.2.2.2.2))) (K := (fun x => x = fin)) (fun st q hq1 h1 h2 => ?_) hf hq H locs ls hw hS hl
  exact wX10_after_69 (r := st.2.2.2.2.2) (v4 := st.1) (v5 := st.2.1) (v6 := st.2.2.1) (v7 := st.2.2.2.1) (v8 := st.2.2.2.2.1) C hk hq1 ⟨h1, h2⟩

noncomputable def bX10_after_63 (r : Rec) (v3 : Int32) (v4 : Int32) (v5 : Int32) (v6 : Int32) : Option (Rec × Int32) :=
  iter (fun st : Int32 × Int32 × Int32 × Int32 × Int32 × Rec => bX10_after_69 st.2.2.2.2.2 v3 st.1 st.2.1 st.2.2.1 st.2.2.2.1 st.2.2.2.2.1) (v4, v5, v6, 1, 0, r)
set_option maxRecDepth 100000 in
set_option maxHeartbeats 4000000 in
theorem wX10_after_63 {p : Program} {l : Launch} {e : Env} {s : State} {m : MethodId} {args : Array Value} {below : List Frame} {meth : Method} {c : Code} {Γ : Gm} {A : Nat → Prop} {G : Gs} {o : Nat} {r : Rec} {v3 : Int32} {v4 : Int32} {v5 : Int32} {v6 : Int32} {q : (Rec × Int32)} {fin : Rec × Int32} (C : Cx p s m args meth c yX10_after cX10_after 11 (some .int) Γ A) (hk : kd Γ o = some 10) (hf : bX10_after_63 r v3 v4 v5 v6 = some q) (hq : (fun x => x = fin) q) : Wk p l e { frames := 6, cells := 0, slots := 0, locals := 134 } s m args below meth c Γ A (ug G o fin.1) (some (.int fin.2)) 63 11 [(0, .ref (ad Γ o)), (3, .int v3), (4, .int v4), (5, .int v5), (6, .int v6)] [] (ug G o r) := by
  intro H locs ls hw hS hl
  unfold bX10_after_63 at hf
  obtain ⟨hx, hb, hml, hr, hown, htw, hlocks, hE⟩ := id C
  have hown : s.vm.findClass RX10 = some m.cls := hown
  refine lv_iconst (v := 1) hx hb dX10_after_63 (by decide) ?_
  refine lv_istore (lv' := [(7, .int 1), (0, .ref (ad Γ o)), (3, .int v3), (4, .int v4), (5, .int v5), (6, .int v6)]) hx hb dX10_after_64 hl (by decide) rfl (fun ls hl => ?_)
  refine lv_iconst (v := 0) hx hb dX10_after_66 (by decide) ?_
  refine lv_istore (lv' := [(8, .int 0), (7, .int 1), (0, .ref (ad Γ o)), (3, .int v3), (4, .int v4), (5, .int v5), (6, .int v6)]) hx hb dX10_after_67 hl (by decide) rfl (fun ls hl => ?_)
  exact lwX10_after_69 C hk hf hq H locs ls hw hS (lv_sub hl [2, 3, 4, 5, 6, 1, 0] rfl)

noncomputable def bX10_after_42 (r : Rec) (v3 : Int32) (v4 : Int32) (v5 : Int32) (v6 : Int32) (v7 : Int32) : Option ((Int32 × Rec) ⊕ (Rec × Int32)) :=
  if 8 ≤ v7 then out1 (bX10_after_63 r v3 v4 v5 v6) else gd (inR v7 8) ((some (sa r 47 (upd (ga r 47) (Int32.toNatClampNeg v7) 0))).bind fun r32 => some (.inl (v7 + 1, r32)))
set_option maxRecDepth 100000 in
set_option maxHeartbeats 4000000 in
theorem wX10_after_42 {p : Program} {l : Launch} {e : Env} {s : State} {m : MethodId} {args : Array Value} {below : List Frame} {meth : Method} {c : Code} {Γ : Gm} {A : Nat → Prop} {G : Gs} {o : Nat} {r : Rec} {v3 : Int32} {v4 : Int32} {v5 : Int32} {v6 : Int32} {v7 : Int32} {q : ((Int32 × Rec) ⊕ (Rec × Int32))} {fin : Rec × Int32} (C : Cx p s m args meth c yX10_after cX10_after 11 (some .int) Γ A) (hk : kd Γ o = some 10) (hf : bX10_after_42 r v3 v4 v5 v6 v7 = some q) (hq : (KC (fun st : Int32 × Rec => Wk p l e { frames := 6, cells := 0, slots := 0, locals := 134 } s m args below meth c Γ A (ug G o fin.1) (some (.int fin.2)) 42 11 [(0, .ref (ad Γ o)), (3, .int v3), (4, .int v4), (5, .int v5), (6, .int v6), (7, .int st.1)] [] (ug G o st.2)) (fun x => x = fin)) q) : Wk p l e { frames := 6, cells := 0, slots := 0, locals := 134 } s m args below meth c Γ A (ug G o fin.1) (some (.int fin.2)) 42 11 [(0, .ref (ad Γ o)), (3, .int v3), (4, .int v4), (5, .int v5), (6, .int v6), (7, .int v7)] [] (ug G o r) := by
  intro H locs ls hw hS hl
  unfold bX10_after_42 at hf
  obtain ⟨hx, hb, hml, hr, hown, htw, hlocks, hE⟩ := id C
  have hown : s.vm.findClass RX10 = some m.cls := hown
  refine lv_iload hx hb dX10_after_42 (lv_at hl 5 rfl) ?_
  refine lv_bipush (v := 8) hx hb dX10_after_44 (by decide) ?_
  refine lv_icmp_ge (tgt := 63) hx hb dX10_after_46 (by decide) (fun c33 => ?_) (fun c33 => ?_)
  · have hf := ifp c33 hf
    obtain ⟨q30, hfq30, eq30⟩ := out1_some hf
    subst eq30
    have hf := hfq30
    have hq := hq.2 _ rfl
    exact wX10_after_63 C hk hf hq H locs ls hw hS (lv_sub hl [0, 1, 2, 3, 4] rfl)
  · have hf := ifn c33 hf
    refine lv_aload_n hx hb dX10_after_49 rfl (lv_at hl 0 rfl) ?_
    refine va_get (ci := 10) (v := .ref (aa Γ o 47)) (C := RX10) (T := TX10) (N := 49) hx hb htw uwX10 hown hE.1 (wo_me hw hk) 0 rfl rfl 47 (by decide) (htw _ mw1290) (fun _ h9 => h9) rfl dX10_after_50 ?_
    refine lv_iload hx hb dX10_after_53 (lv_at hl 5 rfl) ?_
    refine lv_iconst (v := 0) hx hb dX10_after_55 (by decide) ?_
    obtain ⟨g31, hf⟩ := gd_some hf
    obtain ⟨r32, hr32, hf⟩ := bd hf
    have hr32 := Option.some.inj hr32
    refine wo_iast hx hb hE hw hS hk (q0 := 23) rfl (inR_in g31) (sa10_47 hr32) dX10_after_56 (fun H locs hw hS => ?_)
    refine lv_iinc (v := v7 + 1) (lv' := [(7, .int (v7 + 1)), (0, .ref (ad Γ o)), (3, .int v3), (4, .int v4), (5, .int v5), (6, .int v6)]) hx hb dX10_after_57 hl (k := 5) rfl (by rfl) (by decide) rfl (fun ls hl => ?_)
    refine lv_goto (tgt := 42) hx hb dX10_after_60 (by decide) ?_
    obtain rfl := Option.some.inj hf
    exact hq.1 _ rfl H locs ls hw hS (lv_sub hl [1, 2, 3, 4, 5, 0] rfl)

set_option maxRecDepth 100000 in
set_option maxHeartbeats 4000000 in
theorem lwX10_after_42 {p : Program} {l : Launch} {e : Env} {s : State} {m : MethodId} {args : Array Value} {below : List Frame} {meth : Method} {c : Code} {Γ : Gm} {A : Nat → Prop} {G : Gs} {o : Nat} {r : Rec} {v3 : Int32} {v4 : Int32} {v5 : Int32} {v6 : Int32} {v7 : Int32} {q : (Rec × Int32)} {fin : Rec × Int32} (C : Cx p s m args meth c yX10_after cX10_after 11 (some .int) Γ A) (hk : kd Γ o = some 10) (hf : iter (fun st : Int32 × Rec => bX10_after_42 st.2 v3 v4 v5 v6 st.1) (v7, r) = some q) (hq : (fun x => x = fin) q) : Wk p l e { frames := 6, cells := 0, slots := 0, locals := 134 } s m args below meth c Γ A (ug G o fin.1) (some (.int fin.2)) 42 11 [(0, .ref (ad Γ o)), (3, .int v3), (4, .int v4), (5, .int v5), (6, .int v6), (7, .int v7)] [] (ug G o r) := by
  intro H locs ls hw hS hl
  refine iter_walk (P := (fun st : Int32 × Rec => Wk p l e { frames := 6, cells := 0, slots := 0, locals := 134 } s m args below meth c Γ A (ug G o fin.1) (some (.int fin.2)) 42 11 [(0, .ref (ad Γ o)), (3, .int v3), (4, .int v4), (5, .int v5), (6, .int v6), (7, .int st.1)] [] (ug G o st.2))) (K := (fun x => x = fin)) (fun st q hq1 h1 h2 => ?_) hf hq H locs ls hw hS hl
  exact wX10_after_42 (r := st.2) (v7 := st.1) C hk hq1 ⟨h1, h2⟩

noncomputable def fX10_after (r : Rec) (v1 : Int32) (v2 : Int32) (v3 : Int32) : Option (Rec × Int32) :=
  (some (si r 0 0)).bind fun r34 => (fX10_layAll r34 v1 v2).bind fun z35 => if z35.2 = 0 then some ((z35.1, (-2))) else (fX10_in v3 0 3).bind fun z36 => if z36 = 0 then some ((z35.1, (-2))) else (fX10_begin z35.1).bind fun z37 => iter (fun st : Int32 × Rec => bX10_after_42 st.2 v3 0 (-1) 0 st.1) (0, z37)
set_option maxRecDepth 100000 in
set_option maxHeartbeats 4000000 in
theorem wX10_after_e {p : Program} {l : Launch} {e : Env} {s : State} {m : MethodId} {args : Array Value} {below : List Frame} {meth : Method} {c : Code} {Γ : Gm} {A : Nat → Prop} {G : Gs} {o : Nat} {r : Rec} {v1 : Int32} {v2 : Int32} {v3 : Int32} {q : (Rec × Int32)} {fin : Rec × Int32} (C : Cx p s m args meth c yX10_after cX10_after 11 (some .int) Γ A) (hk : kd Γ o = some 10) (hf : fX10_after r v1 v2 v3 = some q) (hq : (fun x => x = fin) q) : Wk p l e { frames := 6, cells := 0, slots := 0, locals := 134 } s m args below meth c Γ A (ug G o fin.1) (some (.int fin.2)) 0 11 [(0, .ref (ad Γ o)), (1, .int v1), (2, .int v2), (3, .int v3)] [] (ug G o r) := by
  intro H locs ls hw hS hl
  unfold fX10_after at hf
  obtain ⟨hx, hb, hml, hr, hown, htw, hlocks, hE⟩ := id C
  have hown : s.vm.findClass RX10 = some m.cls := hown
  refine lv_aload_n hx hb dX10_after_0 rfl (lv_at hl 0 rfl) ?_
  refine lv_iconst (v := 0) hx hb dX10_after_1 (by decide) ?_
  obtain ⟨r34, hr34, hf⟩ := bd hf
  have hr34 := Option.some.inj hr34
  refine wo_put (C := RX10) (T := TX10) (N := 49) (v := .int 0) (ty := .int) hx hb htw uwX10 tyX10 tyX10_ok nmX10 hown hE hw hS hk rfl rfl 0 (by decide) (htw _ mw1243) (fun _ h9 => h9) rfl (tyX10_ok 0 (by decide)) rfl rfl (Nat.le_of_ble_eq_true rfl) (st10_0 hr34) dX10_after_2 (fun H locs hw hS => ?_)
  refine lv_aload_n hx hb dX10_after_5 rfl (lv_at hl 0 rfl) ?_
  refine lv_iload_n hx hb dX10_after_6 rfl (lv_at hl 1 rfl) ?_
  refine lv_iload_n hx hb dX10_after_7 rfl (lv_at hl 2 rfl) ?_
  obtain ⟨z35, hz35, hf⟩ := bd hf
  refine cl_Vs (rest := []) (kX10_layAll (l := l) (Γ := Γ) (A := A) (G := G) (o := o) hk hz35) ⟨hx, hb, hml, hown, htw⟩ hE hw hS (wo_me hw hk) (q0 := 0) rfl rfl mw1588 mw1590 mw74 mw129 mw1591 pdX10_layAll ⟨Nat.le_of_ble_eq_true rfl, Nat.le_of_ble_eq_true rfl⟩ rfl rfl hl.1 (Nat.le_of_ble_eq_true rfl) dX10_after_8 (fun H locs hw hS => ?_)
  refine lv_if_eq (tgt := 23) hx hb dX10_after_11 (by decide) (fun c39 => ?_) (fun c39 => ?_)
  · have hf := ifp c39 hf
    refine lv_bipush (v := (-2)) hx hb dX10_after_23 (by decide) ?_
    obtain rfl := Option.some.inj hf
    subst hq
    exact rt_i C hw hS dX10_after_25
  · have hf := ifn c39 hf
    refine lv_iload_n hx hb dX10_after_14 rfl (lv_at hl 3 rfl) ?_
    refine lv_iconst (v := 0) hx hb dX10_after_15 (by decide) ?_
    refine lv_iconst (v := 3) hx hb dX10_after_16 (by decide) ?_
    obtain ⟨z36, hz36, hf⟩ := bd hf
    refine cl_Ss (rest := []) (kX10_in (l := l) (Γ := Γ) (A := A) (G := (ug G o z35.1)) hz36) ⟨hx, hb, hml, hown, htw⟩ hE hw hS mw1404 mw1405 mw129 mw1406 pdX10_in ⟨Nat.le_of_ble_eq_true rfl, Nat.le_of_ble_eq_true rfl⟩ rfl rfl hl.1 (Nat.le_of_ble_eq_true rfl) dX10_after_17 (fun H locs hw hS => ?_)
    refine lv_if_ne (tgt := 26) hx hb dX10_after_20 (by decide) (fun c38 => ?_) (fun c38 => ?_)
    · have hf := ifn c38 hf
      refine lv_aload_n hx hb dX10_after_26 rfl (lv_at hl 0 rfl) ?_
      obtain ⟨z37, hz37, hf⟩ := bd hf
      refine cl_Vv (rest := []) (kX10_begin (l := l) (Γ := Γ) (A := A) (G := G) (o := o) hk hz37) ⟨hx, hb, hml, hown, htw⟩ hE hw hS (wo_me hw hk) (q0 := 0) rfl rfl mw1596 mw1598 mw76 mw129 mw1599 pdX10_begin ⟨Nat.le_of_ble_eq_true rfl, Nat.le_of_ble_eq_true rfl⟩ rfl rfl hl.1 (Nat.le_of_ble_eq_true rfl) dX10_after_27 (fun H locs hw hS => ?_)
      refine lv_iconst (v := 0) hx hb dX10_after_30 (by decide) ?_
      refine lv_istore (lv' := [(4, .int 0), (0, .ref (ad Γ o)), (1, .int v1), (2, .int v2), (3, .int v3)]) hx hb dX10_after_31 hl (by decide) rfl (fun ls hl => ?_)
      refine lv_iconst (v := (-1)) hx hb dX10_after_33 (by decide) ?_
      refine lv_istore (lv' := [(5, .int (-1)), (4, .int 0), (0, .ref (ad Γ o)), (1, .int v1), (2, .int v2), (3, .int v3)]) hx hb dX10_after_34 hl (by decide) rfl (fun ls hl => ?_)
      refine lv_iconst (v := 0) hx hb dX10_after_36 (by decide) ?_
      refine lv_istore (lv' := [(6, .int 0), (5, .int (-1)), (4, .int 0), (0, .ref (ad Γ o)), (1, .int v1), (2, .int v2), (3, .int v3)]) hx hb dX10_after_37 hl (by decide) rfl (fun ls hl => ?_)
      refine lv_iconst (v := 0) hx hb dX10_after_39 (by decide) ?_
      refine lv_istore (lv' := [(7, .int 0), (6, .int 0), (5, .int (-1)), (4, .int 0), (0, .ref (ad Γ o)), (1, .int v1), (2, .int v2), (3, .int v3)]) hx hb dX10_after_40 hl (by decide) rfl (fun ls hl => ?_)
      exact lwX10_after_42 C hk hf hq H locs ls hw hS (lv_sub hl [4, 7, 3, 2, 1, 0] rfl)
    · have hf := ifp c38 hf
      refine lv_bipush (v := (-2)) hx hb dX10_after_23 (by decide) ?_
      obtain rfl := Option.some.inj hf
      subst hq
      exact rt_i C hw hS dX10_after_25

theorem kX10_after {l : Launch} {Γ : Gm} {A : Nat → Prop} {G : Gs} {o : Nat} {r : Rec} {v1 : Int32} {v2 : Int32} {v3 : Int32} {fin : Rec × Int32} (hk : kd Γ o = some 10) (hf : fX10_after r v1 v2 v3 = some fin) : Kt l yX10_after cX10_after 11 (some .int) 6 134 Γ A (ug G o r) (ug G o fin.1) [.ref (ad Γ o), .int v1, .int v2, .int v3] (some (.int fin.2)) :=
  kt_of (by decide) (Nat.le_of_ble_eq_true rfl) (fun p e s m args below meth c C => wX10_after_e C hk hf rfl)
theorem kgX10_after {l : Launch} {Γ : Gm} {A : Nat → Prop} {G : Gs} {o : Nat} {v1 : Int32} {v2 : Int32} {v3 : Int32} {fin : Rec × Int32} (hk : kd Γ o = some 10) (hf : fX10_after (G o) v1 v2 v3 = some fin) : Kt l yX10_after cX10_after 11 (some .int) 6 134 Γ A G (ug G o fin.1) [.ref (ad Γ o), .int v1, .int v2, .int v3] (some (.int fin.2)) := by
  have h := kX10_after (l := l) (A := A) (G := G) (r := G o) hk hf
  rw [ug_self] at h
  exact h
noncomputable def fX10_would (r : Rec) (v1 : Int32) (v2 : Int32) (v3 : Int32) (v4 : Int32) : Option (Rec × Int32) :=
  (some (si r 0 0)).bind fun r1 => (fX10_layLog r1 v1 v2).bind fun z2 => if z2.2 = 0 then some ((z2.1, (-1))) else (fX10_isPiece z2.1 v4).bind fun z3 => if z3 = 0 then some ((z2.1, (-1))) else (fX10_in v3 0 ((gi z2.1 43) - 1)).bind fun z4 => if z4 = 0 then some ((z2.1, (-1))) else gd (inR v3 120) ((fX10_shinesBy z2.1 (ga z2.1 42 (Int32.toNatClampNeg v3)) v4).bind fun z6 => some ((z2.1, z6)))
set_option maxRecDepth 100000 in
set_option maxHeartbeats 4000000 in
theorem wX10_would_e {p : Program} {l : Launch} {e : Env} {s : State} {m : MethodId} {args : Array Value} {below : List Frame} {meth : Method} {c : Code} {Γ : Gm} {A : Nat → Prop} {G : Gs} {o : Nat} {r : Rec} {v1 : Int32} {v2 : Int32} {v3 : Int32} {v4 : Int32} {q : (Rec × Int32)} {fin : Rec × Int32} (C : Cx p s m args meth c yX10_would cX10_would 5 (some .int) Γ A) (hk : kd Γ o = some 10) (hf : fX10_would r v1 v2 v3 v4 = some q) (hq : (fun x => x = fin) q) : Wk p l e { frames := 4, cells := 0, slots := 0, locals := 91 } s m args below meth c Γ A (ug G o fin.1) (some (.int fin.2)) 0 5 [(0, .ref (ad Γ o)), (1, .int v1), (2, .int v2), (3, .int v3), (4, .int v4)] [] (ug G o r) := by
  intro H locs ls hw hS hl
  unfold fX10_would at hf
  obtain ⟨hx, hb, hml, hr, hown, htw, hlocks, hE⟩ := id C
  have hown : s.vm.findClass RX10 = some m.cls := hown
  refine lv_aload_n hx hb dX10_would_0 rfl (lv_at hl 0 rfl) ?_
  refine lv_iconst (v := 0) hx hb dX10_would_1 (by decide) ?_
  obtain ⟨r1, hr1, hf⟩ := bd hf
  have hr1 := Option.some.inj hr1
  refine wo_put (C := RX10) (T := TX10) (N := 49) (v := .int 0) (ty := .int) hx hb htw uwX10 tyX10 tyX10_ok nmX10 hown hE hw hS hk rfl rfl 0 (by decide) (htw _ mw1243) (fun _ h9 => h9) rfl (tyX10_ok 0 (by decide)) rfl rfl (Nat.le_of_ble_eq_true rfl) (st10_0 hr1) dX10_would_2 (fun H locs hw hS => ?_)
  refine lv_aload_n hx hb dX10_would_5 rfl (lv_at hl 0 rfl) ?_
  refine lv_iload_n hx hb dX10_would_6 rfl (lv_at hl 1 rfl) ?_
  refine lv_iload_n hx hb dX10_would_7 rfl (lv_at hl 2 rfl) ?_
  obtain ⟨z2, hz2, hf⟩ := bd hf
  refine cl_Vs (rest := []) (kX10_layLog (l := l) (Γ := Γ) (A := A) (G := G) (o := o) hk hz2) ⟨hx, hb, hml, hown, htw⟩ hE hw hS (wo_me hw hk) (q0 := 0) rfl rfl mw1778 mw1780 mw107 mw129 mw1781 pdX10_layLog ⟨Nat.le_of_ble_eq_true rfl, Nat.le_of_ble_eq_true rfl⟩ rfl rfl hl.1 (Nat.le_of_ble_eq_true rfl) dX10_would_8 (fun H locs hw hS => ?_)
  refine lv_if_eq (tgt := 52) hx hb dX10_would_11 (by decide) (fun c9 => ?_) (fun c9 => ?_)
  · have hf := ifp c9 hf
    refine lv_iconst (v := (-1)) hx hb dX10_would_52 (by decide) ?_
    obtain rfl := Option.some.inj hf
    subst hq
    exact rt_i C hw hS dX10_would_53
  · have hf := ifn c9 hf
    refine lv_aload_n hx hb dX10_would_14 rfl (lv_at hl 0 rfl) ?_
    refine lv_iload hx hb dX10_would_15 (lv_at hl 4 rfl) ?_
    obtain ⟨z3, hz3, hf⟩ := bd hf
    refine cl_Vs (rest := []) (kX10_isPiece (l := l) (Γ := Γ) (A := A) (G := G) (o := o) hk hz3) ⟨hx, hb, hml, hown, htw⟩ hE hw hS (wo_me hw hk) (q0 := 0) rfl rfl mw1553 mw1555 mw68 mw129 mw1556 pdX10_isPiece ⟨Nat.le_of_ble_eq_true rfl, Nat.le_of_ble_eq_true rfl⟩ rfl rfl hl.1 (Nat.le_of_ble_eq_true rfl) dX10_would_17 (fun H locs hw hS => ?_)
    refine lv_if_eq (tgt := 52) hx hb dX10_would_20 (by decide) (fun c8 => ?_) (fun c8 => ?_)
    · have hf := ifp c8 hf
      refine lv_iconst (v := (-1)) hx hb dX10_would_52 (by decide) ?_
      obtain rfl := Option.some.inj hf
      subst hq
      exact rt_i C hw hS dX10_would_53
    · have hf := ifn c8 hf
      refine lv_iload_n hx hb dX10_would_23 rfl (lv_at hl 3 rfl) ?_
      refine lv_iconst (v := 0) hx hb dX10_would_24 (by decide) ?_
      refine lv_aload_n hx hb dX10_would_25 rfl (lv_at hl 0 rfl) ?_
      refine va_get (ci := 10) (v := .int (gi z2.1 43)) (C := RX10) (T := TX10) (N := 49) hx hb htw uwX10 hown hE.1 (wo_me hw hk) 0 rfl rfl 43 (by decide) (htw _ mw1286) (fun _ h9 => h9) rfl dX10_would_26 ?_
      refine lv_iconst (v := 1) hx hb dX10_would_29 (by decide) ?_
      refine lv_isub hx hb dX10_would_30 ?_
      obtain ⟨z4, hz4, hf⟩ := bd hf
      refine cl_Ss (rest := []) (kX10_in (l := l) (Γ := Γ) (A := A) (G := (ug G o z2.1)) hz4) ⟨hx, hb, hml, hown, htw⟩ hE hw hS mw1404 mw1405 mw129 mw1406 pdX10_in ⟨Nat.le_of_ble_eq_true rfl, Nat.le_of_ble_eq_true rfl⟩ rfl rfl hl.1 (Nat.le_of_ble_eq_true rfl) dX10_would_31 (fun H locs hw hS => ?_)
      refine lv_if_eq (tgt := 52) hx hb dX10_would_34 (by decide) (fun c7 => ?_) (fun c7 => ?_)
      · have hf := ifp c7 hf
        refine lv_iconst (v := (-1)) hx hb dX10_would_52 (by decide) ?_
        obtain rfl := Option.some.inj hf
        subst hq
        exact rt_i C hw hS dX10_would_53
      · have hf := ifn c7 hf
        refine lv_aload_n hx hb dX10_would_37 rfl (lv_at hl 0 rfl) ?_
        refine lv_aload_n hx hb dX10_would_38 rfl (lv_at hl 0 rfl) ?_
        refine va_get (ci := 10) (v := .ref (aa Γ o 42)) (C := RX10) (T := TX10) (N := 49) hx hb htw uwX10 hown hE.1 (wo_me hw hk) 0 rfl rfl 42 (by decide) (htw _ mw1285) (fun _ h9 => h9) rfl dX10_would_39 ?_
        refine lv_iload_n hx hb dX10_would_42 rfl (lv_at hl 3 rfl) ?_
        obtain ⟨g5, hf⟩ := gd_some hf
        refine va_iald hx hb hE.1 (wo_me hw hk) 20 0 rfl rfl (inR_in g5) dX10_would_43 ?_
        refine lv_iload hx hb dX10_would_44 (lv_at hl 4 rfl) ?_
        obtain ⟨z6, hz6, hf⟩ := bd hf
        refine cl_Vs (rest := []) (kX10_shinesBy (l := l) (Γ := Γ) (A := A) (G := G) (o := o) hk hz6) ⟨hx, hb, hml, hown, htw⟩ hE hw hS (wo_me hw hk) (q0 := 0) rfl rfl mw1782 mw1784 mw108 mw129 mw1785 pdX10_shinesBy ⟨Nat.le_of_ble_eq_true rfl, Nat.le_of_ble_eq_true rfl⟩ rfl rfl hl.1 (Nat.le_of_ble_eq_true rfl) dX10_would_46 (fun H locs hw hS => ?_)
        refine lv_goto (tgt := 53) hx hb dX10_would_49 (by decide) ?_
        obtain rfl := Option.some.inj hf
        subst hq
        exact rt_i C hw hS dX10_would_53

theorem kX10_would {l : Launch} {Γ : Gm} {A : Nat → Prop} {G : Gs} {o : Nat} {r : Rec} {v1 : Int32} {v2 : Int32} {v3 : Int32} {v4 : Int32} {fin : Rec × Int32} (hk : kd Γ o = some 10) (hf : fX10_would r v1 v2 v3 v4 = some fin) : Kt l yX10_would cX10_would 5 (some .int) 4 91 Γ A (ug G o r) (ug G o fin.1) [.ref (ad Γ o), .int v1, .int v2, .int v3, .int v4] (some (.int fin.2)) :=
  kt_of (by decide) (Nat.le_of_ble_eq_true rfl) (fun p e s m args below meth c C => wX10_would_e C hk hf rfl)
theorem kgX10_would {l : Launch} {Γ : Gm} {A : Nat → Prop} {G : Gs} {o : Nat} {v1 : Int32} {v2 : Int32} {v3 : Int32} {v4 : Int32} {fin : Rec × Int32} (hk : kd Γ o = some 10) (hf : fX10_would (G o) v1 v2 v3 v4 = some fin) : Kt l yX10_would cX10_would 5 (some .int) 4 91 Γ A G (ug G o fin.1) [.ref (ad Γ o), .int v1, .int v2, .int v3, .int v4] (some (.int fin.2)) := by
  have h := kX10_would (l := l) (A := A) (G := G) (r := G o) hk hf
  rw [ug_self] at h
  exact h
noncomputable def fX10_count (r : Rec) (v1 : Int32) : Option (Rec × Int32) :=
  (some (si r 0 0)).bind fun r1 => (fX10_in v1 0 3).bind fun z2 => if z2 = 0 then some ((r1, (-2))) else gd (inR v1 16) (some ((r1, ga r1 5 (Int32.toNatClampNeg v1))))
set_option maxRecDepth 100000 in
set_option maxHeartbeats 4000000 in
theorem wX10_count_e {p : Program} {l : Launch} {e : Env} {s : State} {m : MethodId} {args : Array Value} {below : List Frame} {meth : Method} {c : Code} {Γ : Gm} {A : Nat → Prop} {G : Gs} {o : Nat} {r : Rec} {v1 : Int32} {q : (Rec × Int32)} {fin : Rec × Int32} (C : Cx p s m args meth c yX10_count cX10_count 2 (some .int) Γ A) (hk : kd Γ o = some 10) (hf : fX10_count r v1 = some q) (hq : (fun x => x = fin) q) : Wk p l e { frames := 1, cells := 0, slots := 0, locals := 22 } s m args below meth c Γ A (ug G o fin.1) (some (.int fin.2)) 0 2 [(0, .ref (ad Γ o)), (1, .int v1)] [] (ug G o r) := by
  intro H locs ls hw hS hl
  unfold fX10_count at hf
  obtain ⟨hx, hb, hml, hr, hown, htw, hlocks, hE⟩ := id C
  have hown : s.vm.findClass RX10 = some m.cls := hown
  refine lv_aload_n hx hb dX10_count_0 rfl (lv_at hl 0 rfl) ?_
  refine lv_iconst (v := 0) hx hb dX10_count_1 (by decide) ?_
  obtain ⟨r1, hr1, hf⟩ := bd hf
  have hr1 := Option.some.inj hr1
  refine wo_put (C := RX10) (T := TX10) (N := 49) (v := .int 0) (ty := .int) hx hb htw uwX10 tyX10 tyX10_ok nmX10 hown hE hw hS hk rfl rfl 0 (by decide) (htw _ mw1243) (fun _ h9 => h9) rfl (tyX10_ok 0 (by decide)) rfl rfl (Nat.le_of_ble_eq_true rfl) (st10_0 hr1) dX10_count_2 (fun H locs hw hS => ?_)
  refine lv_iload_n hx hb dX10_count_5 rfl (lv_at hl 1 rfl) ?_
  refine lv_iconst (v := 0) hx hb dX10_count_6 (by decide) ?_
  refine lv_iconst (v := 3) hx hb dX10_count_7 (by decide) ?_
  obtain ⟨z2, hz2, hf⟩ := bd hf
  refine cl_Ss (rest := []) (kX10_in (l := l) (Γ := Γ) (A := A) (G := (ug G o r1)) hz2) ⟨hx, hb, hml, hown, htw⟩ hE hw hS mw1404 mw1405 mw129 mw1406 pdX10_in ⟨Nat.le_of_ble_eq_true rfl, Nat.le_of_ble_eq_true rfl⟩ rfl rfl hl.1 (Nat.le_of_ble_eq_true rfl) dX10_count_8 (fun H locs hw hS => ?_)
  refine lv_if_eq (tgt := 23) hx hb dX10_count_11 (by decide) (fun c4 => ?_) (fun c4 => ?_)
  · have hf := ifp c4 hf
    refine lv_bipush (v := (-2)) hx hb dX10_count_23 (by decide) ?_
    obtain rfl := Option.some.inj hf
    subst hq
    exact rt_i C hw hS dX10_count_25
  · have hf := ifn c4 hf
    refine lv_aload_n hx hb dX10_count_14 rfl (lv_at hl 0 rfl) ?_
    refine va_get (ci := 10) (v := .ref (aa Γ o 5)) (C := RX10) (T := TX10) (N := 49) hx hb htw uwX10 hown hE.1 (wo_me hw hk) 0 rfl rfl 5 (by decide) (htw _ mw1248) (fun _ h9 => h9) rfl dX10_count_15 ?_
    refine lv_iload_n hx hb dX10_count_18 rfl (lv_at hl 1 rfl) ?_
    obtain ⟨g3, hf⟩ := gd_some hf
    refine va_iald hx hb hE.1 (wo_me hw hk) 5 0 rfl rfl (inR_in g3) dX10_count_19 ?_
    refine lv_goto (tgt := 25) hx hb dX10_count_20 (by decide) ?_
    obtain rfl := Option.some.inj hf
    subst hq
    exact rt_i C hw hS dX10_count_25

theorem kX10_count {l : Launch} {Γ : Gm} {A : Nat → Prop} {G : Gs} {o : Nat} {r : Rec} {v1 : Int32} {fin : Rec × Int32} (hk : kd Γ o = some 10) (hf : fX10_count r v1 = some fin) : Kt l yX10_count cX10_count 2 (some .int) 1 22 Γ A (ug G o r) (ug G o fin.1) [.ref (ad Γ o), .int v1] (some (.int fin.2)) :=
  kt_of (by decide) (Nat.le_of_ble_eq_true rfl) (fun p e s m args below meth c C => wX10_count_e C hk hf rfl)
theorem kgX10_count {l : Launch} {Γ : Gm} {A : Nat → Prop} {G : Gs} {o : Nat} {v1 : Int32} {fin : Rec × Int32} (hk : kd Γ o = some 10) (hf : fX10_count (G o) v1 = some fin) : Kt l yX10_count cX10_count 2 (some .int) 1 22 Γ A G (ug G o fin.1) [.ref (ad Γ o), .int v1] (some (.int fin.2)) := by
  have h := kX10_count (l := l) (A := A) (G := G) (r := G o) hk hf
  rw [ug_self] at h
  exact h
noncomputable def fX10_image (r : Rec) (v1 : Int32) : Option (Rec × Int32) :=
  (some (si r 0 0)).bind fun r1 => (fX10_in v1 0 2).bind fun z2 => if z2 = 0 then some ((r1, 0)) else (fX10_copyAll r1 0 (v1 + 1)).bind fun z3 => gd (inR v1 3) ((some (sa z3 48 (upd (ga z3 48) (Int32.toNatClampNeg v1) (vp_nar .boolean 1)))).bind fun r5 => some ((r5, 1)))
set_option maxRecDepth 100000 in
set_option maxHeartbeats 4000000 in
theorem wX10_image_e {p : Program} {l : Launch} {e : Env} {s : State} {m : MethodId} {args : Array Value} {below : List Frame} {meth : Method} {c : Code} {Γ : Gm} {A : Nat → Prop} {G : Gs} {o : Nat} {r : Rec} {v1 : Int32} {q : (Rec × Int32)} {fin : Rec × Int32} (C : Cx p s m args meth c yX10_image cX10_image 2 (some .boolean) Γ A) (hk : kd Γ o = some 10) (hf : fX10_image r v1 = some q) (hq : (fun x => x = fin) q) : Wk p l e { frames := 2, cells := 0, slots := 0, locals := 47 } s m args below meth c Γ A (ug G o fin.1) (some (.int fin.2)) 0 2 [(0, .ref (ad Γ o)), (1, .int v1)] [] (ug G o r) := by
  intro H locs ls hw hS hl
  unfold fX10_image at hf
  obtain ⟨hx, hb, hml, hr, hown, htw, hlocks, hE⟩ := id C
  have hown : s.vm.findClass RX10 = some m.cls := hown
  refine lv_aload_n hx hb dX10_image_0 rfl (lv_at hl 0 rfl) ?_
  refine lv_iconst (v := 0) hx hb dX10_image_1 (by decide) ?_
  obtain ⟨r1, hr1, hf⟩ := bd hf
  have hr1 := Option.some.inj hr1
  refine wo_put (C := RX10) (T := TX10) (N := 49) (v := .int 0) (ty := .int) hx hb htw uwX10 tyX10 tyX10_ok nmX10 hown hE hw hS hk rfl rfl 0 (by decide) (htw _ mw1243) (fun _ h9 => h9) rfl (tyX10_ok 0 (by decide)) rfl rfl (Nat.le_of_ble_eq_true rfl) (st10_0 hr1) dX10_image_2 (fun H locs hw hS => ?_)
  refine lv_iload_n hx hb dX10_image_5 rfl (lv_at hl 1 rfl) ?_
  refine lv_iconst (v := 0) hx hb dX10_image_6 (by decide) ?_
  refine lv_iconst (v := 2) hx hb dX10_image_7 (by decide) ?_
  obtain ⟨z2, hz2, hf⟩ := bd hf
  refine cl_Ss (rest := []) (kX10_in (l := l) (Γ := Γ) (A := A) (G := (ug G o r1)) hz2) ⟨hx, hb, hml, hown, htw⟩ hE hw hS mw1404 mw1405 mw129 mw1406 pdX10_in ⟨Nat.le_of_ble_eq_true rfl, Nat.le_of_ble_eq_true rfl⟩ rfl rfl hl.1 (Nat.le_of_ble_eq_true rfl) dX10_image_8 (fun H locs hw hS => ?_)
  refine lv_if_ne (tgt := 16) hx hb dX10_image_11 (by decide) (fun c6 => ?_) (fun c6 => ?_)
  · have hf := ifn c6 hf
    refine lv_aload_n hx hb dX10_image_16 rfl (lv_at hl 0 rfl) ?_
    refine lv_iconst (v := 0) hx hb dX10_image_17 (by decide) ?_
    refine lv_iload_n hx hb dX10_image_18 rfl (lv_at hl 1 rfl) ?_
    refine lv_iconst (v := 1) hx hb dX10_image_19 (by decide) ?_
    refine lv_iadd hx hb dX10_image_20 ?_
    obtain ⟨z3, hz3, hf⟩ := bd hf
    refine cl_Vv (rest := []) (kX10_copyAll (l := l) (Γ := Γ) (A := A) (G := G) (o := o) hk hz3) ⟨hx, hb, hml, hown, htw⟩ hE hw hS (wo_me hw hk) (q0 := 0) rfl rfl mw1883 mw1885 mw116 mw129 mw1886 pdX10_copyAll ⟨Nat.le_of_ble_eq_true rfl, Nat.le_of_ble_eq_true rfl⟩ rfl rfl hl.1 (Nat.le_of_ble_eq_true rfl) dX10_image_21 (fun H locs hw hS => ?_)
    refine lv_aload_n hx hb dX10_image_24 rfl (lv_at hl 0 rfl) ?_
    refine va_get (ci := 10) (v := .ref (aa Γ o 48)) (C := RX10) (T := TX10) (N := 49) hx hb htw uwX10 hown hE.1 (wo_me hw hk) 0 rfl rfl 48 (by decide) (htw _ mw1291) (fun _ h9 => h9) rfl dX10_image_25 ?_
    refine lv_iload_n hx hb dX10_image_28 rfl (lv_at hl 1 rfl) ?_
    refine lv_iconst (v := 1) hx hb dX10_image_29 (by decide) ?_
    obtain ⟨g4, hf⟩ := gd_some hf
    obtain ⟨r5, hr5, hf⟩ := bd hf
    have hr5 := Option.some.inj hr5
    refine wo_zast hx hb hE hw hS hk (q0 := 24) rfl (inR_in g4) (sa10_48 hr5) dX10_image_30 (fun H locs hw hS => ?_)
    refine lv_iconst (v := 1) hx hb dX10_image_31 (by decide) ?_
    obtain rfl := Option.some.inj hf
    subst hq
    exact rt_z C (Or.inr rfl) hw hS dX10_image_32
  · have hf := ifp c6 hf
    refine lv_iconst (v := 0) hx hb dX10_image_14 (by decide) ?_
    obtain rfl := Option.some.inj hf
    subst hq
    exact rt_z C (Or.inl rfl) hw hS dX10_image_15

theorem kX10_image {l : Launch} {Γ : Gm} {A : Nat → Prop} {G : Gs} {o : Nat} {r : Rec} {v1 : Int32} {fin : Rec × Int32} (hk : kd Γ o = some 10) (hf : fX10_image r v1 = some fin) : Kt l yX10_image cX10_image 2 (some .boolean) 2 47 Γ A (ug G o r) (ug G o fin.1) [.ref (ad Γ o), .int v1] (some (.int fin.2)) :=
  kt_of (by decide) (Nat.le_of_ble_eq_true rfl) (fun p e s m args below meth c C => wX10_image_e C hk hf rfl)
theorem kgX10_image {l : Launch} {Γ : Gm} {A : Nat → Prop} {G : Gs} {o : Nat} {v1 : Int32} {fin : Rec × Int32} (hk : kd Γ o = some 10) (hf : fX10_image (G o) v1 = some fin) : Kt l yX10_image cX10_image 2 (some .boolean) 2 47 Γ A G (ug G o fin.1) [.ref (ad Γ o), .int v1] (some (.int fin.2)) := by
  have h := kX10_image (l := l) (A := A) (G := G) (r := G o) hk hf
  rw [ug_self] at h
  exact h
noncomputable def fX10_again (r : Rec) (v1 : Int32) : Option (Rec × Int32) :=
  (some (si r 0 0)).bind fun r1 => (fX10_in v1 0 2).bind fun z2 => if z2 = 0 then some ((r1, 0)) else gd (inR v1 3) (if (ga r1 48 (Int32.toNatClampNeg v1)) = 0 then some ((r1, 0)) else (fX10_copyAll r1 (v1 + 1) 0).bind fun z4 => some ((z4, 1)))
set_option maxRecDepth 100000 in
set_option maxHeartbeats 4000000 in
theorem wX10_again_e {p : Program} {l : Launch} {e : Env} {s : State} {m : MethodId} {args : Array Value} {below : List Frame} {meth : Method} {c : Code} {Γ : Gm} {A : Nat → Prop} {G : Gs} {o : Nat} {r : Rec} {v1 : Int32} {q : (Rec × Int32)} {fin : Rec × Int32} (C : Cx p s m args meth c yX10_again cX10_again 2 (some .boolean) Γ A) (hk : kd Γ o = some 10) (hf : fX10_again r v1 = some q) (hq : (fun x => x = fin) q) : Wk p l e { frames := 2, cells := 0, slots := 0, locals := 47 } s m args below meth c Γ A (ug G o fin.1) (some (.int fin.2)) 0 2 [(0, .ref (ad Γ o)), (1, .int v1)] [] (ug G o r) := by
  intro H locs ls hw hS hl
  unfold fX10_again at hf
  obtain ⟨hx, hb, hml, hr, hown, htw, hlocks, hE⟩ := id C
  have hown : s.vm.findClass RX10 = some m.cls := hown
  refine lv_aload_n hx hb dX10_again_0 rfl (lv_at hl 0 rfl) ?_
  refine lv_iconst (v := 0) hx hb dX10_again_1 (by decide) ?_
  obtain ⟨r1, hr1, hf⟩ := bd hf
  have hr1 := Option.some.inj hr1
  refine wo_put (C := RX10) (T := TX10) (N := 49) (v := .int 0) (ty := .int) hx hb htw uwX10 tyX10 tyX10_ok nmX10 hown hE hw hS hk rfl rfl 0 (by decide) (htw _ mw1243) (fun _ h9 => h9) rfl (tyX10_ok 0 (by decide)) rfl rfl (Nat.le_of_ble_eq_true rfl) (st10_0 hr1) dX10_again_2 (fun H locs hw hS => ?_)
  refine lv_iload_n hx hb dX10_again_5 rfl (lv_at hl 1 rfl) ?_
  refine lv_iconst (v := 0) hx hb dX10_again_6 (by decide) ?_
  refine lv_iconst (v := 2) hx hb dX10_again_7 (by decide) ?_
  obtain ⟨z2, hz2, hf⟩ := bd hf
  refine cl_Ss (rest := []) (kX10_in (l := l) (Γ := Γ) (A := A) (G := (ug G o r1)) hz2) ⟨hx, hb, hml, hown, htw⟩ hE hw hS mw1404 mw1405 mw129 mw1406 pdX10_in ⟨Nat.le_of_ble_eq_true rfl, Nat.le_of_ble_eq_true rfl⟩ rfl rfl hl.1 (Nat.le_of_ble_eq_true rfl) dX10_again_8 (fun H locs hw hS => ?_)
  refine lv_if_eq (tgt := 23) hx hb dX10_again_11 (by decide) (fun c6 => ?_) (fun c6 => ?_)
  · have hf := ifp c6 hf
    refine lv_iconst (v := 0) hx hb dX10_again_23 (by decide) ?_
    obtain rfl := Option.some.inj hf
    subst hq
    exact rt_z C (Or.inl rfl) hw hS dX10_again_24
  · have hf := ifn c6 hf
    refine lv_aload_n hx hb dX10_again_14 rfl (lv_at hl 0 rfl) ?_
    refine va_get (ci := 10) (v := .ref (aa Γ o 48)) (C := RX10) (T := TX10) (N := 49) hx hb htw uwX10 hown hE.1 (wo_me hw hk) 0 rfl rfl 48 (by decide) (htw _ mw1291) (fun _ h9 => h9) rfl dX10_again_15 ?_
    refine lv_iload_n hx hb dX10_again_18 rfl (lv_at hl 1 rfl) ?_
    obtain ⟨g3, hf⟩ := gd_some hf
    refine va_zald hx hb hE.1 (wo_me hw hk) 24 2 rfl rfl (inR_in g3) dX10_again_19 ?_
    refine lv_if_ne (tgt := 25) hx hb dX10_again_20 (by decide) (fun c5 => ?_) (fun c5 => ?_)
    · have hf := ifn c5 hf
      refine lv_aload_n hx hb dX10_again_25 rfl (lv_at hl 0 rfl) ?_
      refine lv_iload_n hx hb dX10_again_26 rfl (lv_at hl 1 rfl) ?_
      refine lv_iconst (v := 1) hx hb dX10_again_27 (by decide) ?_
      refine lv_iadd hx hb dX10_again_28 ?_
      refine lv_iconst (v := 0) hx hb dX10_again_29 (by decide) ?_
      obtain ⟨z4, hz4, hf⟩ := bd hf
      refine cl_Vv (rest := []) (kX10_copyAll (l := l) (Γ := Γ) (A := A) (G := G) (o := o) hk hz4) ⟨hx, hb, hml, hown, htw⟩ hE hw hS (wo_me hw hk) (q0 := 0) rfl rfl mw1883 mw1885 mw116 mw129 mw1886 pdX10_copyAll ⟨Nat.le_of_ble_eq_true rfl, Nat.le_of_ble_eq_true rfl⟩ rfl rfl hl.1 (Nat.le_of_ble_eq_true rfl) dX10_again_30 (fun H locs hw hS => ?_)
      refine lv_iconst (v := 1) hx hb dX10_again_33 (by decide) ?_
      obtain rfl := Option.some.inj hf
      subst hq
      exact rt_z C (Or.inr rfl) hw hS dX10_again_34
    · have hf := ifp c5 hf
      refine lv_iconst (v := 0) hx hb dX10_again_23 (by decide) ?_
      obtain rfl := Option.some.inj hf
      subst hq
      exact rt_z C (Or.inl rfl) hw hS dX10_again_24

theorem kX10_again {l : Launch} {Γ : Gm} {A : Nat → Prop} {G : Gs} {o : Nat} {r : Rec} {v1 : Int32} {fin : Rec × Int32} (hk : kd Γ o = some 10) (hf : fX10_again r v1 = some fin) : Kt l yX10_again cX10_again 2 (some .boolean) 2 47 Γ A (ug G o r) (ug G o fin.1) [.ref (ad Γ o), .int v1] (some (.int fin.2)) :=
  kt_of (by decide) (Nat.le_of_ble_eq_true rfl) (fun p e s m args below meth c C => wX10_again_e C hk hf rfl)
theorem kgX10_again {l : Launch} {Γ : Gm} {A : Nat → Prop} {G : Gs} {o : Nat} {v1 : Int32} {fin : Rec × Int32} (hk : kd Γ o = some 10) (hf : fX10_again (G o) v1 = some fin) : Kt l yX10_again cX10_again 2 (some .boolean) 2 47 Γ A G (ug G o fin.1) [.ref (ad Γ o), .int v1] (some (.int fin.2)) := by
  have h := kX10_again (l := l) (A := A) (G := G) (r := G o) hk hf
  rw [ug_self] at h
  exact h
