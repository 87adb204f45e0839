noncomputable def bX10_unlike_177 (r : Rec) (v4 : Int32) (s0 : Int32) (s1 : Int32) : Option ((Int32 × Int32) ⊕ (Rec × Int32)) :=
  some (.inl (s1 + s0, v4 + 1))
set_option maxRecDepth 100000 in
set_option maxHeartbeats 4000000 in
theorem wX10_unlike_177 {p : Program} {l : Launch} {e : Env} {s : State} {m : MethodId} {args : Array Value} {below : List Frame} {meth : Method} {c : Code} {Γ : Gm} {A : Nat → Prop} {G : Gs} {o : Nat} {r : Rec} {v4 : Int32} {s0 : Int32} {s1 : Int32} {q : ((Int32 × Int32) ⊕ (Rec × Int32))} {fin : Rec × Int32} (C : Cx p s m args meth c yX10_unlike cX10_unlike 6 (some .int) Γ A) (hk : kd Γ o = some 10) (hf : bX10_unlike_177 r v4 s0 s1 = some q) (hq : (KC (fun st : Int32 × Int32 => Wk p l e { frames := 3, cells := 0, slots := 0, locals := 66 } s m args below meth c Γ A (ug G o fin.1) (some (.int fin.2)) 93 6 [(0, .ref (ad Γ o)), (3, .int st.1), (4, .int st.2)] [] (ug G o r)) (fun x => x = fin)) q) : Wk p l e { frames := 3, cells := 0, slots := 0, locals := 66 } s m args below meth c Γ A (ug G o fin.1) (some (.int fin.2)) 177 6 [(0, .ref (ad Γ o)), (4, .int v4)] [.int s0, .int s1] (ug G o r) := by
  intro H locs ls hw hS hl
  unfold bX10_unlike_177 at hf
  obtain ⟨hx, hb, hml, hr, hown, htw, hlocks, hE⟩ := id C
  have hown : s.vm.findClass RX10 = some m.cls := hown
  refine lv_iadd hx hb dX10_unlike_177 ?_
  refine lv_istore_n (lv' := [(3, .int (s1 + s0)), (0, .ref (ad Γ o)), (4, .int v4)]) hx hb dX10_unlike_178 rfl hl (by decide) rfl (fun ls hl => ?_)
  refine lv_iinc (v := v4 + 1) (lv' := [(4, .int (v4 + 1)), (3, .int (s1 + s0)), (0, .ref (ad Γ o))]) hx hb dX10_unlike_179 hl (k := 2) rfl (by rfl) (by decide) rfl (fun ls hl => ?_)
  refine lv_goto (tgt := 93) hx hb dX10_unlike_182 (by decide) ?_
  obtain rfl := Option.some.inj hf
  exact hq.1 _ rfl H locs ls hw hS (lv_sub hl [2, 1, 0] rfl)

noncomputable def bX10_unlike_176 (r : Rec) (v4 : Int32) (s0 : Int32) : Option ((Int32 × Int32) ⊕ (Rec × Int32)) :=
  bX10_unlike_177 r v4 0 s0
set_option maxRecDepth 100000 in
set_option maxHeartbeats 4000000 in
theorem wX10_unlike_176 {p : Program} {l : Launch} {e : Env} {s : State} {m : MethodId} {args : Array Value} {below : List Frame} {meth : Method} {c : Code} {Γ : Gm} {A : Nat → Prop} {G : Gs} {o : Nat} {r : Rec} {v4 : Int32} {s0 : Int32} {q : ((Int32 × Int32) ⊕ (Rec × Int32))} {fin : Rec × Int32} (C : Cx p s m args meth c yX10_unlike cX10_unlike 6 (some .int) Γ A) (hk : kd Γ o = some 10) (hf : bX10_unlike_176 r v4 s0 = some q) (hq : (KC (fun st : Int32 × Int32 => Wk p l e { frames := 3, cells := 0, slots := 0, locals := 66 } s m args below meth c Γ A (ug G o fin.1) (some (.int fin.2)) 93 6 [(0, .ref (ad Γ o)), (3, .int st.1), (4, .int st.2)] [] (ug G o r)) (fun x => x = fin)) q) : Wk p l e { frames := 3, cells := 0, slots := 0, locals := 66 } s m args below meth c Γ A (ug G o fin.1) (some (.int fin.2)) 176 6 [(0, .ref (ad Γ o)), (4, .int v4)] [.int s0] (ug G o r) := by
  intro H locs ls hw hS hl
  unfold bX10_unlike_176 at hf
  obtain ⟨hx, hb, hml, hr, hown, htw, hlocks, hE⟩ := id C
  have hown : s.vm.findClass RX10 = some m.cls := hown
  refine lv_iconst (v := 0) hx hb dX10_unlike_176 (by decide) ?_
  exact wX10_unlike_177 C hk hf hq H locs ls hw hS hl

noncomputable def bX10_unlike_140 (r : Rec) (v3 : Int32) (v4 : Int32) (s0 : Int32) : Option ((Int32 × Int32) ⊕ (Rec × Int32)) :=
  if s0 = 0 then bX10_unlike_176 r v4 v3 else (fX10_worthNow r (v4 / 8) (v4 - v4 / 8 * 8)).bind fun z1 => gd (inR v4 80) (if z1 = (ga r 46 (Int32.toNatClampNeg v4)) then bX10_unlike_176 r v4 v3 else bX10_unlike_177 r v4 1 v3)
set_option maxRecDepth 100000 in
set_option maxHeartbeats 4000000 in
theorem wX10_unlike_140 {p : Program} {l : Launch} {e : Env} {s : State} {m : MethodId} {args : Array Value} {below : List Frame} {meth : Method} {c : Code} {Γ : Gm} {A : Nat → Prop} {G : Gs} {o : Nat} {r : Rec} {v3 : Int32} {v4 : Int32} {s0 : Int32} {q : ((Int32 × Int32) ⊕ (Rec × Int32))} {fin : Rec × Int32} (C : Cx p s m args meth c yX10_unlike cX10_unlike 6 (some .int) Γ A) (hk : kd Γ o = some 10) (hf : bX10_unlike_140 r v3 v4 s0 = some q) (hq : (KC (fun st : Int32 × Int32 => Wk p l e { frames := 3, cells := 0, slots := 0, locals := 66 } s m args below meth c Γ A (ug G o fin.1) (some (.int fin.2)) 93 6 [(0, .ref (ad Γ o)), (3, .int st.1), (4, .int st.2)] [] (ug G o r)) (fun x => x = fin)) q) : Wk p l e { frames := 3, cells := 0, slots := 0, locals := 66 } s m args below meth c Γ A (ug G o fin.1) (some (.int fin.2)) 140 6 [(0, .ref (ad Γ o)), (3, .int v3), (4, .int v4)] [.int s0] (ug G o r) := by
  intro H locs ls hw hS hl
  unfold bX10_unlike_140 at hf
  obtain ⟨hx, hb, hml, hr, hown, htw, hlocks, hE⟩ := id C
  have hown : s.vm.findClass RX10 = some m.cls := hown
  refine lv_istore (lv' := [(5, .int s0), (0, .ref (ad Γ o)), (3, .int v3), (4, .int v4)]) hx hb dX10_unlike_140 hl (by decide) rfl (fun ls hl => ?_)
  refine lv_iload_n hx hb dX10_unlike_142 rfl (lv_at hl 2 rfl) ?_
  refine lv_iload hx hb dX10_unlike_143 (lv_at hl 0 rfl) ?_
  refine lv_if_eq (tgt := 176) hx hb dX10_unlike_145 (by decide) (fun c4 => ?_) (fun c4 => ?_)
  · have hf := ifp c4 hf
    exact wX10_unlike_176 C hk hf hq H locs ls hw hS (lv_sub hl [1, 3] rfl)
  · have hf := ifn c4 hf
    refine lv_aload_n hx hb dX10_unlike_148 rfl (lv_at hl 1 rfl) ?_
    refine lv_iload hx hb dX10_unlike_149 (lv_at hl 3 rfl) ?_
    refine lv_bipush (v := 8) hx hb dX10_unlike_151 (by decide) ?_
    refine lv_idiv hx hb dX10_unlike_153 (by decide) ?_
    refine lv_iload hx hb dX10_unlike_154 (lv_at hl 3 rfl) ?_
    refine lv_bipush (v := 8) hx hb dX10_unlike_156 (by decide) ?_
    refine lv_irem hx hb dX10_unlike_158 (by decide) ?_
    obtain ⟨z1, hz1, hf⟩ := bd hf
    refine cl_Vs (rest := [.int v3]) (kX10_worthNow (l := l) (Γ := Γ) (A := A) (G := G) (o := o) hk hz1) ⟨hx, hb, hml, hown, htw⟩ hE hw hS (wo_me hw hk) (q0 := 0) rfl rfl mw1557 mw1559 mw69 mw129 mw1560 pdX10_worthNow ⟨Nat.le_of_ble_eq_true rfl, Nat.le_of_ble_eq_true rfl⟩ rfl rfl hl.1 (Nat.le_of_ble_eq_true rfl) dX10_unlike_159 (fun H locs hw hS => ?_)
    refine lv_aload_n hx hb dX10_unlike_162 rfl (lv_at hl 1 rfl) ?_
    refine va_get (ci := 10) (v := .ref (aa Γ o 46)) (C := RX10) (T := TX10) (N := 49) hx hb htw uwX10 hown hE.1 (wo_me hw hk) 0 rfl rfl 46 (by decide) (htw _ mw1289) (fun _ h9 => h9) rfl dX10_unlike_163 ?_
    refine lv_iload hx hb dX10_unlike_166 (lv_at hl 3 rfl) ?_
    obtain ⟨g2, hf⟩ := gd_some hf
    refine va_iald hx hb hE.1 (wo_me hw hk) 22 0 rfl rfl (inR_in g2) dX10_unlike_168 ?_
    refine lv_icmp_eq (tgt := 176) hx hb dX10_unlike_169 (by decide) (fun c3 => ?_) (fun c3 => ?_)
    · have hf := ifp c3 hf
      exact wX10_unlike_176 C hk hf hq H locs ls hw hS (lv_sub hl [1, 3] rfl)
    · have hf := ifn c3 hf
      refine lv_iconst (v := 1) hx hb dX10_unlike_172 (by decide) ?_
      refine lv_goto (tgt := 177) hx hb dX10_unlike_173 (by decide) ?_
      exact wX10_unlike_177 C hk hf hq H locs ls hw hS (lv_sub hl [1, 3] rfl)

noncomputable def bX10_unlike_139 (r : Rec) (v3 : Int32) (v4 : Int32) : Option ((Int32 × Int32) ⊕ (Rec × Int32)) :=
  bX10_unlike_140 r v3 v4 0
set_option maxRecDepth 100000 in
set_option maxHeartbeats 4000000 in
theorem wX10_unlike_139 {p : Program} {l : Launch} {e : Env} {s : State} {m : MethodId} {args : Array Value} {below : List Frame} {meth : Method} {c : Code} {Γ : Gm} {A : Nat → Prop} {G : Gs} {o : Nat} {r : Rec} {v3 : Int32} {v4 : Int32} {q : ((Int32 × Int32) ⊕ (Rec × Int32))} {fin : Rec × Int32} (C : Cx p s m args meth c yX10_unlike cX10_unlike 6 (some .int) Γ A) (hk : kd Γ o = some 10) (hf : bX10_unlike_139 r v3 v4 = some q) (hq : (KC (fun st : Int32 × Int32 => Wk p l e { frames := 3, cells := 0, slots := 0, locals := 66 } s m args below meth c Γ A (ug G o fin.1) (some (.int fin.2)) 93 6 [(0, .ref (ad Γ o)), (3, .int st.1), (4, .int st.2)] [] (ug G o r)) (fun x => x = fin)) q) : Wk p l e { frames := 3, cells := 0, slots := 0, locals := 66 } s m args below meth c Γ A (ug G o fin.1) (some (.int fin.2)) 139 6 [(0, .ref (ad Γ o)), (3, .int v3), (4, .int v4)] [] (ug G o r) := by
  intro H locs ls hw hS hl
  unfold bX10_unlike_139 at hf
  obtain ⟨hx, hb, hml, hr, hown, htw, hlocks, hE⟩ := id C
  have hown : s.vm.findClass RX10 = some m.cls := hown
  refine lv_iconst (v := 0) hx hb dX10_unlike_139 (by decide) ?_
  exact wX10_unlike_140 C hk hf hq H locs ls hw hS hl

noncomputable def bX10_unlike_93 (r : Rec) (v3 : Int32) (v4 : Int32) : Option ((Int32 × Int32) ⊕ (Rec × Int32)) :=
  if 80 ≤ v4 then some (.inr ((r, v3))) else gd (inR v4 80) (if (ga r 46 (Int32.toNatClampNeg v4)) = (-1) then bX10_unlike_139 r v3 v4 else (fX10_isSecret r (v4 / 8)).bind fun z6 => if z6 = 0 then bX10_unlike_139 r v3 v4 else (fX10_isPiece r (v4 - v4 / 8 * 8)).bind fun z7 => if z7 = 0 then bX10_unlike_139 r v3 v4 else bX10_unlike_140 r v3 v4 1)
set_option maxRecDepth 100000 in
set_option maxHeartbeats 4000000 in
theorem wX10_unlike_93 {p : Program} {l : Launch} {e : Env} {s : State} {m : MethodId} {args : Array Value} {below : List Frame} {meth : Method} {c : Code} {Γ : Gm} {A : Nat → Prop} {G : Gs} {o : Nat} {r : Rec} {v3 : Int32} {v4 : Int32} {q : ((Int32 × Int32) ⊕ (Rec × Int32))} {fin : Rec × Int32} (C : Cx p s m args meth c yX10_unlike cX10_unlike 6 (some .int) Γ A) (hk : kd Γ o = some 10) (hf : bX10_unlike_93 r v3 v4 = some q) (hq : (KC (fun st : Int32 × Int32 => Wk p l e { frames := 3, cells := 0, slots := 0, locals := 66 } s m args below meth c Γ A (ug G o fin.1) (some (.int fin.2)) 93 6 [(0, .ref (ad Γ o)), (3, .int st.1), (4, .int st.2)] [] (ug G o r)) (fun x => x = fin)) q) : Wk p l e { frames := 3, cells := 0, slots := 0, locals := 66 } s m args below meth c Γ A (ug G o fin.1) (some (.int fin.2)) 93 6 [(0, .ref (ad Γ o)), (3, .int v3), (4, .int v4)] [] (ug G o r) := by
  intro H locs ls hw hS hl
  unfold bX10_unlike_93 at hf
  obtain ⟨hx, hb, hml, hr, hown, htw, hlocks, hE⟩ := id C
  have hown : s.vm.findClass RX10 = some m.cls := hown
  refine lv_iload hx hb dX10_unlike_93 (lv_at hl 2 rfl) ?_
  refine lv_bipush (v := 80) hx hb dX10_unlike_95 (by decide) ?_
  refine lv_icmp_ge (tgt := 185) hx hb dX10_unlike_97 (by decide) (fun c11 => ?_) (fun c11 => ?_)
  · have hf := ifp c11 hf
    refine lv_iload_n hx hb dX10_unlike_185 rfl (lv_at hl 1 rfl) ?_
    obtain rfl := Option.some.inj hf
    have hq := hq.2 _ rfl
    subst hq
    exact rt_i C hw hS dX10_unlike_186
  · have hf := ifn c11 hf
    refine lv_aload_n hx hb dX10_unlike_100 rfl (lv_at hl 0 rfl) ?_
    refine va_get (ci := 10) (v := .ref (aa Γ o 46)) (C := RX10) (T := TX10) (N := 49) hx hb htw uwX10 hown hE.1 (wo_me hw hk) 0 rfl rfl 46 (by decide) (htw _ mw1289) (fun _ h9 => h9) rfl dX10_unlike_101 ?_
    refine lv_iload hx hb dX10_unlike_104 (lv_at hl 2 rfl) ?_
    obtain ⟨g5, hf⟩ := gd_some hf
    refine va_iald hx hb hE.1 (wo_me hw hk) 22 0 rfl rfl (inR_in g5) dX10_unlike_106 ?_
    refine lv_iconst (v := (-1)) hx hb dX10_unlike_107 (by decide) ?_
    refine lv_icmp_eq (tgt := 139) hx hb dX10_unlike_108 (by decide) (fun c10 => ?_) (fun c10 => ?_)
    · have hf := ifp c10 hf
      exact wX10_unlike_139 C hk hf hq H locs ls hw hS hl
    · have hf := ifn c10 hf
      refine lv_aload_n hx hb dX10_unlike_111 rfl (lv_at hl 0 rfl) ?_
      refine lv_iload hx hb dX10_unlike_112 (lv_at hl 2 rfl) ?_
      refine lv_bipush (v := 8) hx hb dX10_unlike_114 (by decide) ?_
      refine lv_idiv hx hb dX10_unlike_116 (by decide) ?_
      obtain ⟨z6, hz6, hf⟩ := bd hf
      refine cl_Vs (rest := []) (kX10_isSecret (l := l) (Γ := Γ) (A := A) (G := G) (o := o) hk hz6) ⟨hx, hb, hml, hown, htw⟩ hE hw hS (wo_me hw hk) (q0 := 0) rfl rfl mw1549 mw1551 mw67 mw129 mw1552 pdX10_isSecret ⟨Nat.le_of_ble_eq_true rfl, Nat.le_of_ble_eq_true rfl⟩ rfl rfl hl.1 (Nat.le_of_ble_eq_true rfl) dX10_unlike_117 (fun H locs hw hS => ?_)
      refine lv_if_eq (tgt := 139) hx hb dX10_unlike_120 (by decide) (fun c9 => ?_) (fun c9 => ?_)
      · have hf := ifp c9 hf
        exact wX10_unlike_139 C hk hf hq H locs ls hw hS hl
      · have hf := ifn c9 hf
        refine lv_aload_n hx hb dX10_unlike_123 rfl (lv_at hl 0 rfl) ?_
        refine lv_iload hx hb dX10_unlike_124 (lv_at hl 2 rfl) ?_
        refine lv_bipush (v := 8) hx hb dX10_unlike_126 (by decide) ?_
        refine lv_irem hx hb dX10_unlike_128 (by decide) ?_
        obtain ⟨z7, hz7, hf⟩ := bd hf
        refine cl_Vs (rest := []) (kX10_isPiece (l := l) (Γ := Γ) (A := A) (G := G) (o := o) hk hz7) ⟨hx, hb, hml, hown, htw⟩ hE hw hS (wo_me hw hk) (q0 := 0) rfl rfl mw1553 mw1555 mw68 mw129 mw1556 pdX10_isPiece ⟨Nat.le_of_ble_eq_true rfl, Nat.le_of_ble_eq_true rfl⟩ rfl rfl hl.1 (Nat.le_of_ble_eq_true rfl) dX10_unlike_129 (fun H locs hw hS => ?_)
        refine lv_if_eq (tgt := 139) hx hb dX10_unlike_132 (by decide) (fun c8 => ?_) (fun c8 => ?_)
        · have hf := ifp c8 hf
          exact wX10_unlike_139 C hk hf hq H locs ls hw hS hl
        · have hf := ifn c8 hf
          refine lv_iconst (v := 1) hx hb dX10_unlike_135 (by decide) ?_
          refine lv_goto (tgt := 140) hx hb dX10_unlike_136 (by decide) ?_
          exact wX10_unlike_140 C hk hf hq H locs ls hw hS hl

set_option maxRecDepth 100000 in
set_option maxHeartbeats 4000000 in
theorem lwX10_unlike_93 {p : Program} {l : Launch} {e : Env} {s : State} {m : MethodId} {args : Array Value} {below : List Frame} {meth : Method} {c : Code} {Γ : Gm} {A : Nat → Prop} {G : Gs} {o : Nat} {r : Rec} {v3 : Int32} {v4 : Int32} {q : (Rec × Int32)} {fin : Rec × Int32} (C : Cx p s m args meth c yX10_unlike cX10_unlike 6 (some .int) Γ A) (hk : kd Γ o = some 10) (hf : iter (fun st : Int32 × Int32 => bX10_unlike_93 r st.1 st.2) (v3, v4) = some q) (hq : (fun x => x = fin) q) : Wk p l e { frames := 3, cells := 0, slots := 0, locals := 66 } s m args below meth c Γ A (ug G o fin.1) (some (.int fin.2)) 93 6 [(0, .ref (ad Γ o)), (3, .int v3), (4, .int v4)] [] (ug G o r) := by
  intro H locs ls hw hS hl
  refine iter_walk (P := (fun st : Int32 × Int32 => Wk p l e { frames := 3, cells := 0, slots := 0, locals := 66 } s m args below meth c Γ A (ug G o fin.1) (some (.int fin.2)) 93 6 [(0, .ref (ad Γ o)), (3, .int st.1), (4, .int st.2)] [] (ug G o r))) (K := (fun x => x = fin)) (fun st q hq1 h1 h2 => ?_) hf hq H locs ls hw hS hl
  exact wX10_unlike_93 (v3 := st.1) (v4 := st.2) C hk hq1 ⟨h1, h2⟩

noncomputable def bX10_unlike_82 (r : Rec) (v2 : Int32) : Option (Rec × Int32) :=
  (fX10_hand r v2).bind fun z12 => iter (fun st : Int32 × Int32 => bX10_unlike_93 z12.1 st.1 st.2) (0, 0)
set_option maxRecDepth 100000 in
set_option maxHeartbeats 4000000 in
theorem wX10_unlike_82 {p : Program} {l : Launch} {e : Env} {s : State} {m : MethodId} {args : Array Value} {below : List Frame} {meth : Method} {c : Code} {Γ : Gm} {A : Nat → Prop} {G : Gs} {o : Nat} {r : Rec} {v2 : Int32} {q : (Rec × Int32)} {fin : Rec × Int32} (C : Cx p s m args meth c yX10_unlike cX10_unlike 6 (some .int) Γ A) (hk : kd Γ o = some 10) (hf : bX10_unlike_82 r v2 = some q) (hq : (fun x => x = fin) q) : Wk p l e { frames := 3, cells := 0, slots := 0, locals := 66 } s m args below meth c Γ A (ug G o fin.1) (some (.int fin.2)) 82 6 [(0, .ref (ad Γ o)), (2, .int v2)] [] (ug G o r) := by
  intro H locs ls hw hS hl
  unfold bX10_unlike_82 at hf
  obtain ⟨hx, hb, hml, hr, hown, htw, hlocks, hE⟩ := id C
  have hown : s.vm.findClass RX10 = some m.cls := hown
  refine lv_aload_n hx hb dX10_unlike_82 rfl (lv_at hl 0 rfl) ?_
  refine lv_iload_n hx hb dX10_unlike_83 rfl (lv_at hl 1 rfl) ?_
  obtain ⟨z12, hz12, hf⟩ := bd hf
  refine cl_Vs (rest := []) (kX10_hand (l := l) (Γ := Γ) (A := A) (G := G) (o := o) hk hz12) ⟨hx, hb, hml, hown, htw⟩ hE hw hS (wo_me hw hk) (q0 := 0) rfl rfl mw1537 mw1539 mw65 mw129 mw1540 pdX10_hand ⟨Nat.le_of_ble_eq_true rfl, Nat.le_of_ble_eq_true rfl⟩ rfl rfl hl.1 (Nat.le_of_ble_eq_true rfl) dX10_unlike_84 (fun H locs hw hS => ?_)
  refine lv_pop hx hb dX10_unlike_87 rfl ?_
  refine lv_iconst (v := 0) hx hb dX10_unlike_88 (by decide) ?_
  refine lv_istore_n (lv' := [(3, .int 0), (0, .ref (ad Γ o)), (2, .int v2)]) hx hb dX10_unlike_89 rfl hl (by decide) rfl (fun ls hl => ?_)
  refine lv_iconst (v := 0) hx hb dX10_unlike_90 (by decide) ?_
  refine lv_istore (lv' := [(4, .int 0), (3, .int 0), (0, .ref (ad Γ o)), (2, .int v2)]) hx hb dX10_unlike_91 hl (by decide) rfl (fun ls hl => ?_)
  exact lwX10_unlike_93 C hk hf hq H locs ls hw hS (lv_sub hl [2, 1, 0] rfl)

noncomputable def bX10_unlike_75 (r : Rec) (v2 : Int32) (v3 : Int32) (s0 : Int32) (s1 : Int32) : Option ((Int32 × Rec) ⊕ (Rec × Int32)) :=
  gd (inR s1 80) ((some (sa r 46 (upd (ga r 46) (Int32.toNatClampNeg s1) s0))).bind fun r14 => some (.inl (v3 + 1, r14)))
set_option maxRecDepth 100000 in
set_option maxHeartbeats 4000000 in
theorem wX10_unlike_75 {p : Program} {l : Launch} {e : Env} {s : State} {m : MethodId} {args : Array Value} {below : List Frame} {meth : Method} {c : Code} {Γ : Gm} {A : Nat → Prop} {G : Gs} {o : Nat} {r : Rec} {v2 : Int32} {v3 : Int32} {s0 : Int32} {s1 : Int32} {q : ((Int32 × Rec) ⊕ (Rec × Int32))} {fin : Rec × Int32} (C : Cx p s m args meth c yX10_unlike cX10_unlike 6 (some .int) Γ A) (hk : kd Γ o = some 10) (hf : bX10_unlike_75 r v2 v3 s0 s1 = some q) (hq : (KC (fun st : Int32 × Rec => Wk p l e { frames := 3, cells := 0, slots := 0, locals := 66 } s m args below meth c Γ A (ug G o fin.1) (some (.int fin.2)) 26 6 [(0, .ref (ad Γ o)), (2, .int v2), (3, .int st.1)] [] (ug G o st.2)) (fun x => x = fin)) q) : Wk p l e { frames := 3, cells := 0, slots := 0, locals := 66 } s m args below meth c Γ A (ug G o fin.1) (some (.int fin.2)) 75 6 [(0, .ref (ad Γ o)), (2, .int v2), (3, .int v3)] [.int s0, .int s1, .ref (aa Γ o 46)] (ug G o r) := by
  intro H locs ls hw hS hl
  unfold bX10_unlike_75 at hf
  obtain ⟨hx, hb, hml, hr, hown, htw, hlocks, hE⟩ := id C
  have hown : s.vm.findClass RX10 = some m.cls := hown
  obtain ⟨g13, hf⟩ := gd_some hf
  obtain ⟨r14, hr14, hf⟩ := bd hf
  have hr14 := Option.some.inj hr14
  refine wo_iast hx hb hE hw hS hk (q0 := 22) rfl (inR_in g13) (sa10_46 hr14) dX10_unlike_75 (fun H locs hw hS => ?_)
  refine lv_iinc (v := v3 + 1) (lv' := [(3, .int (v3 + 1)), (0, .ref (ad Γ o)), (2, .int v2)]) hx hb dX10_unlike_76 hl (k := 2) rfl (by rfl) (by decide) rfl (fun ls hl => ?_)
  refine lv_goto (tgt := 26) hx hb dX10_unlike_79 (by decide) ?_
  obtain rfl := Option.some.inj hf
  exact hq.1 _ rfl H locs ls hw hS (lv_sub hl [1, 2, 0] rfl)

noncomputable def bX10_unlike_74 (r : Rec) (v2 : Int32) (v3 : Int32) (s0 : Int32) : Option ((Int32 × Rec) ⊕ (Rec × Int32)) :=
  bX10_unlike_75 r v2 v3 (-1) s0
set_option maxRecDepth 100000 in
set_option maxHeartbeats 4000000 in
theorem wX10_unlike_74 {p : Program} {l : Launch} {e : Env} {s : State} {m : MethodId} {args : Array Value} {below : List Frame} {meth : Method} {c : Code} {Γ : Gm} {A : Nat → Prop} {G : Gs} {o : Nat} {r : Rec} {v2 : Int32} {v3 : Int32} {s0 : Int32} {q : ((Int32 × Rec) ⊕ (Rec × Int32))} {fin : Rec × Int32} (C : Cx p s m args meth c yX10_unlike cX10_unlike 6 (some .int) Γ A) (hk : kd Γ o = some 10) (hf : bX10_unlike_74 r v2 v3 s0 = some q) (hq : (KC (fun st : Int32 × Rec => Wk p l e { frames := 3, cells := 0, slots := 0, locals := 66 } s m args below meth c Γ A (ug G o fin.1) (some (.int fin.2)) 26 6 [(0, .ref (ad Γ o)), (2, .int v2), (3, .int st.1)] [] (ug G o st.2)) (fun x => x = fin)) q) : Wk p l e { frames := 3, cells := 0, slots := 0, locals := 66 } s m args below meth c Γ A (ug G o fin.1) (some (.int fin.2)) 74 6 [(0, .ref (ad Γ o)), (2, .int v2), (3, .int v3)] [.int s0, .ref (aa Γ o 46)] (ug G o r) := by
  intro H locs ls hw hS hl
  unfold bX10_unlike_74 at hf
  obtain ⟨hx, hb, hml, hr, hown, htw, hlocks, hE⟩ := id C
  have hown : s.vm.findClass RX10 = some m.cls := hown
  refine lv_iconst (v := (-1)) hx hb dX10_unlike_74 (by decide) ?_
  exact wX10_unlike_75 C hk hf hq H locs ls hw hS hl

noncomputable def bX10_unlike_26 (r : Rec) (v2 : Int32) (v3 : Int32) : Option ((Int32 × Rec) ⊕ (Rec × Int32)) :=
  if 80 ≤ v3 then out1 (bX10_unlike_82 r v2) else (fX10_isSecret r (v3 / 8)).bind fun z16 => if z16 = 0 then bX10_unlike_74 r v2 v3 v3 else (fX10_isPiece r (v3 - v3 / 8 * 8)).bind fun z17 => if z17 = 0 then bX10_unlike_74 r v2 v3 v3 else (fX10_worthNow r (v3 / 8) (v3 - v3 / 8 * 8)).bind fun z18 => bX10_unlike_75 r v2 v3 z18 v3
set_option maxRecDepth 100000 in
set_option maxHeartbeats 4000000 in
theorem wX10_unlike_26 {p : Program} {l : Launch} {e : Env} {s : State} {m : MethodId} {args : Array Value} {below : List Frame} {meth : Method} {c : Code} {Γ : Gm} {A : Nat → Prop} {G : Gs} {o : Nat} {r : Rec} {v2 : Int32} {v3 : Int32} {q : ((Int32 × Rec) ⊕ (Rec × Int32))} {fin : Rec × Int32} (C : Cx p s m args meth c yX10_unlike cX10_unlike 6 (some .int) Γ A) (hk : kd Γ o = some 10) (hf : bX10_unlike_26 r v2 v3 = some q) (hq : (KC (fun st : Int32 × Rec => Wk p l e { frames := 3, cells := 0, slots := 0, locals := 66 } s m args below meth c Γ A (ug G o fin.1) (some (.int fin.2)) 26 6 [(0, .ref (ad Γ o)), (2, .int v2), (3, .int st.1)] [] (ug G o st.2)) (fun x => x = fin)) q) : Wk p l e { frames := 3, cells := 0, slots := 0, locals := 66 } s m args below meth c Γ A (ug G o fin.1) (some (.int fin.2)) 26 6 [(0, .ref (ad Γ o)), (2, .int v2), (3, .int v3)] [] (ug G o r) := by
  intro H locs ls hw hS hl
  unfold bX10_unlike_26 at hf
  obtain ⟨hx, hb, hml, hr, hown, htw, hlocks, hE⟩ := id C
  have hown : s.vm.findClass RX10 = some m.cls := hown
  refine lv_iload_n hx hb dX10_unlike_26 rfl (lv_at hl 2 rfl) ?_
  refine lv_bipush (v := 80) hx hb dX10_unlike_27 (by decide) ?_
  refine lv_icmp_ge (tgt := 82) hx hb dX10_unlike_29 (by decide) (fun c21 => ?_) (fun c21 => ?_)
  · have hf := ifp c21 hf
    obtain ⟨q15, hfq15, eq15⟩ := out1_some hf
    subst eq15
    have hf := hfq15
    have hq := hq.2 _ rfl
    exact wX10_unlike_82 C hk hf hq H locs ls hw hS (lv_sub hl [0, 1] rfl)
  · have hf := ifn c21 hf
    refine lv_aload_n hx hb dX10_unlike_32 rfl (lv_at hl 0 rfl) ?_
    refine va_get (ci := 10) (v := .ref (aa Γ o 46)) (C := RX10) (T := TX10) (N := 49) hx hb htw uwX10 hown hE.1 (wo_me hw hk) 0 rfl rfl 46 (by decide) (htw _ mw1289) (fun _ h9 => h9) rfl dX10_unlike_33 ?_
    refine lv_iload_n hx hb dX10_unlike_36 rfl (lv_at hl 2 rfl) ?_
    refine lv_aload_n hx hb dX10_unlike_37 rfl (lv_at hl 0 rfl) ?_
    refine lv_iload_n hx hb dX10_unlike_38 rfl (lv_at hl 2 rfl) ?_
    refine lv_bipush (v := 8) hx hb dX10_unlike_39 (by decide) ?_
    refine lv_idiv hx hb dX10_unlike_41 (by decide) ?_
    obtain ⟨z16, hz16, hf⟩ := bd hf
    refine cl_Vs (rest := [.int v3, .ref (aa Γ o 46)]) (kX10_isSecret (l := l) (Γ := Γ) (A := A) (G := G) (o := o) hk hz16) ⟨hx, hb, hml, hown, htw⟩ hE hw hS (wo_me hw hk) (q0 := 0) rfl rfl mw1549 mw1551 mw67 mw129 mw1552 pdX10_isSecret ⟨Nat.le_of_ble_eq_true rfl, Nat.le_of_ble_eq_true rfl⟩ rfl rfl hl.1 (Nat.le_of_ble_eq_true rfl) dX10_unlike_42 (fun H locs hw hS => ?_)
    refine lv_if_eq (tgt := 74) hx hb dX10_unlike_45 (by decide) (fun c20 => ?_) (fun c20 => ?_)
    · have hf := ifp c20 hf
      exact wX10_unlike_74 C hk hf hq H locs ls hw hS hl
    · have hf := ifn c20 hf
      refine lv_aload_n hx hb dX10_unlike_48 rfl (lv_at hl 0 rfl) ?_
      refine lv_iload_n hx hb dX10_unlike_49 rfl (lv_at hl 2 rfl) ?_
      refine lv_bipush (v := 8) hx hb dX10_unlike_50 (by decide) ?_
      refine lv_irem hx hb dX10_unlike_52 (by decide) ?_
      obtain ⟨z17, hz17, hf⟩ := bd hf
      refine cl_Vs (rest := [.int v3, .ref (aa Γ o 46)]) (kX10_isPiece (l := l) (Γ := Γ) (A := A) (G := G) (o := o) hk hz17) ⟨hx, hb, hml, hown, htw⟩ hE hw hS (wo_me hw hk) (q0 := 0) rfl rfl mw1553 mw1555 mw68 mw129 mw1556 pdX10_isPiece ⟨Nat.le_of_ble_eq_true rfl, Nat.le_of_ble_eq_true rfl⟩ rfl rfl hl.1 (Nat.le_of_ble_eq_true rfl) dX10_unlike_53 (fun H locs hw hS => ?_)
      refine lv_if_eq (tgt := 74) hx hb dX10_unlike_56 (by decide) (fun c19 => ?_) (fun c19 => ?_)
      · have hf := ifp c19 hf
        exact wX10_unlike_74 C hk hf hq H locs ls hw hS hl
      · have hf := ifn c19 hf
        refine lv_aload_n hx hb dX10_unlike_59 rfl (lv_at hl 0 rfl) ?_
        refine lv_iload_n hx hb dX10_unlike_60 rfl (lv_at hl 2 rfl) ?_
        refine lv_bipush (v := 8) hx hb dX10_unlike_61 (by decide) ?_
        refine lv_idiv hx hb dX10_unlike_63 (by decide) ?_
        refine lv_iload_n hx hb dX10_unlike_64 rfl (lv_at hl 2 rfl) ?_
        refine lv_bipush (v := 8) hx hb dX10_unlike_65 (by decide) ?_
        refine lv_irem hx hb dX10_unlike_67 (by decide) ?_
        obtain ⟨z18, hz18, hf⟩ := bd hf
        refine cl_Vs (rest := [.int v3, .ref (aa Γ o 46)]) (kX10_worthNow (l := l) (Γ := Γ) (A := A) (G := G) (o := o) hk hz18) ⟨hx, hb, hml, hown, htw⟩ hE hw hS (wo_me hw hk) (q0 := 0) rfl rfl mw1557 mw1559 mw69 mw129 mw1560 pdX10_worthNow ⟨Nat.le_of_ble_eq_true rfl, Nat.le_of_ble_eq_true rfl⟩ rfl rfl hl.1 (Nat.le_of_ble_eq_true rfl) dX10_unlike_68 (fun H locs hw hS => ?_)
        refine lv_goto (tgt := 75) hx hb dX10_unlike_71 (by decide) ?_
        exact wX10_unlike_75 C hk hf hq H locs ls hw hS hl

set_option maxRecDepth 100000 in
set_option maxHeartbeats 4000000 in
theorem lwX10_unlike_26 {p : Program} {l : Launch} {e : Env} {s : State} {m : MethodId} {args : Array Value} {below : List Frame} {meth : Method} {c : Code} {Γ : Gm} {A : Nat → Prop} {G : Gs} {o : Nat} {r : Rec} {v2 : Int32} {v3 : Int32} {q : (Rec × Int32)} {fin : Rec × Int32} (C : Cx p s m args meth c yX10_unlike cX10_unlike 6 (some .int) Γ A) (hk : kd Γ o = some 10) (hf : iter (fun st : Int32 × Rec => bX10_unlike_26 st.2 v2 st.1) (v3, r) = some q) (hq : (fun x => x = fin) q) : Wk p l e { frames := 3, cells := 0, slots := 0, locals := 66 } s m args below meth c Γ A (ug G o fin.1) (some (.int fin.2)) 26 6 [(0, .ref (ad Γ o)), (2, .int v2), (3, .int v3)] [] (ug G o r) := by
  intro H locs ls hw hS hl
  refine iter_walk (P := (fun st : Int32 × Rec => Wk p l e { frames := 3, cells := 0, slots := 0, locals := 66 } s m args below meth c Γ A (ug G o fin.1) (some (.int fin.2)) 26 6 [(0, .ref (ad Γ o)), (2, .int v2), (3, .int st.1)] [] (ug G o st.2))) (K := (fun x => x = fin)) (fun st q hq1 h1 h2 => ?_) hf hq H locs ls hw hS hl
  exact wX10_unlike_26 (r := st.2) (v3 := st.1) C hk hq1 ⟨h1, h2⟩

noncomputable def fX10_unlike (r : Rec) (v1 : Int32) (v2 : Int32) : Option (Rec × Int32) :=
  (some (si r 0 0)).bind fun r22 => (fX10_is r22 0 v2).bind fun z23 => if z23 = 0 then some ((r22, (-1))) else (fX10_hand r22 v1).bind fun z24 => if z24.2 = 0 then some ((z24.1, (-1))) else iter (fun st : Int32 × Rec => bX10_unlike_26 st.2 v2 st.1) (0, z24.1)
set_option maxRecDepth 100000 in
set_option maxHeartbeats 4000000 in
theorem wX10_unlike_e {p : Program} {l : Launch} {e : Env} {s : State} {m : MethodId} {args : Array Value} {below : List Frame} {meth : Method} {c : Code} {Γ : Gm} {A : Nat → Prop} {G : Gs} {o : Nat} {r : Rec} {v1 : Int32} {v2 : Int32} {q : (Rec × Int32)} {fin : Rec × Int32} (C : Cx p s m args meth c yX10_unlike cX10_unlike 6 (some .int) Γ A) (hk : kd Γ o = some 10) (hf : fX10_unlike r v1 v2 = some q) (hq : (fun x => x = fin) q) : Wk p l e { frames := 3, cells := 0, slots := 0, locals := 66 } s m args below meth c Γ A (ug G o fin.1) (some (.int fin.2)) 0 6 [(0, .ref (ad Γ o)), (1, .int v1), (2, .int v2)] [] (ug G o r) := by
  intro H locs ls hw hS hl
  unfold fX10_unlike at hf
  obtain ⟨hx, hb, hml, hr, hown, htw, hlocks, hE⟩ := id C
  have hown : s.vm.findClass RX10 = some m.cls := hown
  refine lv_aload_n hx hb dX10_unlike_0 rfl (lv_at hl 0 rfl) ?_
  refine lv_iconst (v := 0) hx hb dX10_unlike_1 (by decide) ?_
  obtain ⟨r22, hr22, hf⟩ := bd hf
  have hr22 := Option.some.inj hr22
  refine wo_put (C := RX10) (T := TX10) (N := 49) (v := .int 0) (ty := .int) hx hb htw uwX10 tyX10 tyX10_ok nmX10 hown hE hw hS hk rfl rfl 0 (by decide) (htw _ mw1243) (fun _ h9 => h9) rfl (tyX10_ok 0 (by decide)) rfl rfl (Nat.le_of_ble_eq_true rfl) (st10_0 hr22) dX10_unlike_2 (fun H locs hw hS => ?_)
  refine lv_aload_n hx hb dX10_unlike_5 rfl (lv_at hl 0 rfl) ?_
  refine lv_iconst (v := 0) hx hb dX10_unlike_6 (by decide) ?_
  refine lv_iload_n hx hb dX10_unlike_7 rfl (lv_at hl 2 rfl) ?_
  obtain ⟨z23, hz23, hf⟩ := bd hf
  refine cl_Vs (rest := []) (kX10_is (l := l) (Γ := Γ) (A := A) (G := G) (o := o) hk hz23) ⟨hx, hb, hml, hown, htw⟩ hE hw hS (wo_me hw hk) (q0 := 0) rfl rfl mw1411 mw1413 mw41 mw129 mw1414 pdX10_is ⟨Nat.le_of_ble_eq_true rfl, Nat.le_of_ble_eq_true rfl⟩ rfl rfl hl.1 (Nat.le_of_ble_eq_true rfl) dX10_unlike_8 (fun H locs hw hS => ?_)
  refine lv_if_eq (tgt := 22) hx hb dX10_unlike_11 (by decide) (fun c26 => ?_) (fun c26 => ?_)
  · have hf := ifp c26 hf
    refine lv_iconst (v := (-1)) hx hb dX10_unlike_22 (by decide) ?_
    obtain rfl := Option.some.inj hf
    subst hq
    exact rt_i C hw hS dX10_unlike_23
  · have hf := ifn c26 hf
    refine lv_aload_n hx hb dX10_unlike_14 rfl (lv_at hl 0 rfl) ?_
    refine lv_iload_n hx hb dX10_unlike_15 rfl (lv_at hl 1 rfl) ?_
    obtain ⟨z24, hz24, hf⟩ := bd hf
    refine cl_Vs (rest := []) (kX10_hand (l := l) (Γ := Γ) (A := A) (G := G) (o := o) hk hz24) ⟨hx, hb, hml, hown, htw⟩ hE hw hS (wo_me hw hk) (q0 := 0) rfl rfl mw1537 mw1539 mw65 mw129 mw1540 pdX10_hand ⟨Nat.le_of_ble_eq_true rfl, Nat.le_of_ble_eq_true rfl⟩ rfl rfl hl.1 (Nat.le_of_ble_eq_true rfl) dX10_unlike_16 (fun H locs hw hS => ?_)
    refine lv_if_ne (tgt := 24) hx hb dX10_unlike_19 (by decide) (fun c25 => ?_) (fun c25 => ?_)
    · have hf := ifn c25 hf
      refine lv_iconst (v := 0) hx hb dX10_unlike_24 (by decide) ?_
      refine lv_istore_n (lv' := [(3, .int 0), (0, .ref (ad Γ o)), (1, .int v1), (2, .int v2)]) hx hb dX10_unlike_25 rfl hl (by decide) rfl (fun ls hl => ?_)
      exact lwX10_unlike_26 C hk hf hq H locs ls hw hS (lv_sub hl [1, 3, 0] rfl)
    · have hf := ifp c25 hf
      refine lv_iconst (v := (-1)) hx hb dX10_unlike_22 (by decide) ?_
      obtain rfl := Option.some.inj hf
      subst hq
      exact rt_i C hw hS dX10_unlike_23

theorem kX10_unlike {l : Launch} {Γ : Gm} {A : Nat → Prop} {G : Gs} {o : Nat} {r : Rec} {v1 : Int32} {v2 : Int32} {fin : Rec × Int32} (hk : kd Γ o = some 10) (hf : fX10_unlike r v1 v2 = some fin) : Kt l yX10_unlike cX10_unlike 6 (some .int) 3 66 Γ A (ug G o r) (ug G o fin.1) [.ref (ad Γ o), .int v1, .int v2] (some (.int fin.2)) :=
  kt_of (by decide) (Nat.le_of_ble_eq_true rfl) (fun p e s m args below meth c C => wX10_unlike_e C hk hf rfl)
theorem kgX10_unlike {l : Launch} {Γ : Gm} {A : Nat → Prop} {G : Gs} {o : Nat} {v1 : Int32} {v2 : Int32} {fin : Rec × Int32} (hk : kd Γ o = some 10) (hf : fX10_unlike (G o) v1 v2 = some fin) : Kt l yX10_unlike cX10_unlike 6 (some .int) 3 66 Γ A G (ug G o fin.1) [.ref (ad Γ o), .int v1, .int v2] (some (.int fin.2)) := by
  have h := kX10_unlike (l := l) (A := A) (G := G) (r := G o) hk hf
  rw [ug_self] at h
  exact h
noncomputable def bX10_spread_112 (r : Rec) (v2 : Int32) (v4 : Int32) (s0 : Int32) (s1 : Int32) : Option ((Int32 × Int32) ⊕ (Rec × Int32)) :=
  some (.inl (s1 ||| s0, v4 + 1))
set_option maxRecDepth 100000 in
set_option maxHeartbeats 4000000 in
theorem wX10_spread_112 {p : Program} {l : Launch} {e : Env} {s : State} {m : MethodId} {args : Array Value} {below : List Frame} {meth : Method} {c : Code} {Γ : Gm} {A : Nat → Prop} {G : Gs} {o : Nat} {r : Rec} {v2 : Int32} {v4 : Int32} {s0 : Int32} {s1 : Int32} {q : ((Int32 × Int32) ⊕ (Rec × Int32))} {fin : Rec × Int32} (C : Cx p s m args meth c yX10_spread cX10_spread 7 (some .int) Γ A) (hk : kd Γ o = some 10) (hf : bX10_spread_112 r v2 v4 s0 s1 = some q) (hq : (KC (fun st : Int32 × Int32 => Wk p l e { frames := 3, cells := 0, slots := 0, locals := 66 } s m args below meth c Γ A (ug G o fin.1) (some (.int fin.2)) 29 7 [(0, .ref (ad Γ o)), (2, .int v2), (3, .int st.1), (4, .int st.2)] [] (ug G o r)) (fun x => x = fin)) q) : Wk p l e { frames := 3, cells := 0, slots := 0, locals := 66 } s m args below meth c Γ A (ug G o fin.1) (some (.int fin.2)) 112 7 [(0, .ref (ad Γ o)), (2, .int v2), (4, .int v4)] [.int s0, .int s1] (ug G o r) := by
  intro H locs ls hw hS hl
  unfold bX10_spread_112 at hf
  obtain ⟨hx, hb, hml, hr, hown, htw, hlocks, hE⟩ := id C
  have hown : s.vm.findClass RX10 = some m.cls := hown
  refine lv_ior hx hb dX10_spread_112 ?_
  refine lv_istore_n (lv' := [(3, .int (s1 ||| s0)), (0, .ref (ad Γ o)), (2, .int v2), (4, .int v4)]) hx hb dX10_spread_113 rfl hl (by decide) rfl (fun ls hl => ?_)
  refine lv_iinc (v := v4 + 1) (lv' := [(4, .int (v4 + 1)), (3, .int (s1 ||| s0)), (0, .ref (ad Γ o)), (2, .int v2)]) hx hb dX10_spread_114 hl (k := 3) rfl (by rfl) (by decide) rfl (fun ls hl => ?_)
  refine lv_goto (tgt := 29) hx hb dX10_spread_117 (by decide) ?_
  obtain rfl := Option.some.inj hf
  exact hq.1 _ rfl H locs ls hw hS (lv_sub hl [2, 3, 1, 0] rfl)

noncomputable def bX10_spread_101 (r : Rec) (v2 : Int32) (v4 : Int32) (s0 : Int32) (s1 : Int32) (s2 : Int32) : Option ((Int32 × Int32) ⊕ (Rec × Int32)) :=
  if s1 = s0 then bX10_spread_112 r v2 v4 ((1 : Int32) <<< (v4 &&& 31)) s2 else bX10_spread_112 r v2 v4 0 s2
set_option maxRecDepth 100000 in
set_option maxHeartbeats 4000000 in
theorem wX10_spread_101 {p : Program} {l : Launch} {e : Env} {s : State} {m : MethodId} {args : Array Value} {below : List Frame} {meth : Method} {c : Code} {Γ : Gm} {A : Nat → Prop} {G : Gs} {o : Nat} {r : Rec} {v2 : Int32} {v4 : Int32} {s0 : Int32} {s1 : Int32} {s2 : Int32} {q : ((Int32 × Int32) ⊕ (Rec × Int32))} {fin : Rec × Int32} (C : Cx p s m args meth c yX10_spread cX10_spread 7 (some .int) Γ A) (hk : kd Γ o = some 10) (hf : bX10_spread_101 r v2 v4 s0 s1 s2 = some q) (hq : (KC (fun st : Int32 × Int32 => Wk p l e { frames := 3, cells := 0, slots := 0, locals := 66 } s m args below meth c Γ A (ug G o fin.1) (some (.int fin.2)) 29 7 [(0, .ref (ad Γ o)), (2, .int v2), (3, .int st.1), (4, .int st.2)] [] (ug G o r)) (fun x => x = fin)) q) : Wk p l e { frames := 3, cells := 0, slots := 0, locals := 66 } s m args below meth c Γ A (ug G o fin.1) (some (.int fin.2)) 101 7 [(0, .ref (ad Γ o)), (2, .int v2), (4, .int v4)] [.int s0, .int s1, .int s2] (ug G o r) := by
  intro H locs ls hw hS hl
  unfold bX10_spread_101 at hf
  obtain ⟨hx, hb, hml, hr, hown, htw, hlocks, hE⟩ := id C
  have hown : s.vm.findClass RX10 = some m.cls := hown
  refine lv_icmp_ne (tgt := 111) hx hb dX10_spread_101 (by decide) (fun c1 => ?_) (fun c1 => ?_)
  · have hf := ifn c1 hf
    refine lv_iconst (v := 0) hx hb dX10_spread_111 (by decide) ?_
    exact wX10_spread_112 C hk hf hq H locs ls hw hS hl
  · have hf := ifp c1 hf
    refine lv_iconst (v := 1) hx hb dX10_spread_104 (by decide) ?_
    refine lv_iload hx hb dX10_spread_105 (lv_at hl 2 rfl) ?_
    refine lv_ishl hx hb dX10_spread_107 ?_
    refine lv_goto (tgt := 112) hx hb dX10_spread_108 (by decide) ?_
    exact wX10_spread_112 C hk hf hq H locs ls hw hS hl

noncomputable def bX10_spread_84 (r : Rec) (v2 : Int32) (v3 : Int32) (v4 : Int32) (v5 : Int32) : Option ((Int32 × Int32) ⊕ (Rec × Int32)) :=
  if v2 = 0 then bX10_spread_101 r v2 v4 (gi r 26) v5 v3 else bX10_spread_101 r v2 v4 (v2 - 1) v5 v3
set_option maxRecDepth 100000 in
set_option maxHeartbeats 4000000 in
theorem wX10_spread_84 {p : Program} {l : Launch} {e : Env} {s : State} {m : MethodId} {args : Array Value} {below : List Frame} {meth : Method} {c : Code} {Γ : Gm} {A : Nat → Prop} {G : Gs} {o : Nat} {r : Rec} {v2 : Int32} {v3 : Int32} {v4 : Int32} {v5 : Int32} {q : ((Int32 × Int32) ⊕ (Rec × Int32))} {fin : Rec × Int32} (C : Cx p s m args meth c yX10_spread cX10_spread 7 (some .int) Γ A) (hk : kd Γ o = some 10) (hf : bX10_spread_84 r v2 v3 v4 v5 = some q) (hq : (KC (fun st : Int32 × Int32 => Wk p l e { frames := 3, cells := 0, slots := 0, locals := 66 } s m args below meth c Γ A (ug G o fin.1) (some (.int fin.2)) 29 7 [(0, .ref (ad Γ o)), (2, .int v2), (3, .int st.1), (4, .int st.2)] [] (ug G o r)) (fun x => x = fin)) q) : Wk p l e { frames := 3, cells := 0, slots := 0, locals := 66 } s m args below meth c Γ A (ug G o fin.1) (some (.int fin.2)) 84 7 [(0, .ref (ad Γ o)), (2, .int v2), (3, .int v3), (4, .int v4), (5, .int v5)] [] (ug G o r) := by
  intro H locs ls hw hS hl
  unfold bX10_spread_84 at hf
  obtain ⟨hx, hb, hml, hr, hown, htw, hlocks, hE⟩ := id C
  have hown : s.vm.findClass RX10 = some m.cls := hown
  refine lv_iload_n hx hb dX10_spread_84 rfl (lv_at hl 2 rfl) ?_
  refine lv_iload hx hb dX10_spread_85 (lv_at hl 4 rfl) ?_
  refine lv_iload_n hx hb dX10_spread_87 rfl (lv_at hl 1 rfl) ?_
  refine lv_if_ne (tgt := 98) hx hb dX10_spread_88 (by decide) (fun c2 => ?_) (fun c2 => ?_)
  · have hf := ifn c2 hf
    refine lv_iload_n hx hb dX10_spread_98 rfl (lv_at hl 1 rfl) ?_
    refine lv_iconst (v := 1) hx hb dX10_spread_99 (by decide) ?_
    refine lv_isub hx hb dX10_spread_100 ?_
    exact wX10_spread_101 C hk hf hq H locs ls hw hS (lv_sub hl [0, 1, 3] rfl)
  · have hf := ifp c2 hf
    refine lv_aload_n hx hb dX10_spread_91 rfl (lv_at hl 0 rfl) ?_
    refine va_get (ci := 10) (v := .int (gi r 26)) (C := RX10) (T := TX10) (N := 49) hx hb htw uwX10 hown hE.1 (wo_me hw hk) 0 rfl rfl 26 (by decide) (htw _ mw1269) (fun _ h9 => h9) rfl dX10_spread_92 ?_
    refine lv_goto (tgt := 101) hx hb dX10_spread_95 (by decide) ?_
    exact wX10_spread_101 C hk hf hq H locs ls hw hS (lv_sub hl [0, 1, 3] rfl)

noncomputable def bX10_spread_75 (r : Rec) (v2 : Int32) (v3 : Int32) (v4 : Int32) (v6 : Int32) (s0 : Int32) (s1 : Int32) : Option ((Int32 × Int32) ⊕ ((Int32 × Int32) ⊕ (Rec × Int32))) :=
  some (.inl (s1 + s0, v6 + 1))
set_option maxRecDepth 100000 in
set_option maxHeartbeats 4000000 in
theorem wX10_spread_75 {p : Program} {l : Launch} {e : Env} {s : State} {m : MethodId} {args : Array Value} {below : List Frame} {meth : Method} {c : Code} {Γ : Gm} {A : Nat → Prop} {G : Gs} {o : Nat} {r : Rec} {v2 : Int32} {v3 : Int32} {v4 : Int32} {v6 : Int32} {s0 : Int32} {s1 : Int32} {q : ((Int32 × Int32) ⊕ ((Int32 × Int32) ⊕ (Rec × Int32)))} {fin : Rec × Int32} (C : Cx p s m args meth c yX10_spread cX10_spread 7 (some .int) Γ A) (hk : kd Γ o = some 10) (hf : bX10_spread_75 r v2 v3 v4 v6 s0 s1 = some q) (hq : (KC (fun st : Int32 × Int32 => Wk p l e { frames := 3, cells := 0, slots := 0, locals := 66 } s m args below meth c Γ A (ug G o fin.1) (some (.int fin.2)) 44 7 [(0, .ref (ad Γ o)), (2, .int v2), (3, .int v3), (4, .int v4), (5, .int st.1), (6, .int st.2)] [] (ug G o r)) (KC (fun st : Int32 × Int32 => Wk p l e { frames := 3, cells := 0, slots := 0, locals := 66 } s m args below meth c Γ A (ug G o fin.1) (some (.int fin.2)) 29 7 [(0, .ref (ad Γ o)), (2, .int v2), (3, .int st.1), (4, .int st.2)] [] (ug G o r)) (fun x => x = fin))) q) : Wk p l e { frames := 3, cells := 0, slots := 0, locals := 66 } s m args below meth c Γ A (ug G o fin.1) (some (.int fin.2)) 75 7 [(0, .ref (ad Γ o)), (2, .int v2), (3, .int v3), (4, .int v4), (6, .int v6)] [.int s0, .int s1] (ug G o r) := by
  intro H locs ls hw hS hl
  unfold bX10_spread_75 at hf
  obtain ⟨hx, hb, hml, hr, hown, htw, hlocks, hE⟩ := id C
  have hown : s.vm.findClass RX10 = some m.cls := hown
  refine lv_iadd hx hb dX10_spread_75 ?_
  refine lv_istore (lv' := [(5, .int (s1 + s0)), (0, .ref (ad Γ o)), (2, .int v2), (3, .int v3), (4, .int v4), (6, .int v6)]) hx hb dX10_spread_76 hl (by decide) rfl (fun ls hl => ?_)
  refine lv_iinc (v := v6 + 1) (lv' := [(6, .int (v6 + 1)), (5, .int (s1 + s0)), (0, .ref (ad Γ o)), (2, .int v2), (3, .int v3), (4, .int v4)]) hx hb dX10_spread_78 hl (k := 5) rfl (by rfl) (by decide) rfl (fun ls hl => ?_)
  refine lv_goto (tgt := 44) hx hb dX10_spread_81 (by decide) ?_
  obtain rfl := Option.some.inj hf
  exact hq.1 _ rfl H locs ls hw hS (lv_sub hl [2, 3, 4, 5, 1, 0] rfl)

noncomputable def bX10_spread_44 (r : Rec) (v2 : Int32) (v3 : Int32) (v4 : Int32) (v5 : Int32) (v6 : Int32) : Option ((Int32 × Int32) ⊕ ((Int32 × Int32) ⊕ (Rec × Int32))) :=
  if (gi r 26) ≤ v6 then out1 (bX10_spread_84 r v2 v3 v4 v5) else gd (inR v6 8) ((fX10_has (ga r 28 (Int32.toNatClampNeg v6)) v4).bind fun z5 => if z5 = 0 then bX10_spread_75 r v2 v3 v4 v6 0 v5 else bX10_spread_75 r v2 v3 v4 v6 1 v5)
set_option maxRecDepth 100000 in
set_option maxHeartbeats 4000000 in
theorem wX10_spread_44 {p : Program} {l : Launch} {e : Env} {s : State} {m : MethodId} {args : Array Value} {below : List Frame} {meth : Method} {c : Code} {Γ : Gm} {A : Nat → Prop} {G : Gs} {o : Nat} {r : Rec} {v2 : Int32} {v3 : Int32} {v4 : Int32} {v5 : Int32} {v6 : Int32} {q : ((Int32 × Int32) ⊕ ((Int32 × Int32) ⊕ (Rec × Int32)))} {fin : Rec × Int32} (C : Cx p s m args meth c yX10_spread cX10_spread 7 (some .int) Γ A) (hk : kd Γ o = some 10) (hf : bX10_spread_44 r v2 v3 v4 v5 v6 = some q) (hq : (KC (fun st : Int32 × Int32 => Wk p l e { frames := 3, cells := 0, slots := 0, locals := 66 } s m args below meth c Γ A (ug G o fin.1) (some (.int fin.2)) 44 7 [(0, .ref (ad Γ o)), (2, .int v2), (3, .int v3), (4, .int v4), (5, .int st.1), (6, .int st.2)] [] (ug G o r)) (KC (fun st : Int32 × Int32 => Wk p l e { frames := 3, cells := 0, slots := 0, locals := 66 } s m args below meth c Γ A (ug G o fin.1) (some (.int fin.2)) 29 7 [(0, .ref (ad Γ o)), (2, .int v2), (3, .int st.1), (4, .int st.2)] [] (ug G o r)) (fun x => x = fin))) q) : Wk p l e { frames := 3, cells := 0, slots := 0, locals := 66 } s m args below meth c Γ A (ug G o fin.1) (some (.int fin.2)) 44 7 [(0, .ref (ad Γ o)), (2, .int v2), (3, .int v3), (4, .int v4), (5, .int v5), (6, .int v6)] [] (ug G o r) := by
  intro H locs ls hw hS hl
  unfold bX10_spread_44 at hf
  obtain ⟨hx, hb, hml, hr, hown, htw, hlocks, hE⟩ := id C
  have hown : s.vm.findClass RX10 = some m.cls := hown
  refine lv_iload hx hb dX10_spread_44 (lv_at hl 5 rfl) ?_
  refine lv_aload_n hx hb dX10_spread_46 rfl (lv_at hl 0 rfl) ?_
  refine va_get (ci := 10) (v := .int (gi r 26)) (C := RX10) (T := TX10) (N := 49) hx hb htw uwX10 hown hE.1 (wo_me hw hk) 0 rfl rfl 26 (by decide) (htw _ mw1269) (fun _ h9 => h9) rfl dX10_spread_47 ?_
  refine lv_icmp_ge (tgt := 84) hx hb dX10_spread_50 (by decide) (fun c7 => ?_) (fun c7 => ?_)
  · have hf := ifp c7 hf
    obtain ⟨q3, hfq3, eq3⟩ := out1_some hf
    subst eq3
    have hf := hfq3
    have hq := hq.2 _ rfl
    exact wX10_spread_84 C hk hf hq H locs ls hw hS (lv_sub hl [0, 1, 2, 3, 4] rfl)
  · have hf := ifn c7 hf
    refine lv_iload hx hb dX10_spread_53 (lv_at hl 4 rfl) ?_
    refine lv_aload_n hx hb dX10_spread_55 rfl (lv_at hl 0 rfl) ?_
    refine va_get (ci := 10) (v := .ref (aa Γ o 28)) (C := RX10) (T := TX10) (N := 49) hx hb htw uwX10 hown hE.1 (wo_me hw hk) 0 rfl rfl 28 (by decide) (htw _ mw1271) (fun _ h9 => h9) rfl dX10_spread_56 ?_
    refine lv_iload hx hb dX10_spread_59 (lv_at hl 5 rfl) ?_
    obtain ⟨g4, hf⟩ := gd_some hf
    refine va_iald hx hb hE.1 (wo_me hw hk) 12 0 rfl rfl (inR_in g4) dX10_spread_61 ?_
    refine lv_iload hx hb dX10_spread_62 (lv_at hl 3 rfl) ?_
    obtain ⟨z5, hz5, hf⟩ := bd hf
    refine cl_Ss (rest := [.int v5]) (kX10_has (l := l) (Γ := Γ) (A := A) (G := (ug G o r)) hz5) ⟨hx, hb, hml, hown, htw⟩ hE hw hS mw1561 mw1562 mw129 mw1563 pdX10_has ⟨Nat.le_of_ble_eq_true rfl, Nat.le_of_ble_eq_true rfl⟩ rfl rfl hl.1 (Nat.le_of_ble_eq_true rfl) dX10_spread_64 (fun H locs hw hS => ?_)
    refine lv_if_eq (tgt := 74) hx hb dX10_spread_67 (by decide) (fun c6 => ?_) (fun c6 => ?_)
    · have hf := ifp c6 hf
      refine lv_iconst (v := 0) hx hb dX10_spread_74 (by decide) ?_
      exact wX10_spread_75 C hk hf hq H locs ls hw hS (lv_sub hl [0, 1, 2, 3, 5] rfl)
    · have hf := ifn c6 hf
      refine lv_iconst (v := 1) hx hb dX10_spread_70 (by decide) ?_
      refine lv_goto (tgt := 75) hx hb dX10_spread_71 (by decide) ?_
      exact wX10_spread_75 C hk hf hq H locs ls hw hS (lv_sub hl [0, 1, 2, 3, 5] rfl)

set_option maxRecDepth 100000 in
set_option maxHeartbeats 4000000 in
theorem lwX10_spread_44 {p : Program} {l : Launch} {e : Env} {s : State} {m : MethodId} {args : Array Value} {below : List Frame} {meth : Method} {c : Code} {Γ : Gm} {A : Nat → Prop} {G : Gs} {o : Nat} {r : Rec} {v2 : Int32} {v3 : Int32} {v4 : Int32} {v5 : Int32} {v6 : Int32} {q : ((Int32 × Int32) ⊕ (Rec × Int32))} {fin : Rec × Int32} (C : Cx p s m args meth c yX10_spread cX10_spread 7 (some .int) Γ A) (hk : kd Γ o = some 10) (hf : iter (fun st : Int32 × Int32 => bX10_spread_44 r v2 v3 v4 st.1 st.2) (v5, v6) = some q) (hq : (KC (fun st : Int32 × Int32 => Wk p l e { frames := 3, cells := 0, slots := 0, locals := 66 } s m args below meth c Γ A (ug G o fin.1) (some (.int fin.2)) 29 7 [(0, .ref (ad Γ o)), (2, .int v2), (3, .int st.1), (4, .int st.2)] [] (ug G o r)) (fun x => x = fin)) q) : Wk p l e { frames := 3, cells := 0, slots := 0, locals := 66 } s m args below meth c Γ A (ug G o fin.1) (some (.int fin.2)) 44 7 [(0, .ref (ad Γ o)), (2, .int v2), (3, .int v3), (4, .int v4), (5, .int v5), (6, .int v6)] [] (ug G o r) := by
  intro H locs ls hw hS hl
  refine iter_walk (P := (fun st : Int32 × Int32 => Wk p l e { frames := 3, cells := 0, slots := 0, locals := 66 } s m args below meth c Γ A (ug G o fin.1) (some (.int fin.2)) 44 7 [(0, .ref (ad Γ o)), (2, .int v2), (3, .int v3), (4, .int v4), (5, .int st.1), (6, .int st.2)] [] (ug G o r))) (K := (KC (fun st : Int32 × Int32 => Wk p l e { frames := 3, cells := 0, slots := 0, locals := 66 } s m args below meth c Γ A (ug G o fin.1) (some (.int fin.2)) 29 7 [(0, .ref (ad Γ o)), (2, .int v2), (3, .int st.1), (4, .int st.2)] [] (ug G o r)) (fun x => x = fin))) (fun st q hq1 h1 h2 => ?_) hf hq H locs ls hw hS hl
  exact wX10_spread_44 (v5 := st.1) (v6 := st.2) C hk hq1 ⟨h1, h2⟩

noncomputable def bX10_spread_29 (r : Rec) (v2 : Int32) (v3 : Int32) (v4 : Int32) : Option ((Int32 × Int32) ⊕ (Rec × Int32)) :=
  if (gi r 27) ≤ v4 then some (.inr ((r, v3))) else iter (fun st : Int32 × Int32 => bX10_spread_44 r v2 v3 v4 st.1 st.2) (0, 0)
set_option maxRecDepth 100000 in
set_option maxHeartbeats 4000000 in
theorem wX10_spread_29 {p : Program} {l : Launch} {e : Env} {s : State} {m : MethodId} {args : Array Value} {below : List Frame} {meth : Method} {c : Code} {Γ : Gm} {A : Nat → Prop} {G : Gs} {o : Nat} {r : Rec} {v2 : Int32} {v3 : Int32} {v4 : Int32} {q : ((Int32 × Int32) ⊕ (Rec × Int32))} {fin : Rec × Int32} (C : Cx p s m args meth c yX10_spread cX10_spread 7 (some .int) Γ A) (hk : kd Γ o = some 10) (hf : bX10_spread_29 r v2 v3 v4 = some q) (hq : (KC (fun st : Int32 × Int32 => Wk p l e { frames := 3, cells := 0, slots := 0, locals := 66 } s m args below meth c Γ A (ug G o fin.1) (some (.int fin.2)) 29 7 [(0, .ref (ad Γ o)), (2, .int v2), (3, .int st.1), (4, .int st.2)] [] (ug G o r)) (fun x => x = fin)) q) : Wk p l e { frames := 3, cells := 0, slots := 0, locals := 66 } s m args below meth c Γ A (ug G o fin.1) (some (.int fin.2)) 29 7 [(0, .ref (ad Γ o)), (2, .int v2), (3, .int v3), (4, .int v4)] [] (ug G o r) := by
  intro H locs ls hw hS hl
  unfold bX10_spread_29 at hf
  obtain ⟨hx, hb, hml, hr, hown, htw, hlocks, hE⟩ := id C
  have hown : s.vm.findClass RX10 = some m.cls := hown
  refine lv_iload hx hb dX10_spread_29 (lv_at hl 3 rfl) ?_
  refine lv_aload_n hx hb dX10_spread_31 rfl (lv_at hl 0 rfl) ?_
  refine va_get (ci := 10) (v := .int (gi r 27)) (C := RX10) (T := TX10) (N := 49) hx hb htw uwX10 hown hE.1 (wo_me hw hk) 0 rfl rfl 27 (by decide) (htw _ mw1270) (fun _ h9 => h9) rfl dX10_spread_32 ?_
  refine lv_icmp_ge (tgt := 120) hx hb dX10_spread_35 (by decide) (fun c8 => ?_) (fun c8 => ?_)
  · have hf := ifp c8 hf
    refine lv_iload_n hx hb dX10_spread_120 rfl (lv_at hl 2 rfl) ?_
    obtain rfl := Option.some.inj hf
    have hq := hq.2 _ rfl
    subst hq
    exact rt_i C hw hS dX10_spread_121
  · have hf := ifn c8 hf
    refine lv_iconst (v := 0) hx hb dX10_spread_38 (by decide) ?_
    refine lv_istore (lv' := [(5, .int 0), (0, .ref (ad Γ o)), (2, .int v2), (3, .int v3), (4, .int v4)]) hx hb dX10_spread_39 hl (by decide) rfl (fun ls hl => ?_)
    refine lv_iconst (v := 0) hx hb dX10_spread_41 (by decide) ?_
    refine lv_istore (lv' := [(6, .int 0), (5, .int 0), (0, .ref (ad Γ o)), (2, .int v2), (3, .int v3), (4, .int v4)]) hx hb dX10_spread_42 hl (by decide) rfl (fun ls hl => ?_)
    exact lwX10_spread_44 C hk hf hq H locs ls hw hS (lv_sub hl [2, 3, 4, 5, 1, 0] rfl)

set_option maxRecDepth 100000 in
set_option maxHeartbeats 4000000 in
theorem lwX10_spread_29 {p : Program} {l : Launch} {e : Env} {s : State} {m : MethodId} {args : Array Value} {below : List Frame} {meth : Method} {c : Code} {Γ : Gm} {A : Nat → Prop} {G : Gs} {o : Nat} {r : Rec} {v2 : Int32} {v3 : Int32} {v4 : Int32} {q : (Rec × Int32)} {fin : Rec × Int32} (C : Cx p s m args meth c yX10_spread cX10_spread 7 (some .int) Γ A) (hk : kd Γ o = some 10) (hf : iter (fun st : Int32 × Int32 => bX10_spread_29 r v2 st.1 st.2) (v3, v4) = some q) (hq : (fun x => x = fin) q) : Wk p l e { frames := 3, cells := 0, slots := 0, locals := 66 } s m args below meth c Γ A (ug G o fin.1) (some (.int fin.2)) 29 7 [(0, .ref (ad Γ o)), (2, .int v2), (3, .int v3), (4, .int v4)] [] (ug G o r) := by
  intro H locs ls hw hS hl
  refine iter_walk (P := (fun st : Int32 × Int32 => Wk p l e { frames := 3, cells := 0, slots := 0, locals := 66 } s m args below meth c Γ A (ug G o fin.1) (some (.int fin.2)) 29 7 [(0, .ref (ad Γ o)), (2, .int v2), (3, .int st.1), (4, .int st.2)] [] (ug G o r))) (K := (fun x => x = fin)) (fun st q hq1 h1 h2 => ?_) hf hq H locs ls hw hS hl
  exact wX10_spread_29 (v3 := st.1) (v4 := st.2) C hk hq1 ⟨h1, h2⟩

noncomputable def fX10_spread (r : Rec) (v1 : Int32) (v2 : Int32) : Option (Rec × Int32) :=
  (some (si r 0 0)).bind fun r9 => (fX10_hand r9 v1).bind fun z10 => if z10.2 = 0 then some ((z10.1, (-1))) else (fX10_in v2 0 2).bind fun z11 => if z11 = 0 then some ((z10.1, (-1))) else iter (fun st : Int32 × Int32 => bX10_spread_29 z10.1 v2 st.1 st.2) (0, 0)
set_option maxRecDepth 100000 in
set_option maxHeartbeats 4000000 in
theorem wX10_spread_e {p : Program} {l : Launch} {e : Env} {s : State} {m : MethodId} {args : Array Value} {below : List Frame} {meth : Method} {c : Code} {Γ : Gm} {A : Nat → Prop} {G : Gs} {o : Nat} {r : Rec} {v1 : Int32} {v2 : Int32} {q : (Rec × Int32)} {fin : Rec × Int32} (C : Cx p s m args meth c yX10_spread cX10_spread 7 (some .int) Γ A) (hk : kd Γ o = some 10) (hf : fX10_spread r v1 v2 = some q) (hq : (fun x => x = fin) q) : Wk p l e { frames := 3, cells := 0, slots := 0, locals := 66 } s m args below meth c Γ A (ug G o fin.1) (some (.int fin.2)) 0 7 [(0, .ref (ad Γ o)), (1, .int v1), (2, .int v2)] [] (ug G o r) := by
  intro H locs ls hw hS hl
  unfold fX10_spread at hf
  obtain ⟨hx, hb, hml, hr, hown, htw, hlocks, hE⟩ := id C
  have hown : s.vm.findClass RX10 = some m.cls := hown
  refine lv_aload_n hx hb dX10_spread_0 rfl (lv_at hl 0 rfl) ?_
  refine lv_iconst (v := 0) hx hb dX10_spread_1 (by decide) ?_
  obtain ⟨r9, hr9, hf⟩ := bd hf
  have hr9 := Option.some.inj hr9
  refine wo_put (C := RX10) (T := TX10) (N := 49) (v := .int 0) (ty := .int) hx hb htw uwX10 tyX10 tyX10_ok nmX10 hown hE hw hS hk rfl rfl 0 (by decide) (htw _ mw1243) (fun _ h9 => h9) rfl (tyX10_ok 0 (by decide)) rfl rfl (Nat.le_of_ble_eq_true rfl) (st10_0 hr9) dX10_spread_2 (fun H locs hw hS => ?_)
  refine lv_aload_n hx hb dX10_spread_5 rfl (lv_at hl 0 rfl) ?_
  refine lv_iload_n hx hb dX10_spread_6 rfl (lv_at hl 1 rfl) ?_
  obtain ⟨z10, hz10, hf⟩ := bd hf
  refine cl_Vs (rest := []) (kX10_hand (l := l) (Γ := Γ) (A := A) (G := G) (o := o) hk hz10) ⟨hx, hb, hml, hown, htw⟩ hE hw hS (wo_me hw hk) (q0 := 0) rfl rfl mw1537 mw1539 mw65 mw129 mw1540 pdX10_hand ⟨Nat.le_of_ble_eq_true rfl, Nat.le_of_ble_eq_true rfl⟩ rfl rfl hl.1 (Nat.le_of_ble_eq_true rfl) dX10_spread_7 (fun H locs hw hS => ?_)
  refine lv_if_eq (tgt := 22) hx hb dX10_spread_10 (by decide) (fun c13 => ?_) (fun c13 => ?_)
  · have hf := ifp c13 hf
    refine lv_iconst (v := (-1)) hx hb dX10_spread_22 (by decide) ?_
    obtain rfl := Option.some.inj hf
    subst hq
    exact rt_i C hw hS dX10_spread_23
  · have hf := ifn c13 hf
    refine lv_iload_n hx hb dX10_spread_13 rfl (lv_at hl 2 rfl) ?_
    refine lv_iconst (v := 0) hx hb dX10_spread_14 (by decide) ?_
    refine lv_iconst (v := 2) hx hb dX10_spread_15 (by decide) ?_
    obtain ⟨z11, hz11, hf⟩ := bd hf
    refine cl_Ss (rest := []) (kX10_in (l := l) (Γ := Γ) (A := A) (G := (ug G o z10.1)) hz11) ⟨hx, hb, hml, hown, htw⟩ hE hw hS mw1404 mw1405 mw129 mw1406 pdX10_in ⟨Nat.le_of_ble_eq_true rfl, Nat.le_of_ble_eq_true rfl⟩ rfl rfl hl.1 (Nat.le_of_ble_eq_true rfl) dX10_spread_16 (fun H locs hw hS => ?_)
    refine lv_if_ne (tgt := 24) hx hb dX10_spread_19 (by decide) (fun c12 => ?_) (fun c12 => ?_)
    · have hf := ifn c12 hf
      refine lv_iconst (v := 0) hx hb dX10_spread_24 (by decide) ?_
      refine lv_istore_n (lv' := [(3, .int 0), (0, .ref (ad Γ o)), (1, .int v1), (2, .int v2)]) hx hb dX10_spread_25 rfl hl (by decide) rfl (fun ls hl => ?_)
      refine lv_iconst (v := 0) hx hb dX10_spread_26 (by decide) ?_
      refine lv_istore (lv' := [(4, .int 0), (3, .int 0), (0, .ref (ad Γ o)), (1, .int v1), (2, .int v2)]) hx hb dX10_spread_27 hl (by decide) rfl (fun ls hl => ?_)
      exact lwX10_spread_29 C hk hf hq H locs ls hw hS (lv_sub hl [2, 4, 1, 0] rfl)
    · have hf := ifp c12 hf
      refine lv_iconst (v := (-1)) hx hb dX10_spread_22 (by decide) ?_
      obtain rfl := Option.some.inj hf
      subst hq
      exact rt_i C hw hS dX10_spread_23

theorem kX10_spread {l : Launch} {Γ : Gm} {A : Nat → Prop} {G : Gs} {o : Nat} {r : Rec} {v1 : Int32} {v2 : Int32} {fin : Rec × Int32} (hk : kd Γ o = some 10) (hf : fX10_spread r v1 v2 = some fin) : Kt l yX10_spread cX10_spread 7 (some .int) 3 66 Γ A (ug G o r) (ug G o fin.1) [.ref (ad Γ o), .int v1, .int v2] (some (.int fin.2)) :=
  kt_of (by decide) (Nat.le_of_ble_eq_true rfl) (fun p e s m args below meth c C => wX10_spread_e C hk hf rfl)
theorem kgX10_spread {l : Launch} {Γ : Gm} {A : Nat → Prop} {G : Gs} {o : Nat} {v1 : Int32} {v2 : Int32} {fin : Rec × Int32} (hk : kd Γ o = some 10) (hf : fX10_spread (G o) v1 v2 = some fin) : Kt l yX10_spread cX10_spread 7 (some .int) 3 66 Γ A G (ug G o fin.1) [.ref (ad Γ o), .int v1, .int v2] (some (.int fin.2)) := by
  have h := kX10_spread (l := l) (A := A) (G := G) (r := G o) hk hf
  rw [ug_self] at h
  exact h
noncomputable def bX10_depth_41 (r : Rec) (v3 : Int32) (v4 : Int32) (v5 : Int32) : Option ((Int32 × Int32) ⊕ (Rec × Int32)) :=
  if 10 < v5 then some (.inr ((r, (-1)))) else (fX10_has v4 v3).bind fun z1 => if z1 = 0 then (fX10_round r v4 (-1)).bind fun z2 => some (.inl (z2, v5 + 1)) else some (.inr ((r, v5)))
set_option maxRecDepth 100000 in
set_option maxHeartbeats 4000000 in
theorem wX10_depth_41 {p : Program} {l : Launch} {e : Env} {s : State} {m : MethodId} {args : Array Value} {below : List Frame} {meth : Method} {c : Code} {Γ : Gm} {A : Nat → Prop} {G : Gs} {o : Nat} {r : Rec} {v3 : Int32} {v4 : Int32} {v5 : Int32} {q : ((Int32 × Int32) ⊕ (Rec × Int32))} {fin : Rec × Int32} (C : Cx p s m args meth c yX10_depth cX10_depth 6 (some .int) Γ A) (hk : kd Γ o = some 10) (hf : bX10_depth_41 r v3 v4 v5 = some q) (hq : (KC (fun st : Int32 × Int32 => Wk p l e { frames := 4, cells := 0, slots := 0, locals := 89 } s m args below meth c Γ A (ug G o fin.1) (some (.int fin.2)) 41 6 [(0, .ref (ad Γ o)), (3, .int v3), (4, .int st.1), (5, .int st.2)] [] (ug G o r)) (fun x => x = fin)) q) : Wk p l e { frames := 4, cells := 0, slots := 0, locals := 89 } s m args below meth c Γ A (ug G o fin.1) (some (.int fin.2)) 41 6 [(0, .ref (ad Γ o)), (3, .int v3), (4, .int v4), (5, .int v5)] [] (ug G o r) := by
  intro H locs ls hw hS hl
  unfold bX10_depth_41 at hf
  obtain ⟨hx, hb, hml, hr, hown, htw, hlocks, hE⟩ := id C
  have hown : s.vm.findClass RX10 = some m.cls := hown
  refine lv_iload hx hb dX10_depth_41 (lv_at hl 3 rfl) ?_
  refine lv_bipush (v := 10) hx hb dX10_depth_43 (by decide) ?_
  refine lv_icmp_gt (tgt := 75) hx hb dX10_depth_45 (by decide) (fun c4 => ?_) (fun c4 => ?_)
  · have hf := ifp c4 hf
    refine lv_iconst (v := (-1)) hx hb dX10_depth_75 (by decide) ?_
    obtain rfl := Option.some.inj hf
    have hq := hq.2 _ rfl
    subst hq
    exact rt_i C hw hS dX10_depth_76
  · have hf := ifn c4 hf
    refine lv_iload hx hb dX10_depth_48 (lv_at hl 2 rfl) ?_
    refine lv_iload_n hx hb dX10_depth_50 rfl (lv_at hl 1 rfl) ?_
    obtain ⟨z1, hz1, hf⟩ := bd hf
    refine cl_Ss (rest := []) (kX10_has (l := l) (Γ := Γ) (A := A) (G := (ug G o r)) hz1) ⟨hx, hb, hml, hown, htw⟩ hE hw hS mw1561 mw1562 mw129 mw1563 pdX10_has ⟨Nat.le_of_ble_eq_true rfl, Nat.le_of_ble_eq_true rfl⟩ rfl rfl hl.1 (Nat.le_of_ble_eq_true rfl) dX10_depth_51 (fun H locs hw hS => ?_)
    refine lv_if_eq (tgt := 60) hx hb dX10_depth_54 (by decide) (fun c3 => ?_) (fun c3 => ?_)
    · have hf := ifp c3 hf
      refine lv_aload_n hx hb dX10_depth_60 rfl (lv_at hl 0 rfl) ?_
      refine lv_iload hx hb dX10_depth_61 (lv_at hl 2 rfl) ?_
      refine lv_iconst (v := (-1)) hx hb dX10_depth_63 (by decide) ?_
      obtain ⟨z2, hz2, hf⟩ := bd hf
      refine cl_Vs (rest := []) (kX10_round (l := l) (Γ := Γ) (A := A) (G := G) (o := o) hk hz2) ⟨hx, hb, hml, hown, htw⟩ hE hw hS (wo_me hw hk) (q0 := 0) rfl rfl mw1700 mw1702 mw97 mw129 mw1703 pdX10_round ⟨Nat.le_of_ble_eq_true rfl, Nat.le_of_ble_eq_true rfl⟩ rfl rfl hl.1 (Nat.le_of_ble_eq_true rfl) dX10_depth_64 (fun H locs hw hS => ?_)
      refine lv_istore (lv' := [(4, .int z2), (0, .ref (ad Γ o)), (3, .int v3), (5, .int v5)]) hx hb dX10_depth_67 hl (by decide) rfl (fun ls hl => ?_)
      refine lv_iinc (v := v5 + 1) (lv' := [(5, .int (v5 + 1)), (4, .int z2), (0, .ref (ad Γ o)), (3, .int v3)]) hx hb dX10_depth_69 hl (k := 3) rfl (by rfl) (by decide) rfl (fun ls hl => ?_)
      refine lv_goto (tgt := 41) hx hb dX10_depth_72 (by decide) ?_
      obtain rfl := Option.some.inj hf
      exact hq.1 _ rfl H locs ls hw hS (lv_sub hl [2, 3, 1, 0] rfl)
    · have hf := ifn c3 hf
      refine lv_iload hx hb dX10_depth_57 (lv_at hl 3 rfl) ?_
      obtain rfl := Option.some.inj hf
      have hq := hq.2 _ rfl
      subst hq
      exact rt_i C hw hS dX10_depth_59

set_option maxRecDepth 100000 in
set_option maxHeartbeats 4000000 in
theorem lwX10_depth_41 {p : Program} {l : Launch} {e : Env} {s : State} {m : MethodId} {args : Array Value} {below : List Frame} {meth : Method} {c : Code} {Γ : Gm} {A : Nat → Prop} {G : Gs} {o : Nat} {r : Rec} {v3 : Int32} {v4 : Int32} {v5 : Int32} {q : (Rec × Int32)} {fin : Rec × Int32} (C : Cx p s m args meth c yX10_depth cX10_depth 6 (some .int) Γ A) (hk : kd Γ o = some 10) (hf : iter (fun st : Int32 × Int32 => bX10_depth_41 r v3 st.1 st.2) (v4, v5) = some q) (hq : (fun x => x = fin) q) : Wk p l e { frames := 4, cells := 0, slots := 0, locals := 89 } s m args below meth c Γ A (ug G o fin.1) (some (.int fin.2)) 41 6 [(0, .ref (ad Γ o)), (3, .int v3), (4, .int v4), (5, .int v5)] [] (ug G o r) := by
  intro H locs ls hw hS hl
  refine iter_walk (P := (fun st : Int32 × Int32 => Wk p l e { frames := 4, cells := 0, slots := 0, locals := 89 } s m args below meth c Γ A (ug G o fin.1) (some (.int fin.2)) 41 6 [(0, .ref (ad Γ o)), (3, .int v3), (4, .int st.1), (5, .int st.2)] [] (ug G o r))) (K := (fun x => x = fin)) (fun st q hq1 h1 h2 => ?_) hf hq H locs ls hw hS hl
  exact wX10_depth_41 (v4 := st.1) (v5 := st.2) C hk hq1 ⟨h1, h2⟩

noncomputable def fX10_depth (r : Rec) (v1 : Int32) (v2 : Int32) (v3 : Int32) : Option (Rec × Int32) :=
  (some (si r 0 0)).bind fun r5 => (fX10_hand r5 v1).bind fun z6 => if z6.2 = 0 then some ((z6.1, (-1))) else (fX10_everything z6.1).bind fun z7 => (fX10_in v2 0 z7).bind fun z8 => if z8 = 0 then some ((z6.1, (-1))) else (fX10_isSecret z6.1 v3).bind fun z9 => if z9 = 0 then some ((z6.1, (-1))) else iter (fun st : Int32 × Int32 => bX10_depth_41 z6.1 v3 st.1 st.2) (v2, 0)
set_option maxRecDepth 100000 in
set_option maxHeartbeats 4000000 in
theorem wX10_depth_e {p : Program} {l : Launch} {e : Env} {s : State} {m : MethodId} {args : Array Value} {below : List Frame} {meth : Method} {c : Code} {Γ : Gm} {A : Nat → Prop} {G : Gs} {o : Nat} {r : Rec} {v1 : Int32} {v2 : Int32} {v3 : Int32} {q : (Rec × Int32)} {fin : Rec × Int32} (C : Cx p s m args meth c yX10_depth cX10_depth 6 (some .int) Γ A) (hk : kd Γ o = some 10) (hf : fX10_depth r v1 v2 v3 = some q) (hq : (fun x => x = fin) q) : Wk p l e { frames := 4, cells := 0, slots := 0, locals := 89 } s m args below meth c Γ A (ug G o fin.1) (some (.int fin.2)) 0 6 [(0, .ref (ad Γ o)), (1, .int v1), (2, .int v2), (3, .int v3)] [] (ug G o r) := by
  intro H locs ls hw hS hl
  unfold fX10_depth at hf
  obtain ⟨hx, hb, hml, hr, hown, htw, hlocks, hE⟩ := id C
  have hown : s.vm.findClass RX10 = some m.cls := hown
  refine lv_aload_n hx hb dX10_depth_0 rfl (lv_at hl 0 rfl) ?_
  refine lv_iconst (v := 0) hx hb dX10_depth_1 (by decide) ?_
  obtain ⟨r5, hr5, hf⟩ := bd hf
  have hr5 := Option.some.inj hr5
  refine wo_put (C := RX10) (T := TX10) (N := 49) (v := .int 0) (ty := .int) hx hb htw uwX10 tyX10 tyX10_ok nmX10 hown hE hw hS hk rfl rfl 0 (by decide) (htw _ mw1243) (fun _ h9 => h9) rfl (tyX10_ok 0 (by decide)) rfl rfl (Nat.le_of_ble_eq_true rfl) (st10_0 hr5) dX10_depth_2 (fun H locs hw hS => ?_)
  refine lv_aload_n hx hb dX10_depth_5 rfl (lv_at hl 0 rfl) ?_
  refine lv_iload_n hx hb dX10_depth_6 rfl (lv_at hl 1 rfl) ?_
  obtain ⟨z6, hz6, hf⟩ := bd hf
  refine cl_Vs (rest := []) (kX10_hand (l := l) (Γ := Γ) (A := A) (G := G) (o := o) hk hz6) ⟨hx, hb, hml, hown, htw⟩ hE hw hS (wo_me hw hk) (q0 := 0) rfl rfl mw1537 mw1539 mw65 mw129 mw1540 pdX10_hand ⟨Nat.le_of_ble_eq_true rfl, Nat.le_of_ble_eq_true rfl⟩ rfl rfl hl.1 (Nat.le_of_ble_eq_true rfl) dX10_depth_7 (fun H locs hw hS => ?_)
  refine lv_if_eq (tgt := 33) hx hb dX10_depth_10 (by decide) (fun c12 => ?_) (fun c12 => ?_)
  · have hf := ifp c12 hf
    refine lv_iconst (v := (-1)) hx hb dX10_depth_33 (by decide) ?_
    obtain rfl := Option.some.inj hf
    subst hq
    exact rt_i C hw hS dX10_depth_34
  · have hf := ifn c12 hf
    refine lv_iload_n hx hb dX10_depth_13 rfl (lv_at hl 2 rfl) ?_
    refine lv_iconst (v := 0) hx hb dX10_depth_14 (by decide) ?_
    refine lv_aload_n hx hb dX10_depth_15 rfl (lv_at hl 0 rfl) ?_
    obtain ⟨z7, hz7, hf⟩ := bd hf
    refine cl_Vs (rest := [.int 0, .int v2]) (kX10_everything (l := l) (Γ := Γ) (A := A) (G := G) (o := o) hk hz7) ⟨hx, hb, hml, hown, htw⟩ hE hw hS (wo_me hw hk) (q0 := 0) rfl rfl mw1692 mw1694 mw95 mw129 mw1695 pdX10_everything ⟨Nat.le_of_ble_eq_true rfl, Nat.le_of_ble_eq_true rfl⟩ rfl rfl hl.1 (Nat.le_of_ble_eq_true rfl) dX10_depth_16 (fun H locs hw hS => ?_)
    obtain ⟨z8, hz8, hf⟩ := bd hf
    refine cl_Ss (rest := []) (kX10_in (l := l) (Γ := Γ) (A := A) (G := (ug G o z6.1)) hz8) ⟨hx, hb, hml, hown, htw⟩ hE hw hS mw1404 mw1405 mw129 mw1406 pdX10_in ⟨Nat.le_of_ble_eq_true rfl, Nat.le_of_ble_eq_true rfl⟩ rfl rfl hl.1 (Nat.le_of_ble_eq_true rfl) dX10_depth_19 (fun H locs hw hS => ?_)
    refine lv_if_eq (tgt := 33) hx hb dX10_depth_22 (by decide) (fun c11 => ?_) (fun c11 => ?_)
    · have hf := ifp c11 hf
      refine lv_iconst (v := (-1)) hx hb dX10_depth_33 (by decide) ?_
      obtain rfl := Option.some.inj hf
      subst hq
      exact rt_i C hw hS dX10_depth_34
    · have hf := ifn c11 hf
      refine lv_aload_n hx hb dX10_depth_25 rfl (lv_at hl 0 rfl) ?_
      refine lv_iload_n hx hb dX10_depth_26 rfl (lv_at hl 3 rfl) ?_
      obtain ⟨z9, hz9, hf⟩ := bd hf
      refine cl_Vs (rest := []) (kX10_isSecret (l := l) (Γ := Γ) (A := A) (G := G) (o := o) hk hz9) ⟨hx, hb, hml, hown, htw⟩ hE hw hS (wo_me hw hk) (q0 := 0) rfl rfl mw1549 mw1551 mw67 mw129 mw1552 pdX10_isSecret ⟨Nat.le_of_ble_eq_true rfl, Nat.le_of_ble_eq_true rfl⟩ rfl rfl hl.1 (Nat.le_of_ble_eq_true rfl) dX10_depth_27 (fun H locs hw hS => ?_)
      refine lv_if_ne (tgt := 35) hx hb dX10_depth_30 (by decide) (fun c10 => ?_) (fun c10 => ?_)
      · have hf := ifn c10 hf
        refine lv_iload_n hx hb dX10_depth_35 rfl (lv_at hl 2 rfl) ?_
        refine lv_istore (lv' := [(4, .int v2), (0, .ref (ad Γ o)), (1, .int v1), (2, .int v2), (3, .int v3)]) hx hb dX10_depth_36 hl (by decide) rfl (fun ls hl => ?_)
        refine lv_iconst (v := 0) hx hb dX10_depth_38 (by decide) ?_
        refine lv_istore (lv' := [(5, .int 0), (4, .int v2), (0, .ref (ad Γ o)), (1, .int v1), (2, .int v2), (3, .int v3)]) hx hb dX10_depth_39 hl (by decide) rfl (fun ls hl => ?_)
        exact lwX10_depth_41 C hk hf hq H locs ls hw hS (lv_sub hl [2, 5, 1, 0] rfl)
      · have hf := ifp c10 hf
        refine lv_iconst (v := (-1)) hx hb dX10_depth_33 (by decide) ?_
        obtain rfl := Option.some.inj hf
        subst hq
        exact rt_i C hw hS dX10_depth_34

theorem kX10_depth {l : Launch} {Γ : Gm} {A : Nat → Prop} {G : Gs} {o : Nat} {r : Rec} {v1 : Int32} {v2 : Int32} {v3 : Int32} {fin : Rec × Int32} (hk : kd Γ o = some 10) (hf : fX10_depth r v1 v2 v3 = some fin) : Kt l yX10_depth cX10_depth 6 (some .int) 4 89 Γ A (ug G o r) (ug G o fin.1) [.ref (ad Γ o), .int v1, .int v2, .int v3] (some (.int fin.2)) :=
  kt_of (by decide) (Nat.le_of_ble_eq_true rfl) (fun p e s m args below meth c C => wX10_depth_e C hk hf rfl)
theorem kgX10_depth {l : Launch} {Γ : Gm} {A : Nat → Prop} {G : Gs} {o : Nat} {v1 : Int32} {v2 : Int32} {v3 : Int32} {fin : Rec × Int32} (hk : kd Γ o = some 10) (hf : fX10_depth (G o) v1 v2 v3 = some fin) : Kt l yX10_depth cX10_depth 6 (some .int) 4 89 Γ A G (ug G o fin.1) [.ref (ad Γ o), .int v1, .int v2, .int v3] (some (.int fin.2)) := by
  have h := kX10_depth (l := l) (A := A) (G := G) (r := G o) hk hf
  rw [ug_self] at h
  exact h
noncomputable def bX10_spare_74 (r : Rec) (v3 : Int32) (s0 : Int32) (s1 : Int32) : Option ((Int32 × Int32) ⊕ (Rec × Int32)) :=
  some (.inl (s1 ||| s0, v3 + 1))
set_option maxRecDepth 100000 in
set_option maxHeartbeats 4000000 in
theorem wX10_spare_74 {p : Program} {l : Launch} {e : Env} {s : State} {m : MethodId} {args : Array Value} {below : List Frame} {meth : Method} {c : Code} {Γ : Gm} {A : Nat → Prop} {G : Gs} {o : Nat} {r : Rec} {v3 : Int32} {s0 : Int32} {s1 : Int32} {q : ((Int32 × Int32) ⊕ (Rec × Int32))} {fin : Rec × Int32} (C : Cx p s m args meth c yX10_spare cX10_spare 5 (some .int) Γ A) (hk : kd Γ o = some 10) (hf : bX10_spare_74 r v3 s0 s1 = some q) (hq : (KC (fun st : Int32 × Int32 => Wk p l e { frames := 5, cells := 0, slots := 0, locals := 113 } s m args below meth c Γ A (ug G o fin.1) (some (.int fin.2)) 19 5 [(0, .ref (ad Γ o)), (2, .int st.1), (3, .int st.2)] [] (ug G o r)) (fun x => x = fin)) q) : Wk p l e { frames := 5, cells := 0, slots := 0, locals := 113 } s m args below meth c Γ A (ug G o fin.1) (some (.int fin.2)) 74 5 [(0, .ref (ad Γ o)), (3, .int v3)] [.int s0, .int s1] (ug G o r) := by
  intro H locs ls hw hS hl
  unfold bX10_spare_74 at hf
  obtain ⟨hx, hb, hml, hr, hown, htw, hlocks, hE⟩ := id C
  have hown : s.vm.findClass RX10 = some m.cls := hown
  refine lv_ior hx hb dX10_spare_74 ?_
  refine lv_istore_n (lv' := [(2, .int (s1 ||| s0)), (0, .ref (ad Γ o)), (3, .int v3)]) hx hb dX10_spare_75 rfl hl (by decide) rfl (fun ls hl => ?_)
  refine lv_iinc (v := v3 + 1) (lv' := [(3, .int (v3 + 1)), (2, .int (s1 ||| s0)), (0, .ref (ad Γ o))]) hx hb dX10_spare_76 hl (k := 2) rfl (by rfl) (by decide) rfl (fun ls hl => ?_)
  refine lv_goto (tgt := 19) hx hb dX10_spare_79 (by decide) ?_
  obtain rfl := Option.some.inj hf
  exact hq.1 _ rfl H locs ls hw hS (lv_sub hl [2, 1, 0] rfl)

noncomputable def bX10_spare_19 (r : Rec) (v2 : Int32) (v3 : Int32) : Option ((Int32 × Int32) ⊕ (Rec × Int32)) :=
  (fX10_of r 2).bind fun z1 => if z1 ≤ v3 then some (.inr ((r, v2))) else (fX10_linkOf r v3 0).bind fun z2 => (fX10_linkOf r v3 1).bind fun z3 => (some (((1 : Int32) <<< (z2 &&& 31)) ||| ((1 : Int32) <<< (z3 &&& 31)))).bind fun x4 => (fX10_comesOf r x4 v3).bind fun z5 => (fX10_linkOf r v3 2).bind fun z6 => (fX10_has z5 z6).bind fun z7 => if z7 = 0 then bX10_spare_74 r v3 0 v2 else bX10_spare_74 r v3 ((1 : Int32) <<< (v3 &&& 31)) v2
set_option maxRecDepth 100000 in
set_option maxHeartbeats 4000000 in
theorem wX10_spare_19 {p : Program} {l : Launch} {e : Env} {s : State} {m : MethodId} {args : Array Value} {below : List Frame} {meth : Method} {c : Code} {Γ : Gm} {A : Nat → Prop} {G : Gs} {o : Nat} {r : Rec} {v2 : Int32} {v3 : Int32} {q : ((Int32 × Int32) ⊕ (Rec × Int32))} {fin : Rec × Int32} (C : Cx p s m args meth c yX10_spare cX10_spare 5 (some .int) Γ A) (hk : kd Γ o = some 10) (hf : bX10_spare_19 r v2 v3 = some q) (hq : (KC (fun st : Int32 × Int32 => Wk p l e { frames := 5, cells := 0, slots := 0, locals := 113 } s m args below meth c Γ A (ug G o fin.1) (some (.int fin.2)) 19 5 [(0, .ref (ad Γ o)), (2, .int st.1), (3, .int st.2)] [] (ug G o r)) (fun x => x = fin)) q) : Wk p l e { frames := 5, cells := 0, slots := 0, locals := 113 } s m args below meth c Γ A (ug G o fin.1) (some (.int fin.2)) 19 5 [(0, .ref (ad Γ o)), (2, .int v2), (3, .int v3)] [] (ug G o r) := by
  intro H locs ls hw hS hl
  unfold bX10_spare_19 at hf
  obtain ⟨hx, hb, hml, hr, hown, htw, hlocks, hE⟩ := id C
  have hown : s.vm.findClass RX10 = some m.cls := hown
  refine lv_iload_n hx hb dX10_spare_19 rfl (lv_at hl 2 rfl) ?_
  refine lv_aload_n hx hb dX10_spare_20 rfl (lv_at hl 0 rfl) ?_
  refine lv_iconst (v := 2) hx hb dX10_spare_21 (by decide) ?_
  obtain ⟨z1, hz1, hf⟩ := bd hf
  refine cl_Vs (rest := [.int v3]) (kX10_of (l := l) (Γ := Γ) (A := A) (G := G) (o := o) hk hz1) ⟨hx, hb, hml, hown, htw⟩ hE hw hS (wo_me hw hk) (q0 := 0) rfl rfl mw1541 mw1543 mw66 mw129 mw1544 pdX10_of ⟨Nat.le_of_ble_eq_true rfl, Nat.le_of_ble_eq_true rfl⟩ rfl rfl hl.1 (Nat.le_of_ble_eq_true rfl) dX10_spare_22 (fun H locs hw hS => ?_)
  refine lv_icmp_ge (tgt := 82) hx hb dX10_spare_25 (by decide) (fun c9 => ?_) (fun c9 => ?_)
  · have hf := ifp c9 hf
    refine lv_iload_n hx hb dX10_spare_82 rfl (lv_at hl 1 rfl) ?_
    obtain rfl := Option.some.inj hf
    have hq := hq.2 _ rfl
    subst hq
    exact rt_i C hw hS dX10_spare_83
  · have hf := ifn c9 hf
    refine lv_iconst (v := 1) hx hb dX10_spare_28 (by decide) ?_
    refine lv_aload_n hx hb dX10_spare_29 rfl (lv_at hl 0 rfl) ?_
    refine lv_iload_n hx hb dX10_spare_30 rfl (lv_at hl 2 rfl) ?_
    refine lv_iconst (v := 0) hx hb dX10_spare_31 (by decide) ?_
    obtain ⟨z2, hz2, hf⟩ := bd hf
    refine cl_Vs (rest := [.int 1]) (kX10_linkOf (l := l) (Γ := Γ) (A := A) (G := G) (o := o) hk hz2) ⟨hx, hb, hml, hown, htw⟩ hE hw hS (wo_me hw hk) (q0 := 0) rfl rfl mw1708 mw1710 mw99 mw129 mw1711 pdX10_linkOf ⟨Nat.le_of_ble_eq_true rfl, Nat.le_of_ble_eq_true rfl⟩ rfl rfl hl.1 (Nat.le_of_ble_eq_true rfl) dX10_spare_32 (fun H locs hw hS => ?_)
    refine lv_ishl hx hb dX10_spare_35 ?_
    refine lv_iconst (v := 1) hx hb dX10_spare_36 (by decide) ?_
    refine lv_aload_n hx hb dX10_spare_37 rfl (lv_at hl 0 rfl) ?_
    refine lv_iload_n hx hb dX10_spare_38 rfl (lv_at hl 2 rfl) ?_
    refine lv_iconst (v := 1) hx hb dX10_spare_39 (by decide) ?_
    obtain ⟨z3, hz3, hf⟩ := bd hf
    refine cl_Vs (rest := [.int 1, .int ((1 : Int32) <<< (z2 &&& 31))]) (kX10_linkOf (l := l) (Γ := Γ) (A := A) (G := G) (o := o) hk hz3) ⟨hx, hb, hml, hown, htw⟩ hE hw hS (wo_me hw hk) (q0 := 0) rfl rfl mw1708 mw1710 mw99 mw129 mw1711 pdX10_linkOf ⟨Nat.le_of_ble_eq_true rfl, Nat.le_of_ble_eq_true rfl⟩ rfl rfl hl.1 (Nat.le_of_ble_eq_true rfl) dX10_spare_40 (fun H locs hw hS => ?_)
    refine lv_ishl hx hb dX10_spare_43 ?_
    refine lv_ior hx hb dX10_spare_44 ?_
    obtain ⟨x4, hx4, hf⟩ := bd hf
    have hx4 := Option.some.inj hx4
    refine tp1i hx4 ?_
    refine lv_istore (lv' := [(4, .int x4), (0, .ref (ad Γ o)), (2, .int v2), (3, .int v3)]) hx hb dX10_spare_45 hl (by decide) rfl (fun ls hl => ?_)
    refine lv_iload_n hx hb dX10_spare_47 rfl (lv_at hl 2 rfl) ?_
    refine lv_aload_n hx hb dX10_spare_48 rfl (lv_at hl 1 rfl) ?_
    refine lv_iload hx hb dX10_spare_49 (lv_at hl 0 rfl) ?_
    refine lv_iload_n hx hb dX10_spare_51 rfl (lv_at hl 3 rfl) ?_
    obtain ⟨z5, hz5, hf⟩ := bd hf
    refine cl_Vs (rest := [.int v2]) (kX10_comesOf (l := l) (Γ := Γ) (A := A) (G := G) (o := o) hk hz5) ⟨hx, hb, hml, hown, htw⟩ hE hw hS (wo_me hw hk) (q0 := 0) rfl rfl mw1696 mw1698 mw96 mw129 mw1699 pdX10_comesOf ⟨Nat.le_of_ble_eq_true rfl, Nat.le_of_ble_eq_true rfl⟩ rfl rfl hl.1 (Nat.le_of_ble_eq_true rfl) dX10_spare_52 (fun H locs hw hS => ?_)
    refine lv_aload_n hx hb dX10_spare_55 rfl (lv_at hl 1 rfl) ?_
    refine lv_iload_n hx hb dX10_spare_56 rfl (lv_at hl 3 rfl) ?_
    refine lv_iconst (v := 2) hx hb dX10_spare_57 (by decide) ?_
    obtain ⟨z6, hz6, hf⟩ := bd hf
    refine cl_Vs (rest := [.int z5, .int v2]) (kX10_linkOf (l := l) (Γ := Γ) (A := A) (G := G) (o := o) hk hz6) ⟨hx, hb, hml, hown, htw⟩ hE hw hS (wo_me hw hk) (q0 := 0) rfl rfl mw1708 mw1710 mw99 mw129 mw1711 pdX10_linkOf ⟨Nat.le_of_ble_eq_true rfl, Nat.le_of_ble_eq_true rfl⟩ rfl rfl hl.1 (Nat.le_of_ble_eq_true rfl) dX10_spare_58 (fun H locs hw hS => ?_)
    obtain ⟨z7, hz7, hf⟩ := bd hf
    refine cl_Ss (rest := [.int v2]) (kX10_has (l := l) (Γ := Γ) (A := A) (G := (ug G o r)) hz7) ⟨hx, hb, hml, hown, htw⟩ hE hw hS mw1561 mw1562 mw129 mw1563 pdX10_has ⟨Nat.le_of_ble_eq_true rfl, Nat.le_of_ble_eq_true rfl⟩ rfl rfl hl.1 (Nat.le_of_ble_eq_true rfl) dX10_spare_61 (fun H locs hw hS => ?_)
    refine lv_if_eq (tgt := 73) hx hb dX10_spare_64 (by decide) (fun c8 => ?_) (fun c8 => ?_)
    · have hf := ifp c8 hf
      refine lv_iconst (v := 0) hx hb dX10_spare_73 (by decide) ?_
      exact wX10_spare_74 C hk hf hq H locs ls hw hS (lv_sub hl [1, 3] rfl)
    · have hf := ifn c8 hf
      refine lv_iconst (v := 1) hx hb dX10_spare_67 (by decide) ?_
      refine lv_iload_n hx hb dX10_spare_68 rfl (lv_at hl 3 rfl) ?_
      refine lv_ishl hx hb dX10_spare_69 ?_
      refine lv_goto (tgt := 74) hx hb dX10_spare_70 (by decide) ?_
      exact wX10_spare_74 C hk hf hq H locs ls hw hS (lv_sub hl [1, 3] rfl)

set_option maxRecDepth 100000 in
set_option maxHeartbeats 4000000 in
theorem lwX10_spare_19 {p : Program} {l : Launch} {e : Env} {s : State} {m : MethodId} {args : Array Value} {below : List Frame} {meth : Method} {c : Code} {Γ : Gm} {A : Nat → Prop} {G : Gs} {o : Nat} {r : Rec} {v2 : Int32} {v3 : Int32} {q : (Rec × Int32)} {fin : Rec × Int32} (C : Cx p s m args meth c yX10_spare cX10_spare 5 (some .int) Γ A) (hk : kd Γ o = some 10) (hf : iter (fun st : Int32 × Int32 => bX10_spare_19 r st.1 st.2) (v2, v3) = some q) (hq : (fun x => x = fin) q) : Wk p l e { frames := 5, cells := 0, slots := 0, locals := 113 } s m args below meth c Γ A (ug G o fin.1) (some (.int fin.2)) 19 5 [(0, .ref (ad Γ o)), (2, .int v2), (3, .int v3)] [] (ug G o r) := by
  intro H locs ls hw hS hl
  refine iter_walk (P := (fun st : Int32 × Int32 => Wk p l e { frames := 5, cells := 0, slots := 0, locals := 113 } s m args below meth c Γ A (ug G o fin.1) (some (.int fin.2)) 19 5 [(0, .ref (ad Γ o)), (2, .int st.1), (3, .int st.2)] [] (ug G o r))) (K := (fun x => x = fin)) (fun st q hq1 h1 h2 => ?_) hf hq H locs ls hw hS hl
  exact wX10_spare_19 (v2 := st.1) (v3 := st.2) C hk hq1 ⟨h1, h2⟩

noncomputable def fX10_spare (r : Rec) (v1 : Int32) : Option (Rec × Int32) :=
  (some (si r 0 0)).bind fun r10 => (fX10_hand r10 v1).bind fun z11 => if z11.2 = 0 then some ((z11.1, (-1))) else iter (fun st : Int32 × Int32 => bX10_spare_19 z11.1 st.1 st.2) (0, 0)
set_option maxRecDepth 100000 in
set_option maxHeartbeats 4000000 in
theorem wX10_spare_e {p : Program} {l : Launch} {e : Env} {s : State} {m : MethodId} {args : Array Value} {below : List Frame} {meth : Method} {c : Code} {Γ : Gm} {A : Nat → Prop} {G : Gs} {o : Nat} {r : Rec} {v1 : Int32} {q : (Rec × Int32)} {fin : Rec × Int32} (C : Cx p s m args meth c yX10_spare cX10_spare 5 (some .int) Γ A) (hk : kd Γ o = some 10) (hf : fX10_spare r v1 = some q) (hq : (fun x => x = fin) q) : Wk p l e { frames := 5, cells := 0, slots := 0, locals := 113 } s m args below meth c Γ A (ug G o fin.1) (some (.int fin.2)) 0 5 [(0, .ref (ad Γ o)), (1, .int v1)] [] (ug G o r) := by
  intro H locs ls hw hS hl
  unfold fX10_spare at hf
  obtain ⟨hx, hb, hml, hr, hown, htw, hlocks, hE⟩ := id C
  have hown : s.vm.findClass RX10 = some m.cls := hown
  refine lv_aload_n hx hb dX10_spare_0 rfl (lv_at hl 0 rfl) ?_
  refine lv_iconst (v := 0) hx hb dX10_spare_1 (by decide) ?_
  obtain ⟨r10, hr10, hf⟩ := bd hf
  have hr10 := Option.some.inj hr10
  refine wo_put (C := RX10) (T := TX10) (N := 49) (v := .int 0) (ty := .int) hx hb htw uwX10 tyX10 tyX10_ok nmX10 hown hE hw hS hk rfl rfl 0 (by decide) (htw _ mw1243) (fun _ h9 => h9) rfl (tyX10_ok 0 (by decide)) rfl rfl (Nat.le_of_ble_eq_true rfl) (st10_0 hr10) dX10_spare_2 (fun H locs hw hS => ?_)
  refine lv_aload_n hx hb dX10_spare_5 rfl (lv_at hl 0 rfl) ?_
  refine lv_iload_n hx hb dX10_spare_6 rfl (lv_at hl 1 rfl) ?_
  obtain ⟨z11, hz11, hf⟩ := bd hf
  refine cl_Vs (rest := []) (kX10_hand (l := l) (Γ := Γ) (A := A) (G := G) (o := o) hk hz11) ⟨hx, hb, hml, hown, htw⟩ hE hw hS (wo_me hw hk) (q0 := 0) rfl rfl mw1537 mw1539 mw65 mw129 mw1540 pdX10_hand ⟨Nat.le_of_ble_eq_true rfl, Nat.le_of_ble_eq_true rfl⟩ rfl rfl hl.1 (Nat.le_of_ble_eq_true rfl) dX10_spare_7 (fun H locs hw hS => ?_)
  refine lv_if_ne (tgt := 15) hx hb dX10_spare_10 (by decide) (fun c12 => ?_) (fun c12 => ?_)
  · have hf := ifn c12 hf
    refine lv_iconst (v := 0) hx hb dX10_spare_15 (by decide) ?_
    refine lv_istore_n (lv' := [(2, .int 0), (0, .ref (ad Γ o)), (1, .int v1)]) hx hb dX10_spare_16 rfl hl (by decide) rfl (fun ls hl => ?_)
    refine lv_iconst (v := 0) hx hb dX10_spare_17 (by decide) ?_
    refine lv_istore_n (lv' := [(3, .int 0), (2, .int 0), (0, .ref (ad Γ o)), (1, .int v1)]) hx hb dX10_spare_18 rfl hl (by decide) rfl (fun ls hl => ?_)
    exact lwX10_spare_19 C hk hf hq H locs ls hw hS (lv_sub hl [2, 1, 0] rfl)
  · have hf := ifp c12 hf
    refine lv_iconst (v := (-1)) hx hb dX10_spare_13 (by decide) ?_
    obtain rfl := Option.some.inj hf
    subst hq
    exact rt_i C hw hS dX10_spare_14

theorem kX10_spare {l : Launch} {Γ : Gm} {A : Nat → Prop} {G : Gs} {o : Nat} {r : Rec} {v1 : Int32} {fin : Rec × Int32} (hk : kd Γ o = some 10) (hf : fX10_spare r v1 = some fin) : Kt l yX10_spare cX10_spare 5 (some .int) 5 113 Γ A (ug G o r) (ug G o fin.1) [.ref (ad Γ o), .int v1] (some (.int fin.2)) :=
  kt_of (by decide) (Nat.le_of_ble_eq_true rfl) (fun p e s m args below meth c C => wX10_spare_e C hk hf rfl)
theorem kgX10_spare {l : Launch} {Γ : Gm} {A : Nat → Prop} {G : Gs} {o : Nat} {v1 : Int32} {fin : Rec × Int32} (hk : kd Γ o = some 10) (hf : fX10_spare (G o) v1 = some fin) : Kt l yX10_spare cX10_spare 5 (some .int) 5 113 Γ A G (ug G o fin.1) [.ref (ad Γ o), .int v1] (some (.int fin.2)) := by
  have h := kX10_spare (l := l) (A := A) (G := G) (r := G o) hk hf
  rw [ug_self] at h
  exact h
noncomputable def bX10_guarded_172 (r : Rec) (v4 : Int32) (v5 : Int32) (v6 : Int32) : Option (Rec × Int32) :=
  if v4 = 0 then some ((r, v6)) else some ((r, v5))
set_option maxRecDepth 100000 in
set_option maxHeartbeats 4000000 in
theorem wX10_guarded_172 {p : Program} {l : Launch} {e : Env} {s : State} {m : MethodId} {args : Array Value} {below : List Frame} {meth : Method} {c : Code} {Γ : Gm} {A : Nat → Prop} {G : Gs} {o : Nat} {r : Rec} {v4 : Int32} {v5 : Int32} {v6 : Int32} {q : (Rec × Int32)} {fin : Rec × Int32} (C : Cx p s m args meth c yX10_guarded cX10_guarded 11 (some .int) Γ A) (hk : kd Γ o = some 10) (hf : bX10_guarded_172 r v4 v5 v6 = some q) (hq : (fun x => x = fin) q) : Wk p l e { frames := 6, cells := 0, slots := 0, locals := 136 } s m args below meth c Γ A (ug G o fin.1) (some (.int fin.2)) 172 11 [(4, .int v4), (5, .int v5), (6, .int v6)] [] (ug G o r) := by
  intro H locs ls hw hS hl
  unfold bX10_guarded_172 at hf
  obtain ⟨hx, hb, hml, hr, hown, htw, hlocks, hE⟩ := id C
  have hown : s.vm.findClass RX10 = some m.cls := hown
  refine lv_iload hx hb dX10_guarded_172 (lv_at hl 0 rfl) ?_
  refine lv_if_eq (tgt := 182) hx hb dX10_guarded_174 (by decide) (fun c1 => ?_) (fun c1 => ?_)
  · have hf := ifp c1 hf
    refine lv_iload hx hb dX10_guarded_182 (lv_at hl 2 rfl) ?_
    obtain rfl := Option.some.inj hf
    subst hq
    exact rt_i C hw hS dX10_guarded_184
  · have hf := ifn c1 hf
    refine lv_iload hx hb dX10_guarded_177 (lv_at hl 1 rfl) ?_
    refine lv_goto (tgt := 184) hx hb dX10_guarded_179 (by decide) ?_
    obtain rfl := Option.some.inj hf
    subst hq
    exact rt_i C hw hS dX10_guarded_184

noncomputable def bX10_guarded_155 (r : Rec) (v2 : Int32) (v3 : Int32) (v4 : Int32) (v6 : Int32) (v7 : Int32) (v8 : Int32) (v9 : Int32) (s0 : Int32) : Option ((Int32 × Int32 × Int32) ⊕ (Rec × Int32)) :=
  (fX10_lesser v6 v9).bind fun z2 => some (.inl (s0, z2, v8 + 1))
set_option maxRecDepth 100000 in
set_option maxHeartbeats 4000000 in
theorem wX10_guarded_155 {p : Program} {l : Launch} {e : Env} {s : State} {m : MethodId} {args : Array Value} {below : List Frame} {meth : Method} {c : Code} {Γ : Gm} {A : Nat → Prop} {G : Gs} {o : Nat} {r : Rec} {v2 : Int32} {v3 : Int32} {v4 : Int32} {v6 : Int32} {v7 : Int32} {v8 : Int32} {v9 : Int32} {s0 : Int32} {q : ((Int32 × Int32 × Int32) ⊕ (Rec × Int32))} {fin : Rec × Int32} (C : Cx p s m args meth c yX10_guarded cX10_guarded 11 (some .int) Γ A) (hk : kd Γ o = some 10) (hf : bX10_guarded_155 r v2 v3 v4 v6 v7 v8 v9 s0 = some q) (hq : (KC (fun st : Int32 × Int32 × Int32 => Wk p l e { frames := 6, cells := 0, slots := 0, locals := 136 } s m args below meth c Γ A (ug G o fin.1) (some (.int fin.2)) 60 11 [(0, .ref (ad Γ o)), (2, .int v2), (3, .int v3), (4, .int v4), (5, .int st.1), (6, .int st.2.1), (7, .int v7), (8, .int st.2.2)] [] (ug G o r)) (fun x => x = fin)) q) : Wk p l e { frames := 6, cells := 0, slots := 0, locals := 136 } s m args below meth c Γ A (ug G o fin.1) (some (.int fin.2)) 155 11 [(0, .ref (ad Γ o)), (2, .int v2), (3, .int v3), (4, .int v4), (6, .int v6), (7, .int v7), (8, .int v8), (9, .int v9)] [.int s0] (ug G o r) := by
  intro H locs ls hw hS hl
  unfold bX10_guarded_155 at hf
  obtain ⟨hx, hb, hml, hr, hown, htw, hlocks, hE⟩ := id C
  have hown : s.vm.findClass RX10 = some m.cls := hown
  refine lv_istore (lv' := [(5, .int s0), (0, .ref (ad Γ o)), (2, .int v2), (3, .int v3), (4, .int v4), (6, .int v6), (7, .int v7), (8, .int v8), (9, .int v9)]) hx hb dX10_guarded_155 hl (by decide) rfl (fun ls hl => ?_)
  refine lv_iload hx hb dX10_guarded_157 (lv_at hl 5 rfl) ?_
  refine lv_iload hx hb dX10_guarded_159 (lv_at hl 8 rfl) ?_
  obtain ⟨z2, hz2, hf⟩ := bd hf
  refine cl_Ss (rest := []) (kX10_lesser (l := l) (Γ := Γ) (A := A) (G := (ug G o r)) hz2) ⟨hx, hb, hml, hown, htw⟩ hE hw hS mw1681 mw1682 mw129 mw1683 pdX10_lesser ⟨Nat.le_of_ble_eq_true rfl, Nat.le_of_ble_eq_true rfl⟩ rfl rfl hl.1 (Nat.le_of_ble_eq_true rfl) dX10_guarded_161 (fun H locs hw hS => ?_)
  refine lv_istore (lv' := [(6, .int z2), (5, .int s0), (0, .ref (ad Γ o)), (2, .int v2), (3, .int v3), (4, .int v4), (7, .int v7), (8, .int v8), (9, .int v9)]) hx hb dX10_guarded_164 hl (by decide) rfl (fun ls hl => ?_)
  refine lv_iinc (v := v8 + 1) (lv' := [(8, .int (v8 + 1)), (6, .int z2), (5, .int s0), (0, .ref (ad Γ o)), (2, .int v2), (3, .int v3), (4, .int v4), (7, .int v7), (9, .int v9)]) hx hb dX10_guarded_166 hl (k := 7) rfl (by rfl) (by decide) rfl (fun ls hl => ?_)
  refine lv_goto (tgt := 60) hx hb dX10_guarded_169 (by decide) ?_
  obtain rfl := Option.some.inj hf
  exact hq.1 _ rfl H locs ls hw hS (lv_sub hl [3, 4, 5, 6, 2, 1, 7, 0] rfl)

noncomputable def bX10_guarded_141 (r : Rec) (v2 : Int32) (v3 : Int32) (v4 : Int32) (v5 : Int32) (v6 : Int32) (v7 : Int32) (v8 : Int32) (v9 : Int32) (s0 : Int32) : Option ((Int32 × Int32 × Int32) ⊕ (Rec × Int32)) :=
  if s0 = 0 then bX10_guarded_155 r v2 v3 v4 v6 v7 v8 v9 v5 else bX10_guarded_155 r v2 v3 v4 v6 v7 v8 v9 v8
set_option maxRecDepth 100000 in
set_option maxHeartbeats 4000000 in
theorem wX10_guarded_141 {p : Program} {l : Launch} {e : Env} {s : State} {m : MethodId} {args : Array Value} {below : List Frame} {meth : Method} {c : Code} {Γ : Gm} {A : Nat → Prop} {G : Gs} {o : Nat} {r : Rec} {v2 : Int32} {v3 : Int32} {v4 : Int32} {v5 : Int32} {v6 : Int32} {v7 : Int32} {v8 : Int32} {v9 : Int32} {s0 : Int32} {q : ((Int32 × Int32 × Int32) ⊕ (Rec × Int32))} {fin : Rec × Int32} (C : Cx p s m args meth c yX10_guarded cX10_guarded 11 (some .int) Γ A) (hk : kd Γ o = some 10) (hf : bX10_guarded_141 r v2 v3 v4 v5 v6 v7 v8 v9 s0 = some q) (hq : (KC (fun st : Int32 × Int32 × Int32 => Wk p l e { frames := 6, cells := 0, slots := 0, locals := 136 } s m args below meth c Γ A (ug G o fin.1) (some (.int fin.2)) 60 11 [(0, .ref (ad Γ o)), (2, .int v2), (3, .int v3), (4, .int v4), (5, .int st.1), (6, .int st.2.1), (7, .int v7), (8, .int st.2.2)] [] (ug G o r)) (fun x => x = fin)) q) : Wk p l e { frames := 6, cells := 0, slots := 0, locals := 136 } s m args below meth c Γ A (ug G o fin.1) (some (.int fin.2)) 141 11 [(0, .ref (ad Γ o)), (2, .int v2), (3, .int v3), (4, .int v4), (5, .int v5), (6, .int v6), (7, .int v7), (8, .int v8), (9, .int v9)] [.int s0] (ug G o r) := by
  intro H locs ls hw hS hl
  unfold bX10_guarded_141 at hf
  obtain ⟨hx, hb, hml, hr, hown, htw, hlocks, hE⟩ := id C
  have hown : s.vm.findClass RX10 = some m.cls := hown
  refine lv_istore (lv' := [(10, .int s0), (0, .ref (ad Γ o)), (2, .int v2), (3, .int v3), (4, .int v4), (5, .int v5), (6, .int v6), (7, .int v7), (8, .int v8), (9, .int v9)]) hx hb dX10_guarded_141 hl (by decide) rfl (fun ls hl => ?_)
  refine lv_iload hx hb dX10_guarded_143 (lv_at hl 0 rfl) ?_
  refine lv_if_eq (tgt := 153) hx hb dX10_guarded_145 (by decide) (fun c3 => ?_) (fun c3 => ?_)
  · have hf := ifp c3 hf
    refine lv_iload hx hb dX10_guarded_153 (lv_at hl 5 rfl) ?_
    exact wX10_guarded_155 C hk hf hq H locs ls hw hS (lv_sub hl [1, 2, 3, 4, 6, 7, 8, 9] rfl)
  · have hf := ifn c3 hf
    refine lv_iload hx hb dX10_guarded_148 (lv_at hl 8 rfl) ?_
    refine lv_goto (tgt := 155) hx hb dX10_guarded_150 (by decide) ?_
    exact wX10_guarded_155 C hk hf hq H locs ls hw hS (lv_sub hl [1, 2, 3, 4, 6, 7, 8, 9] rfl)

noncomputable def bX10_guarded_136 (r : Rec) (v2 : Int32) (v3 : Int32) (v4 : Int32) (v5 : Int32) (v6 : Int32) (v7 : Int32) (v8 : Int32) (v9 : Int32) : Option ((Int32 × Int32 × Int32) ⊕ (Rec × Int32)) :=
  bX10_guarded_141 r v2 v3 v4 v5 v6 v7 v8 v9 1
set_option maxRecDepth 100000 in
set_option maxHeartbeats 4000000 in
theorem wX10_guarded_136 {p : Program} {l : Launch} {e : Env} {s : State} {m : MethodId} {args : Array Value} {below : List Frame} {meth : Method} {c : Code} {Γ : Gm} {A : Nat → Prop} {G : Gs} {o : Nat} {r : Rec} {v2 : Int32} {v3 : Int32} {v4 : Int32} {v5 : Int32} {v6 : Int32} {v7 : Int32} {v8 : Int32} {v9 : Int32} {q : ((Int32 × Int32 × Int32) ⊕ (Rec × Int32))} {fin : Rec × Int32} (C : Cx p s m args meth c yX10_guarded cX10_guarded 11 (some .int) Γ A) (hk : kd Γ o = some 10) (hf : bX10_guarded_136 r v2 v3 v4 v5 v6 v7 v8 v9 = some q) (hq : (KC (fun st : Int32 × Int32 × Int32 => Wk p l e { frames := 6, cells := 0, slots := 0, locals := 136 } s m args below meth c Γ A (ug G o fin.1) (some (.int fin.2)) 60 11 [(0, .ref (ad Γ o)), (2, .int v2), (3, .int v3), (4, .int v4), (5, .int st.1), (6, .int st.2.1), (7, .int v7), (8, .int st.2.2)] [] (ug G o r)) (fun x => x = fin)) q) : Wk p l e { frames := 6, cells := 0, slots := 0, locals := 136 } s m args below meth c Γ A (ug G o fin.1) (some (.int fin.2)) 136 11 [(0, .ref (ad Γ o)), (2, .int v2), (3, .int v3), (4, .int v4), (5, .int v5), (6, .int v6), (7, .int v7), (8, .int v8), (9, .int v9)] [] (ug G o r) := by
  intro H locs ls hw hS hl
  unfold bX10_guarded_136 at hf
  obtain ⟨hx, hb, hml, hr, hown, htw, hlocks, hE⟩ := id C
  have hown : s.vm.findClass RX10 = some m.cls := hown
  refine lv_iconst (v := 1) hx hb dX10_guarded_136 (by decide) ?_
  refine lv_goto (tgt := 141) hx hb dX10_guarded_137 (by decide) ?_
  exact wX10_guarded_141 C hk hf hq H locs ls hw hS hl

noncomputable def bX10_guarded_140 (r : Rec) (v2 : Int32) (v3 : Int32) (v4 : Int32) (v5 : Int32) (v6 : Int32) (v7 : Int32) (v8 : Int32) (v9 : Int32) : Option ((Int32 × Int32 × Int32) ⊕ (Rec × Int32)) :=
  bX10_guarded_141 r v2 v3 v4 v5 v6 v7 v8 v9 0
set_option maxRecDepth 100000 in
set_option maxHeartbeats 4000000 in
theorem wX10_guarded_140 {p : Program} {l : Launch} {e : Env} {s : State} {m : MethodId} {args : Array Value} {below : List Frame} {meth : Method} {c : Code} {Γ : Gm} {A : Nat → Prop} {G : Gs} {o : Nat} {r : Rec} {v2 : Int32} {v3 : Int32} {v4 : Int32} {v5 : Int32} {v6 : Int32} {v7 : Int32} {v8 : Int32} {v9 : Int32} {q : ((Int32 × Int32 × Int32) ⊕ (Rec × Int32))} {fin : Rec × Int32} (C : Cx p s m args meth c yX10_guarded cX10_guarded 11 (some .int) Γ A) (hk : kd Γ o = some 10) (hf : bX10_guarded_140 r v2 v3 v4 v5 v6 v7 v8 v9 = some q) (hq : (KC (fun st : Int32 × Int32 × Int32 => Wk p l e { frames := 6, cells := 0, slots := 0, locals := 136 } s m args below meth c Γ A (ug G o fin.1) (some (.int fin.2)) 60 11 [(0, .ref (ad Γ o)), (2, .int v2), (3, .int v3), (4, .int v4), (5, .int st.1), (6, .int st.2.1), (7, .int v7), (8, .int st.2.2)] [] (ug G o r)) (fun x => x = fin)) q) : Wk p l e { frames := 6, cells := 0, slots := 0, locals := 136 } s m args below meth c Γ A (ug G o fin.1) (some (.int fin.2)) 140 11 [(0, .ref (ad Γ o)), (2, .int v2), (3, .int v3), (4, .int v4), (5, .int v5), (6, .int v6), (7, .int v7), (8, .int v8), (9, .int v9)] [] (ug G o r) := by
  intro H locs ls hw hS hl
  unfold bX10_guarded_140 at hf
  obtain ⟨hx, hb, hml, hr, hown, htw, hlocks, hE⟩ := id C
  have hown : s.vm.findClass RX10 = some m.cls := hown
  refine lv_iconst (v := 0) hx hb dX10_guarded_140 (by decide) ?_
  exact wX10_guarded_141 C hk hf hq H locs ls hw hS hl

noncomputable def bX10_guarded_99 (r : Rec) (v2 : Int32) (v3 : Int32) (v4 : Int32) (v5 : Int32) (v6 : Int32) (v7 : Int32) (v8 : Int32) (s0 : Int32) : Option ((Int32 × Int32 × Int32) ⊕ (Rec × Int32)) :=
  if s0 < v6 then bX10_guarded_136 r v2 v3 v4 v5 v6 v7 v8 s0 else if s0 = v6 then if 1000000 ≤ s0 then bX10_guarded_140 r v2 v3 v4 v5 v6 v7 v8 s0 else (fX10_ones v8).bind fun z4 => (fX10_ones v5).bind fun z5 => if z5 ≤ z4 then bX10_guarded_140 r v2 v3 v4 v5 v6 v7 v8 s0 else bX10_guarded_136 r v2 v3 v4 v5 v6 v7 v8 s0 else bX10_guarded_140 r v2 v3 v4 v5 v6 v7 v8 s0
set_option maxRecDepth 100000 in
set_option maxHeartbeats 4000000 in
theorem wX10_guarded_99 {p : Program} {l : Launch} {e : Env} {s : State} {m : MethodId} {args : Array Value} {below : List Frame} {meth : Method} {c : Code} {Γ : Gm} {A : Nat → Prop} {G : Gs} {o : Nat} {r : Rec} {v2 : Int32} {v3 : Int32} {v4 : Int32} {v5 : Int32} {v6 : Int32} {v7 : Int32} {v8 : Int32} {s0 : Int32} {q : ((Int32 × Int32 × Int32) ⊕ (Rec × Int32))} {fin : Rec × Int32} (C : Cx p s m args meth c yX10_guarded cX10_guarded 11 (some .int) Γ A) (hk : kd Γ o = some 10) (hf : bX10_guarded_99 r v2 v3 v4 v5 v6 v7 v8 s0 = some q) (hq : (KC (fun st : Int32 × Int32 × Int32 => Wk p l e { frames := 6, cells := 0, slots := 0, locals := 136 } s m args below meth c Γ A (ug G o fin.1) (some (.int fin.2)) 60 11 [(0, .ref (ad Γ o)), (2, .int v2), (3, .int v3), (4, .int v4), (5, .int st.1), (6, .int st.2.1), (7, .int v7), (8, .int st.2.2)] [] (ug G o r)) (fun x => x = fin)) q) : Wk p l e { frames := 6, cells := 0, slots := 0, locals := 136 } s m args below meth c Γ A (ug G o fin.1) (some (.int fin.2)) 99 11 [(0, .ref (ad Γ o)), (2, .int v2), (3, .int v3), (4, .int v4), (5, .int v5), (6, .int v6), (7, .int v7), (8, .int v8)] [.int s0] (ug G o r) := by
  intro H locs ls hw hS hl
  unfold bX10_guarded_99 at hf
  obtain ⟨hx, hb, hml, hr, hown, htw, hlocks, hE⟩ := id C
  have hown : s.vm.findClass RX10 = some m.cls := hown
  refine lv_istore (lv' := [(9, .int s0), (0, .ref (ad Γ o)), (2, .int v2), (3, .int v3), (4, .int v4), (5, .int v5), (6, .int v6), (7, .int v7), (8, .int v8)]) hx hb dX10_guarded_99 hl (by decide) rfl (fun ls hl => ?_)
  refine lv_iload hx hb dX10_guarded_101 (lv_at hl 0 rfl) ?_
  refine lv_iload hx hb dX10_guarded_103 (lv_at hl 6 rfl) ?_
  refine lv_icmp_lt (tgt := 136) hx hb dX10_guarded_105 (by decide) (fun c9 => ?_) (fun c9 => ?_)
  · have hf := ifp c9 hf
    exact wX10_guarded_136 C hk hf hq H locs ls hw hS (lv_sub hl [1, 2, 3, 4, 5, 6, 7, 8, 0] rfl)
  · have hf := ifn c9 hf
    refine lv_iload hx hb dX10_guarded_108 (lv_at hl 0 rfl) ?_
    refine lv_iload hx hb dX10_guarded_110 (lv_at hl 6 rfl) ?_
    refine lv_icmp_ne (tgt := 140) hx hb dX10_guarded_112 (by decide) (fun c8 => ?_) (fun c8 => ?_)
    · have hf := ifn c8 hf
      exact wX10_guarded_140 C hk hf hq H locs ls hw hS (lv_sub hl [1, 2, 3, 4, 5, 6, 7, 8, 0] rfl)
    · have hf := ifp c8 hf
      refine lv_iload hx hb dX10_guarded_115 (lv_at hl 0 rfl) ?_
      refine lv_ldcw hx hb hown (htw _ mw1676) dX10_guarded_117 ?_
      refine lv_icmp_ge (tgt := 140) hx hb dX10_guarded_120 (by decide) (fun c7 => ?_) (fun c7 => ?_)
      · have hf := ifp c7 hf
        exact wX10_guarded_140 C hk hf hq H locs ls hw hS (lv_sub hl [1, 2, 3, 4, 5, 6, 7, 8, 0] rfl)
      · have hf := ifn c7 hf
        refine lv_iload hx hb dX10_guarded_123 (lv_at hl 8 rfl) ?_
        obtain ⟨z4, hz4, hf⟩ := bd hf
        refine cl_Ss (rest := []) (kX10_ones (l := l) (Γ := Γ) (A := A) (G := (ug G o r)) hz4) ⟨hx, hb, hml, hown, htw⟩ hE hw hS mw1716 mw1717 mw129 mw1718 pdX10_ones ⟨Nat.le_of_ble_eq_true rfl, Nat.le_of_ble_eq_true rfl⟩ rfl rfl hl.1 (Nat.le_of_ble_eq_true rfl) dX10_guarded_125 (fun H locs hw hS => ?_)
        refine lv_iload hx hb dX10_guarded_128 (lv_at hl 5 rfl) ?_
        obtain ⟨z5, hz5, hf⟩ := bd hf
        refine cl_Ss (rest := [.int z4]) (kX10_ones (l := l) (Γ := Γ) (A := A) (G := (ug G o r)) hz5) ⟨hx, hb, hml, hown, htw⟩ hE hw hS mw1716 mw1717 mw129 mw1718 pdX10_ones ⟨Nat.le_of_ble_eq_true rfl, Nat.le_of_ble_eq_true rfl⟩ rfl rfl hl.1 (Nat.le_of_ble_eq_true rfl) dX10_guarded_130 (fun H locs hw hS => ?_)
        refine lv_icmp_ge (tgt := 140) hx hb dX10_guarded_133 (by decide) (fun c6 => ?_) (fun c6 => ?_)
        · have hf := ifp c6 hf
          exact wX10_guarded_140 C hk hf hq H locs ls hw hS (lv_sub hl [1, 2, 3, 4, 5, 6, 7, 8, 0] rfl)
        · have hf := ifn c6 hf
          exact wX10_guarded_136 C hk hf hq H locs ls hw hS (lv_sub hl [1, 2, 3, 4, 5, 6, 7, 8, 0] rfl)

noncomputable def bX10_guarded_60 (r : Rec) (v2 : Int32) (v3 : Int32) (v4 : Int32) (v5 : Int32) (v6 : Int32) (v7 : Int32) (v8 : Int32) : Option ((Int32 × Int32 × Int32) ⊕ (Rec × Int32)) :=
  if v7 < v8 then out1 (bX10_guarded_172 r v4 v5 v6) else (fX10_ones v8).bind fun z11 => if z11 ≤ v2 then (fX10_bestLoot r (v7 &&& (v8 ^^^ (-1))) v3).bind fun z12 => gd (inR z12 256) (bX10_guarded_99 r v2 v3 v4 v5 v6 v7 v8 (ga r 38 (Int32.toNatClampNeg z12))) else bX10_guarded_99 r v2 v3 v4 v5 v6 v7 v8 1000000
set_option maxRecDepth 100000 in
set_option maxHeartbeats 4000000 in
theorem wX10_guarded_60 {p : Program} {l : Launch} {e : Env} {s : State} {m : MethodId} {args : Array Value} {below : List Frame} {meth : Method} {c : Code} {Γ : Gm} {A : Nat → Prop} {G : Gs} {o : Nat} {r : Rec} {v2 : Int32} {v3 : Int32} {v4 : Int32} {v5 : Int32} {v6 : Int32} {v7 : Int32} {v8 : Int32} {q : ((Int32 × Int32 × Int32) ⊕ (Rec × Int32))} {fin : Rec × Int32} (C : Cx p s m args meth c yX10_guarded cX10_guarded 11 (some .int) Γ A) (hk : kd Γ o = some 10) (hf : bX10_guarded_60 r v2 v3 v4 v5 v6 v7 v8 = some q) (hq : (KC (fun st : Int32 × Int32 × Int32 => Wk p l e { frames := 6, cells := 0, slots := 0, locals := 136 } s m args below meth c Γ A (ug G o fin.1) (some (.int fin.2)) 60 11 [(0, .ref (ad Γ o)), (2, .int v2), (3, .int v3), (4, .int v4), (5, .int st.1), (6, .int st.2.1), (7, .int v7), (8, .int st.2.2)] [] (ug G o r)) (fun x => x = fin)) q) : Wk p l e { frames := 6, cells := 0, slots := 0, locals := 136 } s m args below meth c Γ A (ug G o fin.1) (some (.int fin.2)) 60 11 [(0, .ref (ad Γ o)), (2, .int v2), (3, .int v3), (4, .int v4), (5, .int v5), (6, .int v6), (7, .int v7), (8, .int v8)] [] (ug G o r) := by
  intro H locs ls hw hS hl
  unfold bX10_guarded_60 at hf
  obtain ⟨hx, hb, hml, hr, hown, htw, hlocks, hE⟩ := id C
  have hown : s.vm.findClass RX10 = some m.cls := hown
  refine lv_iload hx hb dX10_guarded_60 (lv_at hl 7 rfl) ?_
  refine lv_iload hx hb dX10_guarded_62 (lv_at hl 6 rfl) ?_
  refine lv_icmp_gt (tgt := 172) hx hb dX10_guarded_64 (by decide) (fun c15 => ?_) (fun c15 => ?_)
  · have hf := ifp c15 hf
    obtain ⟨q10, hfq10, eq10⟩ := out1_some hf
    subst eq10
    have hf := hfq10
    have hq := hq.2 _ rfl
    exact wX10_guarded_172 C hk hf hq H locs ls hw hS (lv_sub hl [3, 4, 5] rfl)
  · have hf := ifn c15 hf
    refine lv_iload hx hb dX10_guarded_67 (lv_at hl 7 rfl) ?_
    obtain ⟨z11, hz11, hf⟩ := bd hf
    refine cl_Ss (rest := []) (kX10_ones (l := l) (Γ := Γ) (A := A) (G := (ug G o r)) hz11) ⟨hx, hb, hml, hown, htw⟩ hE hw hS mw1716 mw1717 mw129 mw1718 pdX10_ones ⟨Nat.le_of_ble_eq_true rfl, Nat.le_of_ble_eq_true rfl⟩ rfl rfl hl.1 (Nat.le_of_ble_eq_true rfl) dX10_guarded_69 (fun H locs hw hS => ?_)
    refine lv_iload_n hx hb dX10_guarded_72 rfl (lv_at hl 1 rfl) ?_
    refine lv_icmp_le (tgt := 82) hx hb dX10_guarded_73 (by decide) (fun c14 => ?_) (fun c14 => ?_)
    · have hf := ifp c14 hf
      refine lv_aload_n hx hb dX10_guarded_82 rfl (lv_at hl 0 rfl) ?_
      refine va_get (ci := 10) (v := .ref (aa Γ o 38)) (C := RX10) (T := TX10) (N := 49) hx hb htw uwX10 hown hE.1 (wo_me hw hk) 0 rfl rfl 38 (by decide) (htw _ mw1281) (fun _ h9 => h9) rfl dX10_guarded_83 ?_
      refine lv_aload_n hx hb dX10_guarded_86 rfl (lv_at hl 0 rfl) ?_
      refine lv_iload hx hb dX10_guarded_87 (lv_at hl 6 rfl) ?_
      refine lv_iload hx hb dX10_guarded_89 (lv_at hl 7 rfl) ?_
      refine lv_iconst (v := (-1)) hx hb dX10_guarded_91 (by decide) ?_
      refine lv_ixor hx hb dX10_guarded_92 ?_
      refine lv_iand hx hb dX10_guarded_93 ?_
      refine lv_iload_n hx hb dX10_guarded_94 rfl (lv_at hl 2 rfl) ?_
      obtain ⟨z12, hz12, hf⟩ := bd hf
      refine cl_Vs (rest := [.ref (aa Γ o 38)]) (kX10_bestLoot (l := l) (Γ := Γ) (A := A) (G := G) (o := o) hk hz12) ⟨hx, hb, hml, hown, htw⟩ hE hw hS (wo_me hw hk) (q0 := 0) rfl rfl mw1731 mw1733 mw102 mw129 mw1734 pdX10_bestLoot ⟨Nat.le_of_ble_eq_true rfl, Nat.le_of_ble_eq_true rfl⟩ rfl rfl hl.1 (Nat.le_of_ble_eq_true rfl) dX10_guarded_95 (fun H locs hw hS => ?_)
      obtain ⟨g13, hf⟩ := gd_some hf
      refine va_iald hx hb hE.1 (wo_me hw hk) 17 0 rfl rfl (inR_in g13) dX10_guarded_98 ?_
      exact wX10_guarded_99 C hk hf hq H locs ls hw hS hl
    · have hf := ifn c14 hf
      refine lv_ldcw hx hb hown (htw _ mw1676) dX10_guarded_76 ?_
      refine lv_goto (tgt := 99) hx hb dX10_guarded_79 (by decide) ?_
      exact wX10_guarded_99 C hk hf hq H locs ls hw hS hl

set_option maxRecDepth 100000 in
set_option maxHeartbeats 4000000 in
theorem lwX10_guarded_60 {p : Program} {l : Launch} {e : Env} {s : State} {m : MethodId} {args : Array Value} {below : List Frame} {meth : Method} {c : Code} {Γ : Gm} {A : Nat → Prop} {G : Gs} {o : Nat} {r : Rec} {v2 : Int32} {v3 : Int32} {v4 : Int32} {v5 : Int32} {v6 : Int32} {v7 : Int32} {v8 : Int32} {q : (Rec × Int32)} {fin : Rec × Int32} (C : Cx p s m args meth c yX10_guarded cX10_guarded 11 (some .int) Γ A) (hk : kd Γ o = some 10) (hf : iter (fun st : Int32 × Int32 × Int32 => bX10_guarded_60 r v2 v3 v4 st.1 st.2.1 v7 st.2.2) (v5, v6, v8) = some q) (hq : (fun x => x = fin) q) : Wk p l e { frames := 6, cells := 0, slots := 0, locals := 136 } s m args below meth c Γ A (ug G o fin.1) (some (.int fin.2)) 60 11 [(0, .ref (ad Γ o)), (2, .int v2), (3, .int v3), (4, .int v4), (5, .int v5), (6, .int v6), (7, .int v7), (8, .int v8)] [] (ug G o r) := by
  intro H locs ls hw hS hl
  refine iter_walk (P := (fun st : Int32 × Int32 × Int32 => Wk p l e { frames := 6, cells := 0, slots := 0, locals := 136 } s m args below meth c Γ A (ug G o fin.1) (some (.int fin.2)) 60 11 [(0, .ref (ad Γ o)), (2, .int v2), (3, .int v3), (4, .int v4), (5, .int st.1), (6, .int st.2.1), (7, .int v7), (8, .int st.2.2)] [] (ug G o r))) (K := (fun x => x = fin)) (fun st q hq1 h1 h2 => ?_) hf hq H locs ls hw hS hl
  exact wX10_guarded_60 (v5 := st.1) (v6 := st.2.1) (v8 := st.2.2) C hk hq1 ⟨h1, h2⟩

noncomputable def fX10_guarded (r : Rec) (v1 : Int32) (v2 : Int32) (v3 : Int32) (v4 : Int32) : Option (Rec × Int32) :=
  (some (si r 0 0)).bind fun r16 => (fX10_in v2 0 8).bind fun z17 => if z17 = 0 then some ((r16, (-1))) else (fX10_in v3 0 8).bind fun z18 => if z18 = 0 then some ((r16, (-1))) else (fX10_hand r16 v1).bind fun z19 => if z19.2 = 0 then some ((z19.1, (-1))) else (fX10_findLoot z19.1).bind fun z20 => (some (((1 : Int32) <<< ((gi z20 26) &&& 31)) - 1)).bind fun x21 => iter (fun st : Int32 × Int32 × Int32 => bX10_guarded_60 z20 v2 v3 v4 st.1 st.2.1 x21 st.2.2) ((-1), 1000000, 0)
set_option maxRecDepth 100000 in
set_option maxHeartbeats 4000000 in
theorem wX10_guarded_e {p : Program} {l : Launch} {e : Env} {s : State} {m : MethodId} {args : Array Value} {below : List Frame} {meth : Method} {c : Code} {Γ : Gm} {A : Nat → Prop} {G : Gs} {o : Nat} {r : Rec} {v1 : Int32} {v2 : Int32} {v3 : Int32} {v4 : Int32} {q : (Rec × Int32)} {fin : Rec × Int32} (C : Cx p s m args meth c yX10_guarded cX10_guarded 11 (some .int) Γ A) (hk : kd Γ o = some 10) (hf : fX10_guarded r v1 v2 v3 v4 = some q) (hq : (fun x => x = fin) q) : Wk p l e { frames := 6, cells := 0, slots := 0, locals := 136 } s m args below meth c Γ A (ug G o fin.1) (some (.int fin.2)) 0 11 [(0, .ref (ad Γ o)), (1, .int v1), (2, .int v2), (3, .int v3), (4, .int v4)] [] (ug G o r) := by
  intro H locs ls hw hS hl
  unfold fX10_guarded at hf
  obtain ⟨hx, hb, hml, hr, hown, htw, hlocks, hE⟩ := id C
  have hown : s.vm.findClass RX10 = some m.cls := hown
  refine lv_aload_n hx hb dX10_guarded_0 rfl (lv_at hl 0 rfl) ?_
  refine lv_iconst (v := 0) hx hb dX10_guarded_1 (by decide) ?_
  obtain ⟨r16, hr16, hf⟩ := bd hf
  have hr16 := Option.some.inj hr16
  refine wo_put (C := RX10) (T := TX10) (N := 49) (v := .int 0) (ty := .int) hx hb htw uwX10 tyX10 tyX10_ok nmX10 hown hE hw hS hk rfl rfl 0 (by decide) (htw _ mw1243) (fun _ h9 => h9) rfl (tyX10_ok 0 (by decide)) rfl rfl (Nat.le_of_ble_eq_true rfl) (st10_0 hr16) dX10_guarded_2 (fun H locs hw hS => ?_)
  refine lv_iload_n hx hb dX10_guarded_5 rfl (lv_at hl 2 rfl) ?_
  refine lv_iconst (v := 0) hx hb dX10_guarded_6 (by decide) ?_
  refine lv_bipush (v := 8) hx hb dX10_guarded_7 (by decide) ?_
  obtain ⟨z17, hz17, hf⟩ := bd hf
  refine cl_Ss (rest := []) (kX10_in (l := l) (Γ := Γ) (A := A) (G := (ug G o r16)) hz17) ⟨hx, hb, hml, hown, htw⟩ hE hw hS mw1404 mw1405 mw129 mw1406 pdX10_in ⟨Nat.le_of_ble_eq_true rfl, Nat.le_of_ble_eq_true rfl⟩ rfl rfl hl.1 (Nat.le_of_ble_eq_true rfl) dX10_guarded_9 (fun H locs hw hS => ?_)
  refine lv_if_eq (tgt := 33) hx hb dX10_guarded_12 (by decide) (fun c24 => ?_) (fun c24 => ?_)
  · have hf := ifp c24 hf
    refine lv_iconst (v := (-1)) hx hb dX10_guarded_33 (by decide) ?_
    obtain rfl := Option.some.inj hf
    subst hq
    exact rt_i C hw hS dX10_guarded_34
  · have hf := ifn c24 hf
    refine lv_iload_n hx hb dX10_guarded_15 rfl (lv_at hl 3 rfl) ?_
    refine lv_iconst (v := 0) hx hb dX10_guarded_16 (by decide) ?_
    refine lv_bipush (v := 8) hx hb dX10_guarded_17 (by decide) ?_
    obtain ⟨z18, hz18, hf⟩ := bd hf
    refine cl_Ss (rest := []) (kX10_in (l := l) (Γ := Γ) (A := A) (G := (ug G o r16)) hz18) ⟨hx, hb, hml, hown, htw⟩ hE hw hS mw1404 mw1405 mw129 mw1406 pdX10_in ⟨Nat.le_of_ble_eq_true rfl, Nat.le_of_ble_eq_true rfl⟩ rfl rfl hl.1 (Nat.le_of_ble_eq_true rfl) dX10_guarded_19 (fun H locs hw hS => ?_)
    refine lv_if_eq (tgt := 33) hx hb dX10_guarded_22 (by decide) (fun c23 => ?_) (fun c23 => ?_)
    · have hf := ifp c23 hf
      refine lv_iconst (v := (-1)) hx hb dX10_guarded_33 (by decide) ?_
      obtain rfl := Option.some.inj hf
      subst hq
      exact rt_i C hw hS dX10_guarded_34
    · have hf := ifn c23 hf
      refine lv_aload_n hx hb dX10_guarded_25 rfl (lv_at hl 0 rfl) ?_
      refine lv_iload_n hx hb dX10_guarded_26 rfl (lv_at hl 1 rfl) ?_
      obtain ⟨z19, hz19, hf⟩ := bd hf
      refine cl_Vs (rest := []) (kX10_hand (l := l) (Γ := Γ) (A := A) (G := G) (o := o) hk hz19) ⟨hx, hb, hml, hown, htw⟩ hE hw hS (wo_me hw hk) (q0 := 0) rfl rfl mw1537 mw1539 mw65 mw129 mw1540 pdX10_hand ⟨Nat.le_of_ble_eq_true rfl, Nat.le_of_ble_eq_true rfl⟩ rfl rfl hl.1 (Nat.le_of_ble_eq_true rfl) dX10_guarded_27 (fun H locs hw hS => ?_)
      refine lv_if_ne (tgt := 35) hx hb dX10_guarded_30 (by decide) (fun c22 => ?_) (fun c22 => ?_)
      · have hf := ifn c22 hf
        refine lv_aload_n hx hb dX10_guarded_35 rfl (lv_at hl 0 rfl) ?_
        obtain ⟨z20, hz20, hf⟩ := bd hf
        refine cl_Vv (rest := []) (kX10_findLoot (l := l) (Γ := Γ) (A := A) (G := G) (o := o) hk hz20) ⟨hx, hb, hml, hown, htw⟩ hE hw hS (wo_me hw hk) (q0 := 0) rfl rfl mw1723 mw1725 mw100 mw129 mw1726 pdX10_findLoot ⟨Nat.le_of_ble_eq_true rfl, Nat.le_of_ble_eq_true rfl⟩ rfl rfl hl.1 (Nat.le_of_ble_eq_true rfl) dX10_guarded_36 (fun H locs hw hS => ?_)
        refine lv_iconst (v := (-1)) hx hb dX10_guarded_39 (by decide) ?_
        refine lv_istore (lv' := [(5, .int (-1)), (0, .ref (ad Γ o)), (1, .int v1), (2, .int v2), (3, .int v3), (4, .int v4)]) hx hb dX10_guarded_40 hl (by decide) rfl (fun ls hl => ?_)
        refine lv_ldcw hx hb hown (htw _ mw1676) dX10_guarded_42 ?_
        refine lv_istore (lv' := [(6, .int 1000000), (5, .int (-1)), (0, .ref (ad Γ o)), (1, .int v1), (2, .int v2), (3, .int v3), (4, .int v4)]) hx hb dX10_guarded_45 hl (by decide) rfl (fun ls hl => ?_)
        refine lv_iconst (v := 1) hx hb dX10_guarded_47 (by decide) ?_
        refine lv_aload_n hx hb dX10_guarded_48 rfl (lv_at hl 2 rfl) ?_
        refine va_get (ci := 10) (v := .int (gi z20 26)) (C := RX10) (T := TX10) (N := 49) hx hb htw uwX10 hown hE.1 (wo_me hw hk) 0 rfl rfl 26 (by decide) (htw _ mw1269) (fun _ h9 => h9) rfl dX10_guarded_49 ?_
        refine lv_ishl hx hb dX10_guarded_52 ?_
        refine lv_iconst (v := 1) hx hb dX10_guarded_53 (by decide) ?_
        refine lv_isub hx hb dX10_guarded_54 ?_
        obtain ⟨x21, hx21, hf⟩ := bd hf
        have hx21 := Option.some.inj hx21
        refine tp1i hx21 ?_
        refine lv_istore (lv' := [(7, .int x21), (6, .int 1000000), (5, .int (-1)), (0, .ref (ad Γ o)), (1, .int v1), (2, .int v2), (3, .int v3), (4, .int v4)]) hx hb dX10_guarded_55 hl (by decide) rfl (fun ls hl => ?_)
        refine lv_iconst (v := 0) hx hb dX10_guarded_57 (by decide) ?_
        refine lv_istore (lv' := [(8, .int 0), (7, .int x21), (6, .int 1000000), (5, .int (-1)), (0, .ref (ad Γ o)), (1, .int v1), (2, .int v2), (3, .int v3), (4, .int v4)]) hx hb dX10_guarded_58 hl (by decide) rfl (fun ls hl => ?_)
        exact lwX10_guarded_60 C hk hf hq H locs ls hw hS (lv_sub hl [4, 6, 7, 8, 3, 2, 1, 0] rfl)
      · have hf := ifp c22 hf
        refine lv_iconst (v := (-1)) hx hb dX10_guarded_33 (by decide) ?_
        obtain rfl := Option.some.inj hf
        subst hq
        exact rt_i C hw hS dX10_guarded_34

theorem kX10_guarded {l : Launch} {Γ : Gm} {A : Nat → Prop} {G : Gs} {o : Nat} {r : Rec} {v1 : Int32} {v2 : Int32} {v3 : Int32} {v4 : Int32} {fin : Rec × Int32} (hk : kd Γ o = some 10) (hf : fX10_guarded r v1 v2 v3 v4 = some fin) : Kt l yX10_guarded cX10_guarded 11 (some .int) 6 136 Γ A (ug G o r) (ug G o fin.1) [.ref (ad Γ o), .int v1, .int v2, .int v3, .int v4] (some (.int fin.2)) :=
  kt_of (by decide) (Nat.le_of_ble_eq_true rfl) (fun p e s m args below meth c C => wX10_guarded_e C hk hf rfl)
theorem kgX10_guarded {l : Launch} {Γ : Gm} {A : Nat → Prop} {G : Gs} {o : Nat} {v1 : Int32} {v2 : Int32} {v3 : Int32} {v4 : Int32} {fin : Rec × Int32} (hk : kd Γ o = some 10) (hf : fX10_guarded (G o) v1 v2 v3 v4 = some fin) : Kt l yX10_guarded cX10_guarded 11 (some .int) 6 136 Γ A G (ug G o fin.1) [.ref (ad Γ o), .int v1, .int v2, .int v3, .int v4] (some (.int fin.2)) := by
  have h := kX10_guarded (l := l) (A := A) (G := G) (r := G o) hk hf
  rw [ug_self] at h
  exact h
noncomputable def bX10_evening_193 (r : Rec) (v2 : Int32) (v3 : Int32) (v4 : Int32) (v5 : Int32) (v6 : Int32) : Option ((Int32 × Int32 × Rec) ⊕ (Rec × Int32)) :=
  some (.inl (v5, v6 + 1, r))
set_option maxRecDepth 100000 in
set_option maxHeartbeats 4000000 in
theorem wX10_evening_193 {p : Program} {l : Launch} {e : Env} {s : State} {m : MethodId} {args : Array Value} {below : List Frame} {meth : Method} {c : Code} {Γ : Gm} {A : Nat → Prop} {G : Gs} {o : Nat} {r : Rec} {v2 : Int32} {v3 : Int32} {v4 : Int32} {v5 : Int32} {v6 : Int32} {q : ((Int32 × Int32 × Rec) ⊕ (Rec × Int32))} {fin : Rec × Int32} (C : Cx p s m args meth c yX10_evening cX10_evening 9 (some .int) Γ A) (hk : kd Γ o = some 10) (hf : bX10_evening_193 r v2 v3 v4 v5 v6 = some q) (hq : (KC (fun st : Int32 × Int32 × Rec => Wk p l e { frames := 3, cells := 0, slots := 0, locals := 70 } s m args below meth c Γ A (ug G o fin.1) (some (.int fin.2)) 46 9 [(0, .ref (ad Γ o)), (2, .int v2), (3, .int v3), (4, .int v4), (5, .int st.1), (6, .int st.2.1)] [] (ug G o st.2.2)) (fun x => x = fin)) q) : Wk p l e { frames := 3, cells := 0, slots := 0, locals := 70 } s m args below meth c Γ A (ug G o fin.1) (some (.int fin.2)) 193 9 [(0, .ref (ad Γ o)), (2, .int v2), (3, .int v3), (4, .int v4), (5, .int v5), (6, .int v6)] [] (ug G o r) := by
  intro H locs ls hw hS hl
  unfold bX10_evening_193 at hf
  obtain ⟨hx, hb, hml, hr, hown, htw, hlocks, hE⟩ := id C
  have hown : s.vm.findClass RX10 = some m.cls := hown
  refine lv_iinc (v := v6 + 1) (lv' := [(6, .int (v6 + 1)), (0, .ref (ad Γ o)), (2, .int v2), (3, .int v3), (4, .int v4), (5, .int v5)]) hx hb dX10_evening_193 hl (k := 5) rfl (by rfl) (by decide) rfl (fun ls hl => ?_)
  refine lv_goto (tgt := 46) hx hb dX10_evening_196 (by decide) ?_
  obtain rfl := Option.some.inj hf
  exact hq.1 _ rfl H locs ls hw hS (lv_sub hl [1, 2, 3, 4, 5, 0] rfl)

noncomputable def bX10_evening_187 (r : Rec) (v2 : Int32) (v3 : Int32) (v4 : Int32) (v5 : Int32) (v6 : Int32) (v7 : Int32) (v8 : Int32) : Option ((Int32 × Int32 × Rec) ⊕ ((Int32 × Int32 × Rec) ⊕ (Rec × Int32))) :=
  some (.inl (v5, v8 + 1, r))
set_option maxRecDepth 100000 in
set_option maxHeartbeats 4000000 in
theorem wX10_evening_187 {p : Program} {l : Launch} {e : Env} {s : State} {m : MethodId} {args : Array Value} {below : List Frame} {meth : Method} {c : Code} {Γ : Gm} {A : Nat → Prop} {G : Gs} {o : Nat} {r : Rec} {v2 : Int32} {v3 : Int32} {v4 : Int32} {v5 : Int32} {v6 : Int32} {v7 : Int32} {v8 : Int32} {q : ((Int32 × Int32 × Rec) ⊕ ((Int32 × Int32 × Rec) ⊕ (Rec × Int32)))} {fin : Rec × Int32} (C : Cx p s m args meth c yX10_evening cX10_evening 9 (some .int) Γ A) (hk : kd Γ o = some 10) (hf : bX10_evening_187 r v2 v3 v4 v5 v6 v7 v8 = some q) (hq : (KC (fun st : Int32 × Int32 × Rec => Wk p l e { frames := 3, cells := 0, slots := 0, locals := 70 } s m args below meth c Γ A (ug G o fin.1) (some (.int fin.2)) 81 9 [(0, .ref (ad Γ o)), (2, .int v2), (3, .int v3), (4, .int v4), (5, .int st.1), (6, .int v6), (7, .int v7), (8, .int st.2.1)] [] (ug G o st.2.2)) (KC (fun st : Int32 × Int32 × Rec => Wk p l e { frames := 3, cells := 0, slots := 0, locals := 70 } s m args below meth c Γ A (ug G o fin.1) (some (.int fin.2)) 46 9 [(0, .ref (ad Γ o)), (2, .int v2), (3, .int v3), (4, .int v4), (5, .int st.1), (6, .int st.2.1)] [] (ug G o st.2.2)) (fun x => x = fin))) q) : Wk p l e { frames := 3, cells := 0, slots := 0, locals := 70 } s m args below meth c Γ A (ug G o fin.1) (some (.int fin.2)) 187 9 [(0, .ref (ad Γ o)), (2, .int v2), (3, .int v3), (4, .int v4), (5, .int v5), (6, .int v6), (7, .int v7), (8, .int v8)] [] (ug G o r) := by
  intro H locs ls hw hS hl
  unfold bX10_evening_187 at hf
  obtain ⟨hx, hb, hml, hr, hown, htw, hlocks, hE⟩ := id C
  have hown : s.vm.findClass RX10 = some m.cls := hown
  refine lv_iinc (v := v8 + 1) (lv' := [(8, .int (v8 + 1)), (0, .ref (ad Γ o)), (2, .int v2), (3, .int v3), (4, .int v4), (5, .int v5), (6, .int v6), (7, .int v7)]) hx hb dX10_evening_187 hl (k := 7) rfl (by rfl) (by decide) rfl (fun ls hl => ?_)
  refine lv_goto (tgt := 81) hx hb dX10_evening_190 (by decide) ?_
  obtain rfl := Option.some.inj hf
  exact hq.1 _ rfl H locs ls hw hS (lv_sub hl [1, 2, 3, 4, 5, 6, 7, 0] rfl)

noncomputable def bX10_evening_185 (r : Rec) (v2 : Int32) (v3 : Int32) (v4 : Int32) (v5 : Int32) (v6 : Int32) (v7 : Int32) (v8 : Int32) (s0 : Int32) (s1 : Int32) (s2 : Int32) : Option ((Int32 × Int32 × Rec) ⊕ ((Int32 × Int32 × Rec) ⊕ (Rec × Int32))) :=
  gd (inR s2 10) ((some (sa r 40 (upd (ga r 40) (Int32.toNatClampNeg s2) (s1 - s0)))).bind fun r2 => bX10_evening_187 r2 v2 v3 v4 v5 v6 v7 v8)
set_option maxRecDepth 100000 in
set_option maxHeartbeats 4000000 in
theorem wX10_evening_185 {p : Program} {l : Launch} {e : Env} {s : State} {m : MethodId} {args : Array Value} {below : List Frame} {meth : Method} {c : Code} {Γ : Gm} {A : Nat → Prop} {G : Gs} {o : Nat} {r : Rec} {v2 : Int32} {v3 : Int32} {v4 : Int32} {v5 : Int32} {v6 : Int32} {v7 : Int32} {v8 : Int32} {s0 : Int32} {s1 : Int32} {s2 : Int32} {q : ((Int32 × Int32 × Rec) ⊕ ((Int32 × Int32 × Rec) ⊕ (Rec × Int32)))} {fin : Rec × Int32} (C : Cx p s m args meth c yX10_evening cX10_evening 9 (some .int) Γ A) (hk : kd Γ o = some 10) (hf : bX10_evening_185 r v2 v3 v4 v5 v6 v7 v8 s0 s1 s2 = some q) (hq : (KC (fun st : Int32 × Int32 × Rec => Wk p l e { frames := 3, cells := 0, slots := 0, locals := 70 } s m args below meth c Γ A (ug G o fin.1) (some (.int fin.2)) 81 9 [(0, .ref (ad Γ o)), (2, .int v2), (3, .int v3), (4, .int v4), (5, .int st.1), (6, .int v6), (7, .int v7), (8, .int st.2.1)] [] (ug G o st.2.2)) (KC (fun st : Int32 × Int32 × Rec => Wk p l e { frames := 3, cells := 0, slots := 0, locals := 70 } s m args below meth c Γ A (ug G o fin.1) (some (.int fin.2)) 46 9 [(0, .ref (ad Γ o)), (2, .int v2), (3, .int v3), (4, .int v4), (5, .int st.1), (6, .int st.2.1)] [] (ug G o st.2.2)) (fun x => x = fin))) q) : Wk p l e { frames := 3, cells := 0, slots := 0, locals := 70 } s m args below meth c Γ A (ug G o fin.1) (some (.int fin.2)) 185 9 [(0, .ref (ad Γ o)), (2, .int v2), (3, .int v3), (4, .int v4), (5, .int v5), (6, .int v6), (7, .int v7), (8, .int v8)] [.int s0, .int s1, .int s2, .ref (aa Γ o 40)] (ug G o r) := by
  intro H locs ls hw hS hl
  unfold bX10_evening_185 at hf
  obtain ⟨hx, hb, hml, hr, hown, htw, hlocks, hE⟩ := id C
  have hown : s.vm.findClass RX10 = some m.cls := hown
  refine lv_isub hx hb dX10_evening_185 ?_
  obtain ⟨g1, hf⟩ := gd_some hf
  obtain ⟨r2, hr2, hf⟩ := bd hf
  have hr2 := Option.some.inj hr2
  refine wo_iast hx hb hE hw hS hk (q0 := 19) rfl (inR_in g1) (sa10_40 hr2) dX10_evening_186 (fun H locs hw hS => ?_)
  exact wX10_evening_187 C hk hf hq H locs ls hw hS hl

noncomputable def bX10_evening_156 (r : Rec) (v2 : Int32) (v3 : Int32) (v4 : Int32) (v6 : Int32) (v7 : Int32) (v8 : Int32) (s0 : Int32) : Option ((Int32 × Int32 × Rec) ⊕ ((Int32 × Int32 × Rec) ⊕ (Rec × Int32))) :=
  gd (inR v8 10) (if s0 = (-1) then (fX10_of r (37 + v6)).bind fun z4 => bX10_evening_185 r v2 v3 v4 s0 v6 v7 v8 z4 (ga r 40 (Int32.toNatClampNeg v8)) v8 else bX10_evening_185 r v2 v3 v4 s0 v6 v7 v8 0 (ga r 40 (Int32.toNatClampNeg v8)) v8)
set_option maxRecDepth 100000 in
set_option maxHeartbeats 4000000 in
theorem wX10_evening_156 {p : Program} {l : Launch} {e : Env} {s : State} {m : MethodId} {args : Array Value} {below : List Frame} {meth : Method} {c : Code} {Γ : Gm} {A : Nat → Prop} {G : Gs} {o : Nat} {r : Rec} {v2 : Int32} {v3 : Int32} {v4 : Int32} {v6 : Int32} {v7 : Int32} {v8 : Int32} {s0 : Int32} {q : ((Int32 × Int32 × Rec) ⊕ ((Int32 × Int32 × Rec) ⊕ (Rec × Int32)))} {fin : Rec × Int32} (C : Cx p s m args meth c yX10_evening cX10_evening 9 (some .int) Γ A) (hk : kd Γ o = some 10) (hf : bX10_evening_156 r v2 v3 v4 v6 v7 v8 s0 = some q) (hq : (KC (fun st : Int32 × Int32 × Rec => Wk p l e { frames := 3, cells := 0, slots := 0, locals := 70 } s m args below meth c Γ A (ug G o fin.1) (some (.int fin.2)) 81 9 [(0, .ref (ad Γ o)), (2, .int v2), (3, .int v3), (4, .int v4), (5, .int st.1), (6, .int v6), (7, .int v7), (8, .int st.2.1)] [] (ug G o st.2.2)) (KC (fun st : Int32 × Int32 × Rec => Wk p l e { frames := 3, cells := 0, slots := 0, locals := 70 } s m args below meth c Γ A (ug G o fin.1) (some (.int fin.2)) 46 9 [(0, .ref (ad Γ o)), (2, .int v2), (3, .int v3), (4, .int v4), (5, .int st.1), (6, .int st.2.1)] [] (ug G o st.2.2)) (fun x => x = fin))) q) : Wk p l e { frames := 3, cells := 0, slots := 0, locals := 70 } s m args below meth c Γ A (ug G o fin.1) (some (.int fin.2)) 156 9 [(0, .ref (ad Γ o)), (2, .int v2), (3, .int v3), (4, .int v4), (6, .int v6), (7, .int v7), (8, .int v8)] [.int s0] (ug G o r) := by
  intro H locs ls hw hS hl
  unfold bX10_evening_156 at hf
  obtain ⟨hx, hb, hml, hr, hown, htw, hlocks, hE⟩ := id C
  have hown : s.vm.findClass RX10 = some m.cls := hown
  refine lv_istore (lv' := [(5, .int s0), (0, .ref (ad Γ o)), (2, .int v2), (3, .int v3), (4, .int v4), (6, .int v6), (7, .int v7), (8, .int v8)]) hx hb dX10_evening_156 hl (by decide) rfl (fun ls hl => ?_)
  refine lv_aload_n hx hb dX10_evening_158 rfl (lv_at hl 1 rfl) ?_
  refine va_get (ci := 10) (v := .ref (aa Γ o 40)) (C := RX10) (T := TX10) (N := 49) hx hb htw uwX10 hown hE.1 (wo_me hw hk) 0 rfl rfl 40 (by decide) (htw _ mw1283) (fun _ h9 => h9) rfl dX10_evening_159 ?_
  refine lv_iload hx hb dX10_evening_162 (lv_at hl 7 rfl) ?_
  refine lv_dup2_11 hx hb dX10_evening_164 rfl rfl ?_
  obtain ⟨g3, hf⟩ := gd_some hf
  refine va_iald hx hb hE.1 (wo_me hw hk) 19 0 rfl rfl (inR_in g3) dX10_evening_165 ?_
  refine lv_iload hx hb dX10_evening_166 (lv_at hl 0 rfl) ?_
  refine lv_iconst (v := (-1)) hx hb dX10_evening_168 (by decide) ?_
  refine lv_icmp_ne (tgt := 184) hx hb dX10_evening_169 (by decide) (fun c5 => ?_) (fun c5 => ?_)
  · have hf := ifn c5 hf
    refine lv_iconst (v := 0) hx hb dX10_evening_184 (by decide) ?_
    exact wX10_evening_185 C hk hf hq H locs ls hw hS (lv_sub hl [1, 2, 3, 4, 0, 5, 6, 7] rfl)
  · have hf := ifp c5 hf
    refine lv_aload_n hx hb dX10_evening_172 rfl (lv_at hl 1 rfl) ?_
    refine lv_bipush (v := 37) hx hb dX10_evening_173 (by decide) ?_
    refine lv_iload hx hb dX10_evening_175 (lv_at hl 5 rfl) ?_
    refine lv_iadd hx hb dX10_evening_177 ?_
    obtain ⟨z4, hz4, hf⟩ := bd hf
    refine cl_Vs (rest := [.int (ga r 40 (Int32.toNatClampNeg v8)), .int v8, .ref (aa Γ o 40)]) (kX10_of (l := l) (Γ := Γ) (A := A) (G := G) (o := o) hk hz4) ⟨hx, hb, hml, hown, htw⟩ hE hw hS (wo_me hw hk) (q0 := 0) rfl rfl mw1541 mw1543 mw66 mw129 mw1544 pdX10_of ⟨Nat.le_of_ble_eq_true rfl, Nat.le_of_ble_eq_true rfl⟩ rfl rfl hl.1 (Nat.le_of_ble_eq_true rfl) dX10_evening_178 (fun H locs hw hS => ?_)
    refine lv_goto (tgt := 185) hx hb dX10_evening_181 (by decide) ?_
    exact wX10_evening_185 C hk hf hq H locs ls hw hS (lv_sub hl [1, 2, 3, 4, 0, 5, 6, 7] rfl)

noncomputable def bX10_evening_81 (r : Rec) (v2 : Int32) (v3 : Int32) (v4 : Int32) (v5 : Int32) (v6 : Int32) (v7 : Int32) (v8 : Int32) : Option ((Int32 × Int32 × Rec) ⊕ ((Int32 × Int32 × Rec) ⊕ (Rec × Int32))) :=
  if v4 ≤ v8 then out1 (bX10_evening_193 r v2 v3 v4 v5 v6) else if v5 = (-1) then gd (inR v8 10) ((fX10_of r (37 + v6)).bind fun z9 => if v2 < ((ga r 40 (Int32.toNatClampNeg v8)) + z9) then bX10_evening_187 r v2 v3 v4 v5 v6 v7 v8 else gd (inR v8 10) ((fX10_of r (37 + v6)).bind fun z11 => gd (inR v8 10) ((some (sa r 40 (upd (ga r 40) (Int32.toNatClampNeg v8) ((ga r 40 (Int32.toNatClampNeg v8)) + z11)))).bind fun r13 => (fX10_fill r13 v7 v2).bind fun z14 => if v4 ≤ (z14.2 / 100) then bX10_evening_156 z14.1 v2 v3 v4 v6 v7 v8 v5 else bX10_evening_156 z14.1 v2 v3 v4 v6 v7 v8 v8))) else out1 (bX10_evening_193 r v2 v3 v4 v5 v6)
set_option maxRecDepth 100000 in
set_option maxHeartbeats 4000000 in
theorem wX10_evening_81 {p : Program} {l : Launch} {e : Env} {s : State} {m : MethodId} {args : Array Value} {below : List Frame} {meth : Method} {c : Code} {Γ : Gm} {A : Nat → Prop} {G : Gs} {o : Nat} {r : Rec} {v2 : Int32} {v3 : Int32} {v4 : Int32} {v5 : Int32} {v6 : Int32} {v7 : Int32} {v8 : Int32} {q : ((Int32 × Int32 × Rec) ⊕ ((Int32 × Int32 × Rec) ⊕ (Rec × Int32)))} {fin : Rec × Int32} (C : Cx p s m args meth c yX10_evening cX10_evening 9 (some .int) Γ A) (hk : kd Γ o = some 10) (hf : bX10_evening_81 r v2 v3 v4 v5 v6 v7 v8 = some q) (hq : (KC (fun st : Int32 × Int32 × Rec => Wk p l e { frames := 3, cells := 0, slots := 0, locals := 70 } s m args below meth c Γ A (ug G o fin.1) (some (.int fin.2)) 81 9 [(0, .ref (ad Γ o)), (2, .int v2), (3, .int v3), (4, .int v4), (5, .int st.1), (6, .int v6), (7, .int v7), (8, .int st.2.1)] [] (ug G o st.2.2)) (KC (fun st : Int32 × Int32 × Rec => Wk p l e { frames := 3, cells := 0, slots := 0, locals := 70 } s m args below meth c Γ A (ug G o fin.1) (some (.int fin.2)) 46 9 [(0, .ref (ad Γ o)), (2, .int v2), (3, .int v3), (4, .int v4), (5, .int st.1), (6, .int st.2.1)] [] (ug G o st.2.2)) (fun x => x = fin))) q) : Wk p l e { frames := 3, cells := 0, slots := 0, locals := 70 } s m args below meth c Γ A (ug G o fin.1) (some (.int fin.2)) 81 9 [(0, .ref (ad Γ o)), (2, .int v2), (3, .int v3), (4, .int v4), (5, .int v5), (6, .int v6), (7, .int v7), (8, .int v8)] [] (ug G o r) := by
  intro H locs ls hw hS hl
  unfold bX10_evening_81 at hf
  obtain ⟨hx, hb, hml, hr, hown, htw, hlocks, hE⟩ := id C
  have hown : s.vm.findClass RX10 = some m.cls := hown
  refine lv_iload hx hb dX10_evening_81 (lv_at hl 7 rfl) ?_
  refine lv_iload hx hb dX10_evening_83 (lv_at hl 3 rfl) ?_
  refine lv_icmp_ge (tgt := 193) hx hb dX10_evening_85 (by decide) (fun c18 => ?_) (fun c18 => ?_)
  · have hf := ifp c18 hf
    obtain ⟨q6, hfq6, eq6⟩ := out1_some hf
    subst eq6
    have hf := hfq6
    have hq := hq.2 _ rfl
    exact wX10_evening_193 C hk hf hq H locs ls hw hS (lv_sub hl [0, 1, 2, 3, 4, 5] rfl)
  · have hf := ifn c18 hf
    refine lv_iload hx hb dX10_evening_88 (lv_at hl 4 rfl) ?_
    refine lv_iconst (v := (-1)) hx hb dX10_evening_90 (by decide) ?_
    refine lv_icmp_ne (tgt := 193) hx hb dX10_evening_91 (by decide) (fun c17 => ?_) (fun c17 => ?_)
    · have hf := ifn c17 hf
      obtain ⟨q7, hfq7, eq7⟩ := out1_some hf
      subst eq7
      have hf := hfq7
      have hq := hq.2 _ rfl
      exact wX10_evening_193 C hk hf hq H locs ls hw hS (lv_sub hl [0, 1, 2, 3, 4, 5] rfl)
    · have hf := ifp c17 hf
      refine lv_aload_n hx hb dX10_evening_94 rfl (lv_at hl 0 rfl) ?_
      refine va_get (ci := 10) (v := .ref (aa Γ o 40)) (C := RX10) (T := TX10) (N := 49) hx hb htw uwX10 hown hE.1 (wo_me hw hk) 0 rfl rfl 40 (by decide) (htw _ mw1283) (fun _ h9 => h9) rfl dX10_evening_95 ?_
      refine lv_iload hx hb dX10_evening_98 (lv_at hl 7 rfl) ?_
      obtain ⟨g8, hf⟩ := gd_some hf
      refine va_iald hx hb hE.1 (wo_me hw hk) 19 0 rfl rfl (inR_in g8) dX10_evening_100 ?_
      refine lv_aload_n hx hb dX10_evening_101 rfl (lv_at hl 0 rfl) ?_
      refine lv_bipush (v := 37) hx hb dX10_evening_102 (by decide) ?_
      refine lv_iload hx hb dX10_evening_104 (lv_at hl 5 rfl) ?_
      refine lv_iadd hx hb dX10_evening_106 ?_
      obtain ⟨z9, hz9, hf⟩ := bd hf
      refine cl_Vs (rest := [.int (ga r 40 (Int32.toNatClampNeg v8))]) (kX10_of (l := l) (Γ := Γ) (A := A) (G := G) (o := o) hk hz9) ⟨hx, hb, hml, hown, htw⟩ hE hw hS (wo_me hw hk) (q0 := 0) rfl rfl mw1541 mw1543 mw66 mw129 mw1544 pdX10_of ⟨Nat.le_of_ble_eq_true rfl, Nat.le_of_ble_eq_true rfl⟩ rfl rfl hl.1 (Nat.le_of_ble_eq_true rfl) dX10_evening_107 (fun H locs hw hS => ?_)
      refine lv_iadd hx hb dX10_evening_110 ?_
      refine lv_iload_n hx hb dX10_evening_111 rfl (lv_at hl 1 rfl) ?_
      refine lv_icmp_gt (tgt := 187) hx hb dX10_evening_112 (by decide) (fun c16 => ?_) (fun c16 => ?_)
      · have hf := ifp c16 hf
        exact wX10_evening_187 C hk hf hq H locs ls hw hS hl
      · have hf := ifn c16 hf
        refine lv_aload_n hx hb dX10_evening_115 rfl (lv_at hl 0 rfl) ?_
        refine va_get (ci := 10) (v := .ref (aa Γ o 40)) (C := RX10) (T := TX10) (N := 49) hx hb htw uwX10 hown hE.1 (wo_me hw hk) 0 rfl rfl 40 (by decide) (htw _ mw1283) (fun _ h9 => h9) rfl dX10_evening_116 ?_
        refine lv_iload hx hb dX10_evening_119 (lv_at hl 7 rfl) ?_
        refine lv_dup2_11 hx hb dX10_evening_121 rfl rfl ?_
        obtain ⟨g10, hf⟩ := gd_some hf
        refine va_iald hx hb hE.1 (wo_me hw hk) 19 0 rfl rfl (inR_in g10) dX10_evening_122 ?_
        refine lv_aload_n hx hb dX10_evening_123 rfl (lv_at hl 0 rfl) ?_
        refine lv_bipush (v := 37) hx hb dX10_evening_124 (by decide) ?_
        refine lv_iload hx hb dX10_evening_126 (lv_at hl 5 rfl) ?_
        refine lv_iadd hx hb dX10_evening_128 ?_
        obtain ⟨z11, hz11, hf⟩ := bd hf
        refine cl_Vs (rest := [.int (ga r 40 (Int32.toNatClampNeg v8)), .int v8, .ref (aa Γ o 40)]) (kX10_of (l := l) (Γ := Γ) (A := A) (G := G) (o := o) hk hz11) ⟨hx, hb, hml, hown, htw⟩ hE hw hS (wo_me hw hk) (q0 := 0) rfl rfl mw1541 mw1543 mw66 mw129 mw1544 pdX10_of ⟨Nat.le_of_ble_eq_true rfl, Nat.le_of_ble_eq_true rfl⟩ rfl rfl hl.1 (Nat.le_of_ble_eq_true rfl) dX10_evening_129 (fun H locs hw hS => ?_)
        refine lv_iadd hx hb dX10_evening_132 ?_
        obtain ⟨g12, hf⟩ := gd_some hf
        obtain ⟨r13, hr13, hf⟩ := bd hf
        have hr13 := Option.some.inj hr13
        refine wo_iast hx hb hE hw hS hk (q0 := 19) rfl (inR_in g12) (sa10_40 hr13) dX10_evening_133 (fun H locs hw hS => ?_)
        refine lv_aload_n hx hb dX10_evening_134 rfl (lv_at hl 0 rfl) ?_
        refine lv_iload hx hb dX10_evening_135 (lv_at hl 6 rfl) ?_
        refine lv_iload_n hx hb dX10_evening_137 rfl (lv_at hl 1 rfl) ?_
        obtain ⟨z14, hz14, hf⟩ := bd hf
        refine cl_Vs (rest := []) (kX10_fill (l := l) (Γ := Γ) (A := A) (G := G) (o := o) hk hz14) ⟨hx, hb, hml, hown, htw⟩ hE hw hS (wo_me hw hk) (q0 := 0) rfl rfl mw1743 mw1745 mw104 mw129 mw1746 pdX10_fill ⟨Nat.le_of_ble_eq_true rfl, Nat.le_of_ble_eq_true rfl⟩ rfl rfl hl.1 (Nat.le_of_ble_eq_true rfl) dX10_evening_138 (fun H locs hw hS => ?_)
        refine lv_bipush (v := 100) hx hb dX10_evening_141 (by decide) ?_
        refine lv_idiv hx hb dX10_evening_143 (by decide) ?_
        refine lv_iload hx hb dX10_evening_144 (lv_at hl 3 rfl) ?_
        refine lv_icmp_ge (tgt := 154) hx hb dX10_evening_146 (by decide) (fun c15 => ?_) (fun c15 => ?_)
        · have hf := ifp c15 hf
          refine lv_iload hx hb dX10_evening_154 (lv_at hl 4 rfl) ?_
          exact wX10_evening_156 C hk hf hq H locs ls hw hS (lv_sub hl [0, 1, 2, 3, 5, 6, 7] rfl)
        · have hf := ifn c15 hf
          refine lv_iload hx hb dX10_evening_149 (lv_at hl 7 rfl) ?_
          refine lv_goto (tgt := 156) hx hb dX10_evening_151 (by decide) ?_
          exact wX10_evening_156 C hk hf hq H locs ls hw hS (lv_sub hl [0, 1, 2, 3, 5, 6, 7] rfl)

set_option maxRecDepth 100000 in
set_option maxHeartbeats 4000000 in
theorem lwX10_evening_81 {p : Program} {l : Launch} {e : Env} {s : State} {m : MethodId} {args : Array Value} {below : List Frame} {meth : Method} {c : Code} {Γ : Gm} {A : Nat → Prop} {G : Gs} {o : Nat} {r : Rec} {v2 : Int32} {v3 : Int32} {v4 : Int32} {v5 : Int32} {v6 : Int32} {v7 : Int32} {v8 : Int32} {q : ((Int32 × Int32 × Rec) ⊕ (Rec × Int32))} {fin : Rec × Int32} (C : Cx p s m args meth c yX10_evening cX10_evening 9 (some .int) Γ A) (hk : kd Γ o = some 10) (hf : iter (fun st : Int32 × Int32 × Rec => bX10_evening_81 st.2.2 v2 v3 v4 st.1 v6 v7 st.2.1) (v5, v8, r) = some q) (hq : (KC (fun st : Int32 × Int32 × Rec => Wk p l e { frames := 3, cells := 0, slots := 0, locals := 70 } s m args below meth c Γ A (ug G o fin.1) (some (.int fin.2)) 46 9 [(0, .ref (ad Γ o)), (2, .int v2), (3, .int v3), (4, .int v4), (5, .int st.1), (6, .int st.2.1)] [] (ug G o st.2.2)) (fun x => x = fin)) q) : Wk p l e { frames := 3, cells := 0, slots := 0, locals := 70 } s m args below meth c Γ A (ug G o fin.1) (some (.int fin.2)) 81 9 [(0, .ref (ad Γ o)), (2, .int v2), (3, .int v3), (4, .int v4), (5, .int v5), (6, .int v6), (7, .int v7), (8, .int v8)] [] (ug G o r) := by
  intro H locs ls hw hS hl
  refine iter_walk (P := (fun st : Int32 × Int32 × Rec => Wk p l e { frames := 3, cells := 0, slots := 0, locals := 70 } s m args below meth c Γ A (ug G o fin.1) (some (.int fin.2)) 81 9 [(0, .ref (ad Γ o)), (2, .int v2), (3, .int v3), (4, .int v4), (5, .int st.1), (6, .int v6), (7, .int v7), (8, .int st.2.1)] [] (ug G o st.2.2))) (K := (KC (fun st : Int32 × Int32 × Rec => Wk p l e { frames := 3, cells := 0, slots := 0, locals := 70 } s m args below meth c Γ A (ug G o fin.1) (some (.int fin.2)) 46 9 [(0, .ref (ad Γ o)), (2, .int v2), (3, .int v3), (4, .int v4), (5, .int st.1), (6, .int st.2.1)] [] (ug G o st.2.2)) (fun x => x = fin))) (fun st q hq1 h1 h2 => ?_) hf hq H locs ls hw hS hl
  exact wX10_evening_81 (r := st.2.2) (v5 := st.1) (v8 := st.2.1) C hk hq1 ⟨h1, h2⟩

noncomputable def bX10_evening_46 (r : Rec) (v2 : Int32) (v3 : Int32) (v4 : Int32) (v5 : Int32) (v6 : Int32) : Option ((Int32 × Int32 × Rec) ⊕ (Rec × Int32)) :=
  if v3 < v6 then some (.inr ((r, v5))) else if v4 = (-1) then some (.inr ((r, v5))) else (fX10_everything r).bind fun z19 => (some (z19 &&& ((((1 : Int32) <<< ((v6 + 1) &&& 31)) - 1) ^^^ (-1)))).bind fun x20 => iter (fun st : Int32 × Int32 × Rec => bX10_evening_81 st.2.2 v2 v3 v4 st.1 v6 x20 st.2.1) ((-1), 0, r)
set_option maxRecDepth 100000 in
set_option maxHeartbeats 4000000 in
theorem wX10_evening_46 {p : Program} {l : Launch} {e : Env} {s : State} {m : MethodId} {args : Array Value} {below : List Frame} {meth : Method} {c : Code} {Γ : Gm} {A : Nat → Prop} {G : Gs} {o : Nat} {r : Rec} {v2 : Int32} {v3 : Int32} {v4 : Int32} {v5 : Int32} {v6 : Int32} {q : ((Int32 × Int32 × Rec) ⊕ (Rec × Int32))} {fin : Rec × Int32} (C : Cx p s m args meth c yX10_evening cX10_evening 9 (some .int) Γ A) (hk : kd Γ o = some 10) (hf : bX10_evening_46 r v2 v3 v4 v5 v6 = some q) (hq : (KC (fun st : Int32 × Int32 × Rec => Wk p l e { frames := 3, cells := 0, slots := 0, locals := 70 } s m args below meth c Γ A (ug G o fin.1) (some (.int fin.2)) 46 9 [(0, .ref (ad Γ o)), (2, .int v2), (3, .int v3), (4, .int v4), (5, .int st.1), (6, .int st.2.1)] [] (ug G o st.2.2)) (fun x => x = fin)) q) : Wk p l e { frames := 3, cells := 0, slots := 0, locals := 70 } s m args below meth c Γ A (ug G o fin.1) (some (.int fin.2)) 46 9 [(0, .ref (ad Γ o)), (2, .int v2), (3, .int v3), (4, .int v4), (5, .int v5), (6, .int v6)] [] (ug G o r) := by
  intro H locs ls hw hS hl
  unfold bX10_evening_46 at hf
  obtain ⟨hx, hb, hml, hr, hown, htw, hlocks, hE⟩ := id C
  have hown : s.vm.findClass RX10 = some m.cls := hown
  refine lv_iload hx hb dX10_evening_46 (lv_at hl 5 rfl) ?_
  refine lv_iload_n hx hb dX10_evening_48 rfl (lv_at hl 2 rfl) ?_
  refine lv_icmp_gt (tgt := 199) hx hb dX10_evening_49 (by decide) (fun c22 => ?_) (fun c22 => ?_)
  · have hf := ifp c22 hf
    refine lv_iload hx hb dX10_evening_199 (lv_at hl 4 rfl) ?_
    obtain rfl := Option.some.inj hf
    have hq := hq.2 _ rfl
    subst hq
    exact rt_i C hw hS dX10_evening_201
  · have hf := ifn c22 hf
    refine lv_iload hx hb dX10_evening_52 (lv_at hl 3 rfl) ?_
    refine lv_iconst (v := (-1)) hx hb dX10_evening_54 (by decide) ?_
    refine lv_icmp_eq (tgt := 199) hx hb dX10_evening_55 (by decide) (fun c21 => ?_) (fun c21 => ?_)
    · have hf := ifp c21 hf
      refine lv_iload hx hb dX10_evening_199 (lv_at hl 4 rfl) ?_
      obtain rfl := Option.some.inj hf
      have hq := hq.2 _ rfl
      subst hq
      exact rt_i C hw hS dX10_evening_201
    · have hf := ifn c21 hf
      refine lv_iconst (v := (-1)) hx hb dX10_evening_58 (by decide) ?_
      refine lv_istore (lv' := [(5, .int (-1)), (0, .ref (ad Γ o)), (2, .int v2), (3, .int v3), (4, .int v4), (6, .int v6)]) hx hb dX10_evening_59 hl (by decide) rfl (fun ls hl => ?_)
      refine lv_aload_n hx hb dX10_evening_61 rfl (lv_at hl 1 rfl) ?_
      obtain ⟨z19, hz19, hf⟩ := bd hf
      refine cl_Vs (rest := []) (kX10_everything (l := l) (Γ := Γ) (A := A) (G := G) (o := o) hk hz19) ⟨hx, hb, hml, hown, htw⟩ hE hw hS (wo_me hw hk) (q0 := 0) rfl rfl mw1692 mw1694 mw95 mw129 mw1695 pdX10_everything ⟨Nat.le_of_ble_eq_true rfl, Nat.le_of_ble_eq_true rfl⟩ rfl rfl hl.1 (Nat.le_of_ble_eq_true rfl) dX10_evening_62 (fun H locs hw hS => ?_)
      refine lv_iconst (v := 1) hx hb dX10_evening_65 (by decide) ?_
      refine lv_iload hx hb dX10_evening_66 (lv_at hl 5 rfl) ?_
      refine lv_iconst (v := 1) hx hb dX10_evening_68 (by decide) ?_
      refine lv_iadd hx hb dX10_evening_69 ?_
      refine lv_ishl hx hb dX10_evening_70 ?_
      refine lv_iconst (v := 1) hx hb dX10_evening_71 (by decide) ?_
      refine lv_isub hx hb dX10_evening_72 ?_
      refine lv_iconst (v := (-1)) hx hb dX10_evening_73 (by decide) ?_
      refine lv_ixor hx hb dX10_evening_74 ?_
      refine lv_iand hx hb dX10_evening_75 ?_
      obtain ⟨x20, hx20, hf⟩ := bd hf
      have hx20 := Option.some.inj hx20
      refine tp1i hx20 ?_
      refine lv_istore (lv' := [(7, .int x20), (5, .int (-1)), (0, .ref (ad Γ o)), (2, .int v2), (3, .int v3), (4, .int v4), (6, .int v6)]) hx hb dX10_evening_76 hl (by decide) rfl (fun ls hl => ?_)
      refine lv_iconst (v := 0) hx hb dX10_evening_78 (by decide) ?_
      refine lv_istore (lv' := [(8, .int 0), (7, .int x20), (5, .int (-1)), (0, .ref (ad Γ o)), (2, .int v2), (3, .int v3), (4, .int v4), (6, .int v6)]) hx hb dX10_evening_79 hl (by decide) rfl (fun ls hl => ?_)
      exact lwX10_evening_81 C hk hf hq H locs ls hw hS (lv_sub hl [3, 4, 5, 6, 2, 7, 1, 0] rfl)

set_option maxRecDepth 100000 in
set_option maxHeartbeats 4000000 in
theorem lwX10_evening_46 {p : Program} {l : Launch} {e : Env} {s : State} {m : MethodId} {args : Array Value} {below : List Frame} {meth : Method} {c : Code} {Γ : Gm} {A : Nat → Prop} {G : Gs} {o : Nat} {r : Rec} {v2 : Int32} {v3 : Int32} {v4 : Int32} {v5 : Int32} {v6 : Int32} {q : (Rec × Int32)} {fin : Rec × Int32} (C : Cx p s m args meth c yX10_evening cX10_evening 9 (some .int) Γ A) (hk : kd Γ o = some 10) (hf : iter (fun st : Int32 × Int32 × Rec => bX10_evening_46 st.2.2 v2 v3 v4 st.1 st.2.1) (v5, v6, r) = some q) (hq : (fun x => x = fin) q) : Wk p l e { frames := 3, cells := 0, slots := 0, locals := 70 } s m args below meth c Γ A (ug G o fin.1) (some (.int fin.2)) 46 9 [(0, .ref (ad Γ o)), (2, .int v2), (3, .int v3), (4, .int v4), (5, .int v5), (6, .int v6)] [] (ug G o r) := by
  intro H locs ls hw hS hl
  refine iter_walk (P := (fun st : Int32 × Int32 × Rec => Wk p l e { frames := 3, cells := 0, slots := 0, locals := 70 } s m args below meth c Γ A (ug G o fin.1) (some (.int fin.2)) 46 9 [(0, .ref (ad Γ o)), (2, .int v2), (3, .int v3), (4, .int v4), (5, .int st.1), (6, .int st.2.1)] [] (ug G o st.2.2))) (K := (fun x => x = fin)) (fun st q hq1 h1 h2 => ?_) hf hq H locs ls hw hS hl
  exact wX10_evening_46 (r := st.2.2) (v5 := st.1) (v6 := st.2.1) C hk hq1 ⟨h1, h2⟩

noncomputable def fX10_evening (r : Rec) (v1 : Int32) (v2 : Int32) (v3 : Int32) : Option (Rec × Int32) :=
  (some (si r 0 0)).bind fun r23 => (fX10_in v2 1 99).bind fun z24 => if z24 = 0 then some ((r23, (-1))) else (fX10_hand r23 v1).bind fun z25 => if z25.2 = 0 then some ((z25.1, (-1))) else (fX10_isSecret z25.1 v3).bind fun z26 => if z26 = 0 then some ((z25.1, (-1))) else (fX10_fewest z25.1 v2).bind fun z27 => iter (fun st : Int32 × Int32 × Rec => bX10_evening_46 st.2.2 v2 v3 z27.2 st.1 st.2.1) ((-1), 0, z27.1)
set_option maxRecDepth 100000 in
set_option maxHeartbeats 4000000 in
theorem wX10_evening_e {p : Program} {l : Launch} {e : Env} {s : State} {m : MethodId} {args : Array Value} {below : List Frame} {meth : Method} {c : Code} {Γ : Gm} {A : Nat → Prop} {G : Gs} {o : Nat} {r : Rec} {v1 : Int32} {v2 : Int32} {v3 : Int32} {q : (Rec × Int32)} {fin : Rec × Int32} (C : Cx p s m args meth c yX10_evening cX10_evening 9 (some .int) Γ A) (hk : kd Γ o = some 10) (hf : fX10_evening r v1 v2 v3 = some q) (hq : (fun x => x = fin) q) : Wk p l e { frames := 3, cells := 0, slots := 0, locals := 70 } s m args below meth c Γ A (ug G o fin.1) (some (.int fin.2)) 0 9 [(0, .ref (ad Γ o)), (1, .int v1), (2, .int v2), (3, .int v3)] [] (ug G o r) := by
  intro H locs ls hw hS hl
  unfold fX10_evening at hf
  obtain ⟨hx, hb, hml, hr, hown, htw, hlocks, hE⟩ := id C
  have hown : s.vm.findClass RX10 = some m.cls := hown
  refine lv_aload_n hx hb dX10_evening_0 rfl (lv_at hl 0 rfl) ?_
  refine lv_iconst (v := 0) hx hb dX10_evening_1 (by decide) ?_
  obtain ⟨r23, hr23, hf⟩ := bd hf
  have hr23 := Option.some.inj hr23
  refine wo_put (C := RX10) (T := TX10) (N := 49) (v := .int 0) (ty := .int) hx hb htw uwX10 tyX10 tyX10_ok nmX10 hown hE hw hS hk rfl rfl 0 (by decide) (htw _ mw1243) (fun _ h9 => h9) rfl (tyX10_ok 0 (by decide)) rfl rfl (Nat.le_of_ble_eq_true rfl) (st10_0 hr23) dX10_evening_2 (fun H locs hw hS => ?_)
  refine lv_iload_n hx hb dX10_evening_5 rfl (lv_at hl 2 rfl) ?_
  refine lv_iconst (v := 1) hx hb dX10_evening_6 (by decide) ?_
  refine lv_bipush (v := 99) hx hb dX10_evening_7 (by decide) ?_
  obtain ⟨z24, hz24, hf⟩ := bd hf
  refine cl_Ss (rest := []) (kX10_in (l := l) (Γ := Γ) (A := A) (G := (ug G o r23)) hz24) ⟨hx, hb, hml, hown, htw⟩ hE hw hS mw1404 mw1405 mw129 mw1406 pdX10_in ⟨Nat.le_of_ble_eq_true rfl, Nat.le_of_ble_eq_true rfl⟩ rfl rfl hl.1 (Nat.le_of_ble_eq_true rfl) dX10_evening_9 (fun H locs hw hS => ?_)
  refine lv_if_eq (tgt := 31) hx hb dX10_evening_12 (by decide) (fun c30 => ?_) (fun c30 => ?_)
  · have hf := ifp c30 hf
    refine lv_iconst (v := (-1)) hx hb dX10_evening_31 (by decide) ?_
    obtain rfl := Option.some.inj hf
    subst hq
    exact rt_i C hw hS dX10_evening_32
  · have hf := ifn c30 hf
    refine lv_aload_n hx hb dX10_evening_15 rfl (lv_at hl 0 rfl) ?_
    refine lv_iload_n hx hb dX10_evening_16 rfl (lv_at hl 1 rfl) ?_
    obtain ⟨z25, hz25, hf⟩ := bd hf
    refine cl_Vs (rest := []) (kX10_hand (l := l) (Γ := Γ) (A := A) (G := G) (o := o) hk hz25) ⟨hx, hb, hml, hown, htw⟩ hE hw hS (wo_me hw hk) (q0 := 0) rfl rfl mw1537 mw1539 mw65 mw129 mw1540 pdX10_hand ⟨Nat.le_of_ble_eq_true rfl, Nat.le_of_ble_eq_true rfl⟩ rfl rfl hl.1 (Nat.le_of_ble_eq_true rfl) dX10_evening_17 (fun H locs hw hS => ?_)
    refine lv_if_eq (tgt := 31) hx hb dX10_evening_20 (by decide) (fun c29 => ?_) (fun c29 => ?_)
    · have hf := ifp c29 hf
      refine lv_iconst (v := (-1)) hx hb dX10_evening_31 (by decide) ?_
      obtain rfl := Option.some.inj hf
      subst hq
      exact rt_i C hw hS dX10_evening_32
    · have hf := ifn c29 hf
      refine lv_aload_n hx hb dX10_evening_23 rfl (lv_at hl 0 rfl) ?_
      refine lv_iload_n hx hb dX10_evening_24 rfl (lv_at hl 3 rfl) ?_
      obtain ⟨z26, hz26, hf⟩ := bd hf
      refine cl_Vs (rest := []) (kX10_isSecret (l := l) (Γ := Γ) (A := A) (G := G) (o := o) hk hz26) ⟨hx, hb, hml, hown, htw⟩ hE hw hS (wo_me hw hk) (q0 := 0) rfl rfl mw1549 mw1551 mw67 mw129 mw1552 pdX10_isSecret ⟨Nat.le_of_ble_eq_true rfl, Nat.le_of_ble_eq_true rfl⟩ rfl rfl hl.1 (Nat.le_of_ble_eq_true rfl) dX10_evening_25 (fun H locs hw hS => ?_)
      refine lv_if_ne (tgt := 33) hx hb dX10_evening_28 (by decide) (fun c28 => ?_) (fun c28 => ?_)
      · have hf := ifn c28 hf
        refine lv_aload_n hx hb dX10_evening_33 rfl (lv_at hl 0 rfl) ?_
        refine lv_iload_n hx hb dX10_evening_34 rfl (lv_at hl 2 rfl) ?_
        obtain ⟨z27, hz27, hf⟩ := bd hf
        refine cl_Vs (rest := []) (kX10_fewest (l := l) (Γ := Γ) (A := A) (G := G) (o := o) hk hz27) ⟨hx, hb, hml, hown, htw⟩ hE hw hS (wo_me hw hk) (q0 := 0) rfl rfl mw1739 mw1741 mw103 mw129 mw1742 pdX10_fewest ⟨Nat.le_of_ble_eq_true rfl, Nat.le_of_ble_eq_true rfl⟩ rfl rfl hl.1 (Nat.le_of_ble_eq_true rfl) dX10_evening_35 (fun H locs hw hS => ?_)
        refine lv_istore (lv' := [(4, .int z27.2), (0, .ref (ad Γ o)), (1, .int v1), (2, .int v2), (3, .int v3)]) hx hb dX10_evening_38 hl (by decide) rfl (fun ls hl => ?_)
        refine lv_iconst (v := (-1)) hx hb dX10_evening_40 (by decide) ?_
        refine lv_istore (lv' := [(5, .int (-1)), (4, .int z27.2), (0, .ref (ad Γ o)), (1, .int v1), (2, .int v2), (3, .int v3)]) hx hb dX10_evening_41 hl (by decide) rfl (fun ls hl => ?_)
        refine lv_iconst (v := 0) hx hb dX10_evening_43 (by decide) ?_
        refine lv_istore (lv' := [(6, .int 0), (5, .int (-1)), (4, .int z27.2), (0, .ref (ad Γ o)), (1, .int v1), (2, .int v2), (3, .int v3)]) hx hb dX10_evening_44 hl (by decide) rfl (fun ls hl => ?_)
        exact lwX10_evening_46 C hk hf hq H locs ls hw hS (lv_sub hl [3, 5, 6, 2, 1, 0] rfl)
      · have hf := ifp c28 hf
        refine lv_iconst (v := (-1)) hx hb dX10_evening_31 (by decide) ?_
        obtain rfl := Option.some.inj hf
        subst hq
        exact rt_i C hw hS dX10_evening_32

theorem kX10_evening {l : Launch} {Γ : Gm} {A : Nat → Prop} {G : Gs} {o : Nat} {r : Rec} {v1 : Int32} {v2 : Int32} {v3 : Int32} {fin : Rec × Int32} (hk : kd Γ o = some 10) (hf : fX10_evening r v1 v2 v3 = some fin) : Kt l yX10_evening cX10_evening 9 (some .int) 3 70 Γ A (ug G o r) (ug G o fin.1) [.ref (ad Γ o), .int v1, .int v2, .int v3] (some (.int fin.2)) :=
  kt_of (by decide) (Nat.le_of_ble_eq_true rfl) (fun p e s m args below meth c C => wX10_evening_e C hk hf rfl)
theorem kgX10_evening {l : Launch} {Γ : Gm} {A : Nat → Prop} {G : Gs} {o : Nat} {v1 : Int32} {v2 : Int32} {v3 : Int32} {fin : Rec × Int32} (hk : kd Γ o = some 10) (hf : fX10_evening (G o) v1 v2 v3 = some fin) : Kt l yX10_evening cX10_evening 9 (some .int) 3 70 Γ A G (ug G o fin.1) [.ref (ad Γ o), .int v1, .int v2, .int v3] (some (.int fin.2)) := by
  have h := kX10_evening (l := l) (A := A) (G := G) (r := G o) hk hf
  rw [ug_self] at h
  exact h
noncomputable def bX10_leaks_85 (r : Rec) (v3 : Int32) (v4 : Int64) (v6 : Int64) : Option (Rec × Int64) :=
  (fX10_part v4 v6 v3).bind fun z1 => some ((r, z1))
set_option maxRecDepth 100000 in
set_option maxHeartbeats 4000000 in
theorem wX10_leaks_85 {p : Program} {l : Launch} {e : Env} {s : State} {m : MethodId} {args : Array Value} {below : List Frame} {meth : Method} {c : Code} {Γ : Gm} {A : Nat → Prop} {G : Gs} {o : Nat} {r : Rec} {v3 : Int32} {v4 : Int64} {v6 : Int64} {q : (Rec × Int64)} {fin : Rec × Int64} (C : Cx p s m args meth c yX10_leaks cX10_leaks 9 (some .long) Γ A) (hk : kd Γ o = some 10) (hf : bX10_leaks_85 r v3 v4 v6 = some q) (hq : (fun x => x = fin) q) : Wk p l e { frames := 5, cells := 0, slots := 0, locals := 113 } s m args below meth c Γ A (ug G o fin.1) (some (.long fin.2)) 85 9 [(3, .int v3), (4, .long v4), (6, .long v6)] [] (ug G o r) := by
  intro H locs ls hw hS hl
  unfold bX10_leaks_85 at hf
  obtain ⟨hx, hb, hml, hr, hown, htw, hlocks, hE⟩ := id C
  have hown : s.vm.findClass RX10 = some m.cls := hown
  refine lv_lload hx hb dX10_leaks_85 (lv_at hl 1 rfl) ?_
  refine lv_lload hx hb dX10_leaks_87 (lv_at hl 2 rfl) ?_
  refine lv_iload_n hx hb dX10_leaks_89 rfl (lv_at hl 0 rfl) ?_
  obtain ⟨z1, hz1, hf⟩ := bd hf
  refine cl_Ss (rest := []) (kX10_part (l := l) (Γ := Γ) (A := A) (G := (ug G o r)) hz1) ⟨hx, hb, hml, hown, htw⟩ hE hw hS mw1752 mw1753 mw129 mw1754 pdX10_part ⟨Nat.le_of_ble_eq_true rfl, Nat.le_of_ble_eq_true rfl⟩ rfl rfl hl.1 (Nat.le_of_ble_eq_true rfl) dX10_leaks_90 (fun H locs hw hS => ?_)
  obtain rfl := Option.some.inj hf
  subst hq
  exact rt_l C hw hS dX10_leaks_93

noncomputable def bX10_leaks_79 (r : Rec) (v2 : Int32) (v3 : Int32) (v4 : Int64) (v6 : Int64) (v8 : Int32) : Option ((Int64 × Int64 × Int32) ⊕ (Rec × Int64)) :=
  some (.inl (v4, v6, v8 + 1))
set_option maxRecDepth 100000 in
set_option maxHeartbeats 4000000 in
theorem wX10_leaks_79 {p : Program} {l : Launch} {e : Env} {s : State} {m : MethodId} {args : Array Value} {below : List Frame} {meth : Method} {c : Code} {Γ : Gm} {A : Nat → Prop} {G : Gs} {o : Nat} {r : Rec} {v2 : Int32} {v3 : Int32} {v4 : Int64} {v6 : Int64} {v8 : Int32} {q : ((Int64 × Int64 × Int32) ⊕ (Rec × Int64))} {fin : Rec × Int64} (C : Cx p s m args meth c yX10_leaks cX10_leaks 9 (some .long) Γ A) (hk : kd Γ o = some 10) (hf : bX10_leaks_79 r v2 v3 v4 v6 v8 = some q) (hq : (KC (fun st : Int64 × Int64 × Int32 => Wk p l e { frames := 5, cells := 0, slots := 0, locals := 113 } s m args below meth c Γ A (ug G o fin.1) (some (.long fin.2)) 38 9 [(0, .ref (ad Γ o)), (2, .int v2), (3, .int v3), (4, .long st.1), (6, .long st.2.1), (8, .int st.2.2)] [] (ug G o r)) (fun x => x = fin)) q) : Wk p l e { frames := 5, cells := 0, slots := 0, locals := 113 } s m args below meth c Γ A (ug G o fin.1) (some (.long fin.2)) 79 9 [(0, .ref (ad Γ o)), (2, .int v2), (3, .int v3), (4, .long v4), (6, .long v6), (8, .int v8)] [] (ug G o r) := by
  intro H locs ls hw hS hl
  unfold bX10_leaks_79 at hf
  obtain ⟨hx, hb, hml, hr, hown, htw, hlocks, hE⟩ := id C
  have hown : s.vm.findClass RX10 = some m.cls := hown
  refine lv_iinc (v := v8 + 1) (lv' := [(8, .int (v8 + 1)), (0, .ref (ad Γ o)), (2, .int v2), (3, .int v3), (4, .long v4), (6, .long v6)]) hx hb dX10_leaks_79 hl (k := 5) rfl (by rfl) (by decide) rfl (fun ls hl => ?_)
  refine lv_goto (tgt := 38) hx hb dX10_leaks_82 (by decide) ?_
  obtain rfl := Option.some.inj hf
  exact hq.1 _ rfl H locs ls hw hS (lv_sub hl [1, 2, 3, 4, 5, 0] rfl)

noncomputable def bX10_leaks_38 (r : Rec) (v2 : Int32) (v3 : Int32) (v4 : Int64) (v6 : Int64) (v8 : Int32) : Option ((Int64 × Int64 × Int32) ⊕ (Rec × Int64)) :=
  (fX10_everything r).bind fun z2 => if z2 < v8 then out1 (bX10_leaks_85 r v3 v4 v6) else (fX10_ones v8).bind fun z4 => if z4 = v2 then (fX10_comesOf r v8 (-1)).bind fun z5 => (fX10_weightOf r z5).bind fun z6 => (some (v4 + ((z6 : Int32).toInt64))).bind fun x7 => bX10_leaks_79 r v2 v3 x7 (v6 + 1) v8 else bX10_leaks_79 r v2 v3 v4 v6 v8
set_option maxRecDepth 100000 in
set_option maxHeartbeats 4000000 in
theorem wX10_leaks_38 {p : Program} {l : Launch} {e : Env} {s : State} {m : MethodId} {args : Array Value} {below : List Frame} {meth : Method} {c : Code} {Γ : Gm} {A : Nat → Prop} {G : Gs} {o : Nat} {r : Rec} {v2 : Int32} {v3 : Int32} {v4 : Int64} {v6 : Int64} {v8 : Int32} {q : ((Int64 × Int64 × Int32) ⊕ (Rec × Int64))} {fin : Rec × Int64} (C : Cx p s m args meth c yX10_leaks cX10_leaks 9 (some .long) Γ A) (hk : kd Γ o = some 10) (hf : bX10_leaks_38 r v2 v3 v4 v6 v8 = some q) (hq : (KC (fun st : Int64 × Int64 × Int32 => Wk p l e { frames := 5, cells := 0, slots := 0, locals := 113 } s m args below meth c Γ A (ug G o fin.1) (some (.long fin.2)) 38 9 [(0, .ref (ad Γ o)), (2, .int v2), (3, .int v3), (4, .long st.1), (6, .long st.2.1), (8, .int st.2.2)] [] (ug G o r)) (fun x => x = fin)) q) : Wk p l e { frames := 5, cells := 0, slots := 0, locals := 113 } s m args below meth c Γ A (ug G o fin.1) (some (.long fin.2)) 38 9 [(0, .ref (ad Γ o)), (2, .int v2), (3, .int v3), (4, .long v4), (6, .long v6), (8, .int v8)] [] (ug G o r) := by
  intro H locs ls hw hS hl
  unfold bX10_leaks_38 at hf
  obtain ⟨hx, hb, hml, hr, hown, htw, hlocks, hE⟩ := id C
  have hown : s.vm.findClass RX10 = some m.cls := hown
  refine lv_iload hx hb dX10_leaks_38 (lv_at hl 5 rfl) ?_
  refine lv_aload_n hx hb dX10_leaks_40 rfl (lv_at hl 0 rfl) ?_
  obtain ⟨z2, hz2, hf⟩ := bd hf
  refine cl_Vs (rest := [.int v8]) (kX10_everything (l := l) (Γ := Γ) (A := A) (G := G) (o := o) hk hz2) ⟨hx, hb, hml, hown, htw⟩ hE hw hS (wo_me hw hk) (q0 := 0) rfl rfl mw1692 mw1694 mw95 mw129 mw1695 pdX10_everything ⟨Nat.le_of_ble_eq_true rfl, Nat.le_of_ble_eq_true rfl⟩ rfl rfl hl.1 (Nat.le_of_ble_eq_true rfl) dX10_leaks_41 (fun H locs hw hS => ?_)
  refine lv_icmp_gt (tgt := 85) hx hb dX10_leaks_44 (by decide) (fun c9 => ?_) (fun c9 => ?_)
  · have hf := ifp c9 hf
    obtain ⟨q3, hfq3, eq3⟩ := out1_some hf
    subst eq3
    have hf := hfq3
    have hq := hq.2 _ rfl
    exact wX10_leaks_85 C hk hf hq H locs ls hw hS (lv_sub hl [2, 3, 4] rfl)
  · have hf := ifn c9 hf
    refine lv_iload hx hb dX10_leaks_47 (lv_at hl 5 rfl) ?_
    obtain ⟨z4, hz4, hf⟩ := bd hf
    refine cl_Ss (rest := []) (kX10_ones (l := l) (Γ := Γ) (A := A) (G := (ug G o r)) hz4) ⟨hx, hb, hml, hown, htw⟩ hE hw hS mw1716 mw1717 mw129 mw1718 pdX10_ones ⟨Nat.le_of_ble_eq_true rfl, Nat.le_of_ble_eq_true rfl⟩ rfl rfl hl.1 (Nat.le_of_ble_eq_true rfl) dX10_leaks_49 (fun H locs hw hS => ?_)
    refine lv_iload_n hx hb dX10_leaks_52 rfl (lv_at hl 1 rfl) ?_
    refine lv_icmp_ne (tgt := 79) hx hb dX10_leaks_53 (by decide) (fun c8 => ?_) (fun c8 => ?_)
    · have hf := ifn c8 hf
      exact wX10_leaks_79 C hk hf hq H locs ls hw hS hl
    · have hf := ifp c8 hf
      refine lv_lload hx hb dX10_leaks_56 (lv_at hl 4 rfl) ?_
      refine lv_lconst (v := 1) hx hb dX10_leaks_58 (by decide) ?_
      refine lv_ladd hx hb dX10_leaks_59 ?_
      refine lv_lstore (lv' := [(6, .long (v6 + 1)), (0, .ref (ad Γ o)), (2, .int v2), (3, .int v3), (4, .long v4), (8, .int v8)]) hx hb dX10_leaks_60 hl (by decide) rfl (fun ls hl => ?_)
      refine lv_lload hx hb dX10_leaks_62 (lv_at hl 4 rfl) ?_
      refine lv_aload_n hx hb dX10_leaks_64 rfl (lv_at hl 1 rfl) ?_
      refine lv_aload_n hx hb dX10_leaks_65 rfl (lv_at hl 1 rfl) ?_
      refine lv_iload hx hb dX10_leaks_66 (lv_at hl 5 rfl) ?_
      refine lv_iconst (v := (-1)) hx hb dX10_leaks_68 (by decide) ?_
      obtain ⟨z5, hz5, hf⟩ := bd hf
      refine cl_Vs (rest := [.ref (ad Γ o), .long v4]) (kX10_comesOf (l := l) (Γ := Γ) (A := A) (G := G) (o := o) hk hz5) ⟨hx, hb, hml, hown, htw⟩ hE hw hS (wo_me hw hk) (q0 := 0) rfl rfl mw1696 mw1698 mw96 mw129 mw1699 pdX10_comesOf ⟨Nat.le_of_ble_eq_true rfl, Nat.le_of_ble_eq_true rfl⟩ rfl rfl hl.1 (Nat.le_of_ble_eq_true rfl) dX10_leaks_69 (fun H locs hw hS => ?_)
      obtain ⟨z6, hz6, hf⟩ := bd hf
      refine cl_Vs (rest := [.long v4]) (kX10_weightOf (l := l) (Γ := Γ) (A := A) (G := G) (o := o) hk hz6) ⟨hx, hb, hml, hown, htw⟩ hE hw hS (wo_me hw hk) (q0 := 0) rfl rfl mw1727 mw1729 mw101 mw129 mw1730 pdX10_weightOf ⟨Nat.le_of_ble_eq_true rfl, Nat.le_of_ble_eq_true rfl⟩ rfl rfl hl.1 (Nat.le_of_ble_eq_true rfl) dX10_leaks_72 (fun H locs hw hS => ?_)
      refine lv_i2l (v := (z6 : Int32).toInt64) hx hb dX10_leaks_75 rfl ?_
      refine lv_ladd hx hb dX10_leaks_76 ?_
      obtain ⟨x7, hx7, hf⟩ := bd hf
      have hx7 := Option.some.inj hx7
      refine tp1l hx7 ?_
      refine lv_lstore (lv' := [(4, .long x7), (6, .long (v6 + 1)), (0, .ref (ad Γ o)), (2, .int v2), (3, .int v3), (8, .int v8)]) hx hb dX10_leaks_77 hl (by decide) rfl (fun ls hl => ?_)
      exact wX10_leaks_79 C hk hf hq H locs ls hw hS (lv_sub hl [2, 3, 4, 0, 1, 5] rfl)

set_option maxRecDepth 100000 in
set_option maxHeartbeats 4000000 in
theorem lwX10_leaks_38 {p : Program} {l : Launch} {e : Env} {s : State} {m : MethodId} {args : Array Value} {below : List Frame} {meth : Method} {c : Code} {Γ : Gm} {A : Nat → Prop} {G : Gs} {o : Nat} {r : Rec} {v2 : Int32} {v3 : Int32} {v4 : Int64} {v6 : Int64} {v8 : Int32} {q : (Rec × Int64)} {fin : Rec × Int64} (C : Cx p s m args meth c yX10_leaks cX10_leaks 9 (some .long) Γ A) (hk : kd Γ o = some 10) (hf : iter (fun st : Int64 × Int64 × Int32 => bX10_leaks_38 r v2 v3 st.1 st.2.1 st.2.2) (v4, v6, v8) = some q) (hq : (fun x => x = fin) q) : Wk p l e { frames := 5, cells := 0, slots := 0, locals := 113 } s m args below meth c Γ A (ug G o fin.1) (some (.long fin.2)) 38 9 [(0, .ref (ad Γ o)), (2, .int v2), (3, .int v3), (4, .long v4), (6, .long v6), (8, .int v8)] [] (ug G o r) := by
  intro H locs ls hw hS hl
  refine iter_walk (P := (fun st : Int64 × Int64 × Int32 => Wk p l e { frames := 5, cells := 0, slots := 0, locals := 113 } s m args below meth c Γ A (ug G o fin.1) (some (.long fin.2)) 38 9 [(0, .ref (ad Γ o)), (2, .int v2), (3, .int v3), (4, .long st.1), (6, .long st.2.1), (8, .int st.2.2)] [] (ug G o r))) (K := (fun x => x = fin)) (fun st q hq1 h1 h2 => ?_) hf hq H locs ls hw hS hl
  exact wX10_leaks_38 (v4 := st.1) (v6 := st.2.1) (v8 := st.2.2) C hk hq1 ⟨h1, h2⟩

noncomputable def fX10_leaks (r : Rec) (v1 : Int32) (v2 : Int32) (v3 : Int32) : Option (Rec × Int64) :=
  (some (si r 0 0)).bind fun r10 => (fX10_hand r10 v1).bind fun z11 => if z11.2 = 0 then some ((z11.1, (-1))) else (fX10_in v2 0 (gi z11.1 27)).bind fun z12 => if z12 = 0 then some ((z11.1, (-1))) else iter (fun st : Int64 × Int64 × Int32 => bX10_leaks_38 z11.1 v2 v3 st.1 st.2.1 st.2.2) (0, 0, 0)
set_option maxRecDepth 100000 in
set_option maxHeartbeats 4000000 in
theorem wX10_leaks_e {p : Program} {l : Launch} {e : Env} {s : State} {m : MethodId} {args : Array Value} {below : List Frame} {meth : Method} {c : Code} {Γ : Gm} {A : Nat → Prop} {G : Gs} {o : Nat} {r : Rec} {v1 : Int32} {v2 : Int32} {v3 : Int32} {q : (Rec × Int64)} {fin : Rec × Int64} (C : Cx p s m args meth c yX10_leaks cX10_leaks 9 (some .long) Γ A) (hk : kd Γ o = some 10) (hf : fX10_leaks r v1 v2 v3 = some q) (hq : (fun x => x = fin) q) : Wk p l e { frames := 5, cells := 0, slots := 0, locals := 113 } s m args below meth c Γ A (ug G o fin.1) (some (.long fin.2)) 0 9 [(0, .ref (ad Γ o)), (1, .int v1), (2, .int v2), (3, .int v3)] [] (ug G o r) := by
  intro H locs ls hw hS hl
  unfold fX10_leaks at hf
  obtain ⟨hx, hb, hml, hr, hown, htw, hlocks, hE⟩ := id C
  have hown : s.vm.findClass RX10 = some m.cls := hown
  refine lv_aload_n hx hb dX10_leaks_0 rfl (lv_at hl 0 rfl) ?_
  refine lv_iconst (v := 0) hx hb dX10_leaks_1 (by decide) ?_
  obtain ⟨r10, hr10, hf⟩ := bd hf
  have hr10 := Option.some.inj hr10
  refine wo_put (C := RX10) (T := TX10) (N := 49) (v := .int 0) (ty := .int) hx hb htw uwX10 tyX10 tyX10_ok nmX10 hown hE hw hS hk rfl rfl 0 (by decide) (htw _ mw1243) (fun _ h9 => h9) rfl (tyX10_ok 0 (by decide)) rfl rfl (Nat.le_of_ble_eq_true rfl) (st10_0 hr10) dX10_leaks_2 (fun H locs hw hS => ?_)
  refine lv_aload_n hx hb dX10_leaks_5 rfl (lv_at hl 0 rfl) ?_
  refine lv_iload_n hx hb dX10_leaks_6 rfl (lv_at hl 1 rfl) ?_
  obtain ⟨z11, hz11, hf⟩ := bd hf
  refine cl_Vs (rest := []) (kX10_hand (l := l) (Γ := Γ) (A := A) (G := G) (o := o) hk hz11) ⟨hx, hb, hml, hown, htw⟩ hE hw hS (wo_me hw hk) (q0 := 0) rfl rfl mw1537 mw1539 mw65 mw129 mw1540 pdX10_hand ⟨Nat.le_of_ble_eq_true rfl, Nat.le_of_ble_eq_true rfl⟩ rfl rfl hl.1 (Nat.le_of_ble_eq_true rfl) dX10_leaks_7 (fun H locs hw hS => ?_)
  refine lv_if_eq (tgt := 25) hx hb dX10_leaks_10 (by decide) (fun c14 => ?_) (fun c14 => ?_)
  · have hf := ifp c14 hf
    refine lv_ldc2 hx hb hown (htw _ mw1751) dX10_leaks_25 ?_
    obtain rfl := Option.some.inj hf
    subst hq
    exact rt_l C hw hS dX10_leaks_28
  · have hf := ifn c14 hf
    refine lv_iload_n hx hb dX10_leaks_13 rfl (lv_at hl 2 rfl) ?_
    refine lv_iconst (v := 0) hx hb dX10_leaks_14 (by decide) ?_
    refine lv_aload_n hx hb dX10_leaks_15 rfl (lv_at hl 0 rfl) ?_
    refine va_get (ci := 10) (v := .int (gi z11.1 27)) (C := RX10) (T := TX10) (N := 49) hx hb htw uwX10 hown hE.1 (wo_me hw hk) 0 rfl rfl 27 (by decide) (htw _ mw1270) (fun _ h9 => h9) rfl dX10_leaks_16 ?_
    obtain ⟨z12, hz12, hf⟩ := bd hf
    refine cl_Ss (rest := []) (kX10_in (l := l) (Γ := Γ) (A := A) (G := (ug G o z11.1)) hz12) ⟨hx, hb, hml, hown, htw⟩ hE hw hS mw1404 mw1405 mw129 mw1406 pdX10_in ⟨Nat.le_of_ble_eq_true rfl, Nat.le_of_ble_eq_true rfl⟩ rfl rfl hl.1 (Nat.le_of_ble_eq_true rfl) dX10_leaks_19 (fun H locs hw hS => ?_)
    refine lv_if_ne (tgt := 29) hx hb dX10_leaks_22 (by decide) (fun c13 => ?_) (fun c13 => ?_)
    · have hf := ifn c13 hf
      refine lv_lconst (v := 0) hx hb dX10_leaks_29 (by decide) ?_
      refine lv_lstore (lv' := [(4, .long 0), (0, .ref (ad Γ o)), (1, .int v1), (2, .int v2), (3, .int v3)]) hx hb dX10_leaks_30 hl (by decide) rfl (fun ls hl => ?_)
      refine lv_lconst (v := 0) hx hb dX10_leaks_32 (by decide) ?_
      refine lv_lstore (lv' := [(6, .long 0), (4, .long 0), (0, .ref (ad Γ o)), (1, .int v1), (2, .int v2), (3, .int v3)]) hx hb dX10_leaks_33 hl (by decide) rfl (fun ls hl => ?_)
      refine lv_iconst (v := 0) hx hb dX10_leaks_35 (by decide) ?_
      refine lv_istore (lv' := [(8, .int 0), (6, .long 0), (4, .long 0), (0, .ref (ad Γ o)), (1, .int v1), (2, .int v2), (3, .int v3)]) hx hb dX10_leaks_36 hl (by decide) rfl (fun ls hl => ?_)
      exact lwX10_leaks_38 C hk hf hq H locs ls hw hS (lv_sub hl [3, 5, 6, 2, 1, 0] rfl)
    · have hf := ifp c13 hf
      refine lv_ldc2 hx hb hown (htw _ mw1751) dX10_leaks_25 ?_
      obtain rfl := Option.some.inj hf
      subst hq
      exact rt_l C hw hS dX10_leaks_28

theorem kX10_leaks {l : Launch} {Γ : Gm} {A : Nat → Prop} {G : Gs} {o : Nat} {r : Rec} {v1 : Int32} {v2 : Int32} {v3 : Int32} {fin : Rec × Int64} (hk : kd Γ o = some 10) (hf : fX10_leaks r v1 v2 v3 = some fin) : Kt l yX10_leaks cX10_leaks 9 (some .long) 5 113 Γ A (ug G o r) (ug G o fin.1) [.ref (ad Γ o), .int v1, .int v2, .int v3] (some (.long fin.2)) :=
  kt_of (by decide) (Nat.le_of_ble_eq_true rfl) (fun p e s m args below meth c C => wX10_leaks_e C hk hf rfl)
theorem kgX10_leaks {l : Launch} {Γ : Gm} {A : Nat → Prop} {G : Gs} {o : Nat} {v1 : Int32} {v2 : Int32} {v3 : Int32} {fin : Rec × Int64} (hk : kd Γ o = some 10) (hf : fX10_leaks (G o) v1 v2 v3 = some fin) : Kt l yX10_leaks cX10_leaks 9 (some .long) 5 113 Γ A G (ug G o fin.1) [.ref (ad Γ o), .int v1, .int v2, .int v3] (some (.long fin.2)) := by
  have h := kX10_leaks (l := l) (A := A) (G := G) (r := G o) hk hf
  rw [ug_self] at h
  exact h
