noncomputable def bX6_toldAhead_158 (g : Gs) (v1 : Nat) (v2 : Nat) (v4 : Int32) (v5 : Int32) (v6 : Int32) (v7 : Int32) : Option ((Int32 × Int32 × Int32) ⊕ Int32) :=
  some (.inl (v5, v6, v7 + (-1)))
set_option maxRecDepth 100000 in
set_option maxHeartbeats 4000000 in
theorem wX6_toldAhead_158 {p : Program} {l : Launch} {e : Env} {s : State} {m : MethodId} {args : Array Value} {below : List Frame} {meth : Method} {c : Code} {Γ : Gm} {A : Nat → Prop} {g : Gs} {v1 : Nat} {v2 : Nat} {v4 : Int32} {v5 : Int32} {v6 : Int32} {v7 : Int32} {q : ((Int32 × Int32 × Int32) ⊕ Int32)} {fin : Int32} (C : Cx p s m args meth c yX6_toldAhead cX6_toldAhead 10 (some .int) Γ A) (hv1 : kd Γ v1 = some 2) (hv2 : kd Γ v2 = some 5) (hf : bX6_toldAhead_158 g v1 v2 v4 v5 v6 v7 = some q) (hq : (KC (fun st : Int32 × Int32 × Int32 => Wk p l e { frames := 2, cells := 0, slots := 0, locals := 45 } s m args below meth c Γ A g (some (.int fin)) 14 10 [(0, .ref (ad Γ 601)), (1, .ref (ad Γ v1)), (2, .ref (ad Γ v2)), (4, .int v4), (5, .int st.1), (6, .int st.2.1), (7, .int st.2.2)] [] g) (fun x => x = fin)) q) : Wk p l e { frames := 2, cells := 0, slots := 0, locals := 45 } s m args below meth c Γ A g (some (.int fin)) 158 10 [(0, .ref (ad Γ 601)), (1, .ref (ad Γ v1)), (2, .ref (ad Γ v2)), (4, .int v4), (5, .int v5), (6, .int v6), (7, .int v7)] [] g := by
  intro H locs ls hw hS hl
  unfold bX6_toldAhead_158 at hf
  obtain ⟨hx, hb, hml, hr, hown, htw, hlocks, hE⟩ := id C
  have hown : s.vm.findClass RX6 = some m.cls := hown
  refine lv_iinc (v := v7 + (-1)) (lv' := [(7, .int (v7 + (-1))), (0, .ref (ad Γ 601)), (1, .ref (ad Γ v1)), (2, .ref (ad Γ v2)), (4, .int v4), (5, .int v5), (6, .int v6)]) hx hb dX6_toldAhead_158 hl (k := 6) rfl (by rfl) (by decide) rfl (fun ls hl => ?_)
  refine lv_goto (tgt := 14) hx hb dX6_toldAhead_161 (by decide) ?_
  obtain rfl := Option.some.inj hf
  exact hq.1 _ rfl H locs ls hw hS (lv_sub hl [1, 2, 3, 4, 5, 6, 0] rfl)

noncomputable def bX6_toldAhead_152 (g : Gs) (v1 : Nat) (v2 : Nat) (v4 : Int32) (v5 : Int32) (v6 : Int32) (v7 : Int32) (v8 : Int32) : Option (Int32 ⊕ ((Int32 × Int32 × Int32) ⊕ Int32)) :=
  some (.inl (v8 + 1))
set_option maxRecDepth 100000 in
set_option maxHeartbeats 4000000 in
theorem wX6_toldAhead_152 {p : Program} {l : Launch} {e : Env} {s : State} {m : MethodId} {args : Array Value} {below : List Frame} {meth : Method} {c : Code} {Γ : Gm} {A : Nat → Prop} {g : Gs} {v1 : Nat} {v2 : Nat} {v4 : Int32} {v5 : Int32} {v6 : Int32} {v7 : Int32} {v8 : Int32} {q : (Int32 ⊕ ((Int32 × Int32 × Int32) ⊕ Int32))} {fin : Int32} (C : Cx p s m args meth c yX6_toldAhead cX6_toldAhead 10 (some .int) Γ A) (hv1 : kd Γ v1 = some 2) (hv2 : kd Γ v2 = some 5) (hf : bX6_toldAhead_152 g v1 v2 v4 v5 v6 v7 v8 = some q) (hq : (KC (fun st : Int32 => Wk p l e { frames := 2, cells := 0, slots := 0, locals := 45 } s m args below meth c Γ A g (some (.int fin)) 29 10 [(0, .ref (ad Γ 601)), (1, .ref (ad Γ v1)), (2, .ref (ad Γ v2)), (4, .int v4), (5, .int v5), (6, .int v6), (7, .int v7), (8, .int st)] [] g) (KC (fun st : Int32 × Int32 × Int32 => Wk p l e { frames := 2, cells := 0, slots := 0, locals := 45 } s m args below meth c Γ A g (some (.int fin)) 14 10 [(0, .ref (ad Γ 601)), (1, .ref (ad Γ v1)), (2, .ref (ad Γ v2)), (4, .int v4), (5, .int st.1), (6, .int st.2.1), (7, .int st.2.2)] [] g) (fun x => x = fin))) q) : Wk p l e { frames := 2, cells := 0, slots := 0, locals := 45 } s m args below meth c Γ A g (some (.int fin)) 152 10 [(0, .ref (ad Γ 601)), (1, .ref (ad Γ v1)), (2, .ref (ad Γ v2)), (4, .int v4), (5, .int v5), (6, .int v6), (7, .int v7), (8, .int v8)] [] g := by
  intro H locs ls hw hS hl
  unfold bX6_toldAhead_152 at hf
  obtain ⟨hx, hb, hml, hr, hown, htw, hlocks, hE⟩ := id C
  have hown : s.vm.findClass RX6 = some m.cls := hown
  refine lv_iinc (v := v8 + 1) (lv' := [(8, .int (v8 + 1)), (0, .ref (ad Γ 601)), (1, .ref (ad Γ v1)), (2, .ref (ad Γ v2)), (4, .int v4), (5, .int v5), (6, .int v6), (7, .int v7)]) hx hb dX6_toldAhead_152 hl (k := 7) rfl (by rfl) (by decide) rfl (fun ls hl => ?_)
  refine lv_goto (tgt := 29) hx hb dX6_toldAhead_155 (by decide) ?_
  obtain rfl := Option.some.inj hf
  exact hq.1 _ rfl H locs ls hw hS (lv_sub hl [1, 2, 3, 4, 5, 6, 7, 0] rfl)

noncomputable def bX6_toldAhead_117 (g : Gs) (v1 : Nat) (v2 : Nat) (v4 : Int32) (v5 : Int32) (v6 : Int32) (v7 : Int32) (v8 : Int32) (v9 : Int32) : Option ((Int32 × Int32 × Int32) ⊕ Int32) :=
  if v6 = v4 then some (.inr (v8)) else (some (v5 &&& (((1 : Int32) <<< (v8 &&& 31)) ^^^ (-1)))).bind fun x1 => (some (v6 + 1)).bind fun x2 => (some (mxi x2 v9)).bind fun x3 => bX6_toldAhead_158 g v1 v2 v4 x1 x3 v7
set_option maxRecDepth 100000 in
set_option maxHeartbeats 4000000 in
theorem wX6_toldAhead_117 {p : Program} {l : Launch} {e : Env} {s : State} {m : MethodId} {args : Array Value} {below : List Frame} {meth : Method} {c : Code} {Γ : Gm} {A : Nat → Prop} {g : Gs} {v1 : Nat} {v2 : Nat} {v4 : Int32} {v5 : Int32} {v6 : Int32} {v7 : Int32} {v8 : Int32} {v9 : Int32} {q : ((Int32 × Int32 × Int32) ⊕ Int32)} {fin : Int32} (C : Cx p s m args meth c yX6_toldAhead cX6_toldAhead 10 (some .int) Γ A) (hv1 : kd Γ v1 = some 2) (hv2 : kd Γ v2 = some 5) (hf : bX6_toldAhead_117 g v1 v2 v4 v5 v6 v7 v8 v9 = some q) (hq : (KC (fun st : Int32 × Int32 × Int32 => Wk p l e { frames := 2, cells := 0, slots := 0, locals := 45 } s m args below meth c Γ A g (some (.int fin)) 14 10 [(0, .ref (ad Γ 601)), (1, .ref (ad Γ v1)), (2, .ref (ad Γ v2)), (4, .int v4), (5, .int st.1), (6, .int st.2.1), (7, .int st.2.2)] [] g) (fun x => x = fin)) q) : Wk p l e { frames := 2, cells := 0, slots := 0, locals := 45 } s m args below meth c Γ A g (some (.int fin)) 117 10 [(0, .ref (ad Γ 601)), (1, .ref (ad Γ v1)), (2, .ref (ad Γ v2)), (4, .int v4), (5, .int v5), (6, .int v6), (7, .int v7), (8, .int v8), (9, .int v9)] [] g := by
  intro H locs ls hw hS hl
  unfold bX6_toldAhead_117 at hf
  obtain ⟨hx, hb, hml, hr, hown, htw, hlocks, hE⟩ := id C
  have hown : s.vm.findClass RX6 = some m.cls := hown
  refine lv_iload hx hb dX6_toldAhead_117 (lv_at hl 5 rfl) ?_
  refine lv_iload hx hb dX6_toldAhead_119 (lv_at hl 3 rfl) ?_
  refine lv_icmp_ne (tgt := 127) hx hb dX6_toldAhead_121 (by decide) (fun c4 => ?_) (fun c4 => ?_)
  · have hf := ifn c4 hf
    refine lv_iload hx hb dX6_toldAhead_127 (lv_at hl 4 rfl) ?_
    refine lv_iconst (v := 1) hx hb dX6_toldAhead_129 (by decide) ?_
    refine lv_iload hx hb dX6_toldAhead_130 (lv_at hl 7 rfl) ?_
    refine lv_ishl hx hb dX6_toldAhead_132 ?_
    refine lv_iconst (v := (-1)) hx hb dX6_toldAhead_133 (by decide) ?_
    refine lv_ixor hx hb dX6_toldAhead_134 ?_
    refine lv_iand hx hb dX6_toldAhead_135 ?_
    obtain ⟨x1, hx1, hf⟩ := bd hf
    have hx1 := Option.some.inj hx1
    refine tp1i hx1 ?_
    refine lv_istore (lv' := [(5, .int x1), (0, .ref (ad Γ 601)), (1, .ref (ad Γ v1)), (2, .ref (ad Γ v2)), (4, .int v4), (6, .int v6), (7, .int v7), (8, .int v8), (9, .int v9)]) hx hb dX6_toldAhead_136 hl (by decide) rfl (fun ls hl => ?_)
    refine lv_iload hx hb dX6_toldAhead_138 (lv_at hl 5 rfl) ?_
    refine lv_iconst (v := 1) hx hb dX6_toldAhead_140 (by decide) ?_
    refine lv_iadd hx hb dX6_toldAhead_141 ?_
    refine lv_iload hx hb dX6_toldAhead_142 (lv_at hl 8 rfl) ?_
    obtain ⟨x2, hx2, hf⟩ := bd hf
    have hx2 := Option.some.inj hx2
    refine tp2i hx2 ?_
    refine va_mmax hx hb (hml.trans hl.1.symm) hown (htw _ mw855) (htw _ mw225) (htw _ mw122) (htw _ mw226) (Nat.le_of_ble_eq_true rfl) (Nat.le_of_ble_eq_true rfl) (Nat.le_refl _) (Nat.le_refl _) dX6_toldAhead_144 ?_
    obtain ⟨x3, hx3, hf⟩ := bd hf
    have hx3 := Option.some.inj hx3
    refine tp1i hx3 ?_
    refine lv_istore (lv' := [(6, .int x3), (5, .int x1), (0, .ref (ad Γ 601)), (1, .ref (ad Γ v1)), (2, .ref (ad Γ v2)), (4, .int v4), (7, .int v7), (8, .int v8), (9, .int v9)]) hx hb dX6_toldAhead_147 hl (by decide) rfl (fun ls hl => ?_)
    refine lv_goto (tgt := 158) hx hb dX6_toldAhead_149 (by decide) ?_
    exact wX6_toldAhead_158 C hv1 hv2 hf hq H locs ls hw hS (lv_sub hl [2, 3, 4, 5, 1, 0, 6] rfl)
  · have hf := ifp c4 hf
    refine lv_iload hx hb dX6_toldAhead_124 (lv_at hl 7 rfl) ?_
    obtain rfl := Option.some.inj hf
    have hq := hq.2 _ rfl
    subst hq
    exact rt_i C hw hS dX6_toldAhead_126

noncomputable def bX6_toldAhead_29 (g : Gs) (v1 : Nat) (v2 : Nat) (v4 : Int32) (v5 : Int32) (v6 : Int32) (v7 : Int32) (v8 : Int32) : Option (Int32 ⊕ ((Int32 × Int32 × Int32) ⊕ Int32)) :=
  if (gi (g v1) 1) ≤ v8 then out1 (bX6_toldAhead_158 g v1 v2 v4 v5 v6 v7) else if (gi (g v2) 2) ≤ v6 then out1 (bX6_toldAhead_158 g v1 v2 v4 v5 v6 v7) else (fX9_hasBit v5 v8).bind fun z7 => if z7 = 0 then bX6_toldAhead_152 g v1 v2 v4 v5 v6 v7 v8 else gd (inR ((v8 * 8) + v6) 80) (if (ga (g 601) 0 (Int32.toNatClampNeg ((v8 * 8) + v6))) = v6 then bX6_toldAhead_152 g v1 v2 v4 v5 v6 v7 v8 else (fX2_secretSets (g v1)).bind fun z9 => (fX6_startOfRest g (v5 &&& (((1 : Int32) <<< (v8 &&& 31)) ^^^ (-1))) v7 z9).bind fun z10 => gd (inR ((v8 * 8) + v6) 80) (if (ga (g 601) 0 (Int32.toNatClampNeg ((v8 * 8) + v6))) < z10 then bX6_toldAhead_152 g v1 v2 v4 v5 v6 v7 v8 else out1 (bX6_toldAhead_117 g v1 v2 v4 v5 v6 v7 v8 z10)))
set_option maxRecDepth 100000 in
set_option maxHeartbeats 4000000 in
theorem wX6_toldAhead_29 {p : Program} {l : Launch} {e : Env} {s : State} {m : MethodId} {args : Array Value} {below : List Frame} {meth : Method} {c : Code} {Γ : Gm} {A : Nat → Prop} {g : Gs} {v1 : Nat} {v2 : Nat} {v4 : Int32} {v5 : Int32} {v6 : Int32} {v7 : Int32} {v8 : Int32} {q : (Int32 ⊕ ((Int32 × Int32 × Int32) ⊕ Int32))} {fin : Int32} (C : Cx p s m args meth c yX6_toldAhead cX6_toldAhead 10 (some .int) Γ A) (hv1 : kd Γ v1 = some 2) (hv2 : kd Γ v2 = some 5) (hf : bX6_toldAhead_29 g v1 v2 v4 v5 v6 v7 v8 = some q) (hq : (KC (fun st : Int32 => Wk p l e { frames := 2, cells := 0, slots := 0, locals := 45 } s m args below meth c Γ A g (some (.int fin)) 29 10 [(0, .ref (ad Γ 601)), (1, .ref (ad Γ v1)), (2, .ref (ad Γ v2)), (4, .int v4), (5, .int v5), (6, .int v6), (7, .int v7), (8, .int st)] [] g) (KC (fun st : Int32 × Int32 × Int32 => Wk p l e { frames := 2, cells := 0, slots := 0, locals := 45 } s m args below meth c Γ A g (some (.int fin)) 14 10 [(0, .ref (ad Γ 601)), (1, .ref (ad Γ v1)), (2, .ref (ad Γ v2)), (4, .int v4), (5, .int st.1), (6, .int st.2.1), (7, .int st.2.2)] [] g) (fun x => x = fin))) q) : Wk p l e { frames := 2, cells := 0, slots := 0, locals := 45 } s m args below meth c Γ A g (some (.int fin)) 29 10 [(0, .ref (ad Γ 601)), (1, .ref (ad Γ v1)), (2, .ref (ad Γ v2)), (4, .int v4), (5, .int v5), (6, .int v6), (7, .int v7), (8, .int v8)] [] g := by
  intro H locs ls hw hS hl
  unfold bX6_toldAhead_29 at hf
  obtain ⟨hx, hb, hml, hr, hown, htw, hlocks, hE⟩ := id C
  have hown : s.vm.findClass RX6 = some m.cls := hown
  refine lv_iload hx hb dX6_toldAhead_29 (lv_at hl 7 rfl) ?_
  refine lv_aload_n hx hb dX6_toldAhead_31 rfl (lv_at hl 1 rfl) ?_
  refine va_get (ci := 2) (v := .int (gi (g v1) 1)) (C := RX2) (T := TX2) (N := 11) hx hb htw uwX2 hown hE.1 (hw _ _ hv1) 0 rfl rfl 1 (by decide) (htw _ mw166) (fun _ h9 => h9) rfl dX6_toldAhead_32 ?_
  refine lv_icmp_ge (tgt := 158) hx hb dX6_toldAhead_35 (by decide) (fun c17 => ?_) (fun c17 => ?_)
  · have hf := ifp c17 hf
    obtain ⟨q5, hfq5, eq5⟩ := out1_some hf
    subst eq5
    have hf := hfq5
    have hq := hq.2 _ rfl
    exact wX6_toldAhead_158 C hv1 hv2 hf hq H locs ls hw hS (lv_sub hl [0, 1, 2, 3, 4, 5, 6] rfl)
  · have hf := ifn c17 hf
    refine lv_iload hx hb dX6_toldAhead_38 (lv_at hl 5 rfl) ?_
    refine lv_aload_n hx hb dX6_toldAhead_40 rfl (lv_at hl 2 rfl) ?_
    refine va_get (ci := 5) (v := .int (gi (g v2) 2)) (C := RX5) (T := TX5) (N := 3) hx hb htw uwX5 hown hE.1 (hw _ _ hv2) 0 rfl rfl 2 (by decide) (htw _ mw230) (fun _ h9 => h9) rfl dX6_toldAhead_41 ?_
    refine lv_icmp_ge (tgt := 158) hx hb dX6_toldAhead_44 (by decide) (fun c16 => ?_) (fun c16 => ?_)
    · have hf := ifp c16 hf
      obtain ⟨q6, hfq6, eq6⟩ := out1_some hf
      subst eq6
      have hf := hfq6
      have hq := hq.2 _ rfl
      exact wX6_toldAhead_158 C hv1 hv2 hf hq H locs ls hw hS (lv_sub hl [0, 1, 2, 3, 4, 5, 6] rfl)
    · have hf := ifn c16 hf
      refine lv_iload hx hb dX6_toldAhead_47 (lv_at hl 4 rfl) ?_
      refine lv_iload hx hb dX6_toldAhead_49 (lv_at hl 7 rfl) ?_
      obtain ⟨z7, hz7, hf⟩ := bd hf
      refine cl_SN (rest := []) (kX9_hasBit (l := l) (Γ := Γ) (A := A) (G := g) hz7) ⟨hx, hb, hml, hown, htw⟩ hE hw hS (nw12 hE.2.2.1) mw717 mw118 mw718 pdX9_hasBit ⟨Nat.le_of_ble_eq_true rfl, Nat.le_of_ble_eq_true rfl⟩ rfl rfl hl.1 (Nat.le_of_ble_eq_true rfl) dX6_toldAhead_51 (fun H locs hw hS => ?_)
      refine lv_if_eq (tgt := 152) hx hb dX6_toldAhead_54 (by decide) (fun c15 => ?_) (fun c15 => ?_)
      · have hf := ifp c15 hf
        exact wX6_toldAhead_152 C hv1 hv2 hf hq H locs ls hw hS hl
      · have hf := ifn c15 hf
        refine lv_aload_n hx hb dX6_toldAhead_57 rfl (lv_at hl 0 rfl) ?_
        refine va_get (ci := 6) (v := .ref (aa Γ 601 0)) (C := RX6) (T := TX6) (N := 2) hx hb htw uwX6 hown hE.1 (hw _ _ (wf_601 hE)) 0 rfl rfl 0 (by decide) (htw _ mw382) (fun _ h9 => h9) rfl dX6_toldAhead_58 ?_
        refine lv_iload hx hb dX6_toldAhead_61 (lv_at hl 7 rfl) ?_
        refine lv_bipush (v := 8) hx hb dX6_toldAhead_63 (by decide) ?_
        refine lv_imul hx hb dX6_toldAhead_65 ?_
        refine lv_iload hx hb dX6_toldAhead_66 (lv_at hl 5 rfl) ?_
        refine lv_iadd hx hb dX6_toldAhead_68 ?_
        obtain ⟨g8, hf⟩ := gd_some hf
        refine va_iald hx hb hE.1 (hw _ _ (wf_601 hE)) 1 0 rfl rfl (inR_in g8) dX6_toldAhead_69 ?_
        refine lv_iload hx hb dX6_toldAhead_70 (lv_at hl 5 rfl) ?_
        refine lv_icmp_ne (tgt := 78) hx hb dX6_toldAhead_72 (by decide) (fun c14 => ?_) (fun c14 => ?_)
        · have hf := ifn c14 hf
          refine lv_aload_n hx hb dX6_toldAhead_78 rfl (lv_at hl 0 rfl) ?_
          refine lv_iload hx hb dX6_toldAhead_79 (lv_at hl 4 rfl) ?_
          refine lv_iconst (v := 1) hx hb dX6_toldAhead_81 (by decide) ?_
          refine lv_iload hx hb dX6_toldAhead_82 (lv_at hl 7 rfl) ?_
          refine lv_ishl hx hb dX6_toldAhead_84 ?_
          refine lv_iconst (v := (-1)) hx hb dX6_toldAhead_85 (by decide) ?_
          refine lv_ixor hx hb dX6_toldAhead_86 ?_
          refine lv_iand hx hb dX6_toldAhead_87 ?_
          refine lv_iload hx hb dX6_toldAhead_88 (lv_at hl 6 rfl) ?_
          refine lv_aload_n hx hb dX6_toldAhead_90 rfl (lv_at hl 1 rfl) ?_
          obtain ⟨z9, hz9, hf⟩ := bd hf
          refine cl_Vs (rest := [.int v7, .int (v5 &&& (((1 : Int32) <<< (v8 &&& 31)) ^^^ (-1))), .ref (ad Γ 601)]) (kgX2_secretSets (l := l) (Γ := Γ) (A := A) (G := g) (o := v1) hv1 hz9) ⟨hx, hb, hml, hown, htw⟩ hE hw hS (hw _ _ hv1) (q0 := 0) rfl rfl mw850 mw851 mw852 mw120 mw853 pdX2_secretSets ⟨Nat.le_of_ble_eq_true rfl, Nat.le_of_ble_eq_true rfl⟩ rfl rfl hl.1 (Nat.le_of_ble_eq_true rfl) dX6_toldAhead_91 (fun H locs hw hS => ?_)
          obtain ⟨z10, hz10, hf⟩ := bd hf
          refine cl_Vs (rest := []) (kX6_startOfRest (l := l) (Γ := Γ) (A := A) hz10) ⟨hx, hb, hml, hown, htw⟩ hE hw hS (hw _ _ (wf_601 hE)) (q0 := 0) rfl rfl mw880 mw882 mw34 mw125 mw883 pdX6_startOfRest ⟨Nat.le_of_ble_eq_true rfl, Nat.le_of_ble_eq_true rfl⟩ rfl rfl hl.1 (Nat.le_of_ble_eq_true rfl) dX6_toldAhead_94 (fun H locs hw hS => ?_)
          refine lv_istore (lv' := [(9, .int z10), (0, .ref (ad Γ 601)), (1, .ref (ad Γ v1)), (2, .ref (ad Γ v2)), (4, .int v4), (5, .int v5), (6, .int v6), (7, .int v7), (8, .int v8)]) hx hb dX6_toldAhead_97 hl (by decide) rfl (fun ls hl => ?_)
          refine lv_aload_n hx hb dX6_toldAhead_99 rfl (lv_at hl 1 rfl) ?_
          refine va_get (ci := 6) (v := .ref (aa Γ 601 0)) (C := RX6) (T := TX6) (N := 2) hx hb htw uwX6 hown hE.1 (hw _ _ (wf_601 hE)) 0 rfl rfl 0 (by decide) (htw _ mw382) (fun _ h9 => h9) rfl dX6_toldAhead_100 ?_
          refine lv_iload hx hb dX6_toldAhead_103 (lv_at hl 8 rfl) ?_
          refine lv_bipush (v := 8) hx hb dX6_toldAhead_105 (by decide) ?_
          refine lv_imul hx hb dX6_toldAhead_107 ?_
          refine lv_iload hx hb dX6_toldAhead_108 (lv_at hl 6 rfl) ?_
          refine lv_iadd hx hb dX6_toldAhead_110 ?_
          obtain ⟨g11, hf⟩ := gd_some hf
          refine va_iald hx hb hE.1 (hw _ _ (wf_601 hE)) 1 0 rfl rfl (inR_in g11) dX6_toldAhead_111 ?_
          refine lv_iload hx hb dX6_toldAhead_112 (lv_at hl 0 rfl) ?_
          refine lv_icmp_lt (tgt := 152) hx hb dX6_toldAhead_114 (by decide) (fun c13 => ?_) (fun c13 => ?_)
          · have hf := ifp c13 hf
            exact wX6_toldAhead_152 C hv1 hv2 hf hq H locs ls hw hS (lv_sub hl [1, 2, 3, 4, 5, 6, 7, 8] rfl)
          · have hf := ifn c13 hf
            obtain ⟨q12, hfq12, eq12⟩ := out1_some hf
            subst eq12
            have hf := hfq12
            have hq := hq.2 _ rfl
            exact wX6_toldAhead_117 C hv1 hv2 hf hq H locs ls hw hS (lv_sub hl [1, 2, 3, 4, 5, 6, 7, 8, 0] rfl)
        · have hf := ifp c14 hf
          refine lv_goto (tgt := 152) hx hb dX6_toldAhead_75 (by decide) ?_
          exact wX6_toldAhead_152 C hv1 hv2 hf hq H locs ls hw hS hl

set_option maxRecDepth 100000 in
set_option maxHeartbeats 4000000 in
theorem lwX6_toldAhead_29 {p : Program} {l : Launch} {e : Env} {s : State} {m : MethodId} {args : Array Value} {below : List Frame} {meth : Method} {c : Code} {Γ : Gm} {A : Nat → Prop} {g : Gs} {v1 : Nat} {v2 : Nat} {v4 : Int32} {v5 : Int32} {v6 : Int32} {v7 : Int32} {v8 : Int32} {q : ((Int32 × Int32 × Int32) ⊕ Int32)} {fin : Int32} (C : Cx p s m args meth c yX6_toldAhead cX6_toldAhead 10 (some .int) Γ A) (hv1 : kd Γ v1 = some 2) (hv2 : kd Γ v2 = some 5) (hf : iter (fun st : Int32 => bX6_toldAhead_29 g v1 v2 v4 v5 v6 v7 st) v8 = some q) (hq : (KC (fun st : Int32 × Int32 × Int32 => Wk p l e { frames := 2, cells := 0, slots := 0, locals := 45 } s m args below meth c Γ A g (some (.int fin)) 14 10 [(0, .ref (ad Γ 601)), (1, .ref (ad Γ v1)), (2, .ref (ad Γ v2)), (4, .int v4), (5, .int st.1), (6, .int st.2.1), (7, .int st.2.2)] [] g) (fun x => x = fin)) q) : Wk p l e { frames := 2, cells := 0, slots := 0, locals := 45 } s m args below meth c Γ A g (some (.int fin)) 29 10 [(0, .ref (ad Γ 601)), (1, .ref (ad Γ v1)), (2, .ref (ad Γ v2)), (4, .int v4), (5, .int v5), (6, .int v6), (7, .int v7), (8, .int v8)] [] g := by
  intro H locs ls hw hS hl
  refine iter_walk (P := (fun st : Int32 => Wk p l e { frames := 2, cells := 0, slots := 0, locals := 45 } s m args below meth c Γ A g (some (.int fin)) 29 10 [(0, .ref (ad Γ 601)), (1, .ref (ad Γ v1)), (2, .ref (ad Γ v2)), (4, .int v4), (5, .int v5), (6, .int v6), (7, .int v7), (8, .int st)] [] g)) (K := (KC (fun st : Int32 × Int32 × Int32 => Wk p l e { frames := 2, cells := 0, slots := 0, locals := 45 } s m args below meth c Γ A g (some (.int fin)) 14 10 [(0, .ref (ad Γ 601)), (1, .ref (ad Γ v1)), (2, .ref (ad Γ v2)), (4, .int v4), (5, .int st.1), (6, .int st.2.1), (7, .int st.2.2)] [] g) (fun x => x = fin))) (fun st q hq1 h1 h2 => ?_) hf hq H locs ls hw hS hl
  exact wX6_toldAhead_29 (v8 := st) C hv1 hv2 hq1 ⟨h1, h2⟩

noncomputable def bX6_toldAhead_14 (g : Gs) (v1 : Nat) (v2 : Nat) (v4 : Int32) (v5 : Int32) (v6 : Int32) (v7 : Int32) : Option ((Int32 × Int32 × Int32) ⊕ Int32) :=
  if v7 < 0 then some (.inr (10)) else if v4 < v6 then some (.inr (10)) else iter (fun st : Int32 => bX6_toldAhead_29 g v1 v2 v4 v5 v6 v7 st) 0
set_option maxRecDepth 100000 in
set_option maxHeartbeats 4000000 in
theorem wX6_toldAhead_14 {p : Program} {l : Launch} {e : Env} {s : State} {m : MethodId} {args : Array Value} {below : List Frame} {meth : Method} {c : Code} {Γ : Gm} {A : Nat → Prop} {g : Gs} {v1 : Nat} {v2 : Nat} {v4 : Int32} {v5 : Int32} {v6 : Int32} {v7 : Int32} {q : ((Int32 × Int32 × Int32) ⊕ Int32)} {fin : Int32} (C : Cx p s m args meth c yX6_toldAhead cX6_toldAhead 10 (some .int) Γ A) (hv1 : kd Γ v1 = some 2) (hv2 : kd Γ v2 = some 5) (hf : bX6_toldAhead_14 g v1 v2 v4 v5 v6 v7 = some q) (hq : (KC (fun st : Int32 × Int32 × Int32 => Wk p l e { frames := 2, cells := 0, slots := 0, locals := 45 } s m args below meth c Γ A g (some (.int fin)) 14 10 [(0, .ref (ad Γ 601)), (1, .ref (ad Γ v1)), (2, .ref (ad Γ v2)), (4, .int v4), (5, .int st.1), (6, .int st.2.1), (7, .int st.2.2)] [] g) (fun x => x = fin)) q) : Wk p l e { frames := 2, cells := 0, slots := 0, locals := 45 } s m args below meth c Γ A g (some (.int fin)) 14 10 [(0, .ref (ad Γ 601)), (1, .ref (ad Γ v1)), (2, .ref (ad Γ v2)), (4, .int v4), (5, .int v5), (6, .int v6), (7, .int v7)] [] g := by
  intro H locs ls hw hS hl
  unfold bX6_toldAhead_14 at hf
  obtain ⟨hx, hb, hml, hr, hown, htw, hlocks, hE⟩ := id C
  have hown : s.vm.findClass RX6 = some m.cls := hown
  refine lv_iload hx hb dX6_toldAhead_14 (lv_at hl 6 rfl) ?_
  refine lv_if_lt (tgt := 164) hx hb dX6_toldAhead_16 (by decide) (fun c19 => ?_) (fun c19 => ?_)
  · have hf := ifp c19 hf
    refine lv_bipush (v := 10) hx hb dX6_toldAhead_164 (by decide) ?_
    obtain rfl := Option.some.inj hf
    have hq := hq.2 _ rfl
    subst hq
    exact rt_i C hw hS dX6_toldAhead_166
  · have hf := ifn c19 hf
    refine lv_iload hx hb dX6_toldAhead_19 (lv_at hl 5 rfl) ?_
    refine lv_iload hx hb dX6_toldAhead_21 (lv_at hl 3 rfl) ?_
    refine lv_icmp_gt (tgt := 164) hx hb dX6_toldAhead_23 (by decide) (fun c18 => ?_) (fun c18 => ?_)
    · have hf := ifp c18 hf
      refine lv_bipush (v := 10) hx hb dX6_toldAhead_164 (by decide) ?_
      obtain rfl := Option.some.inj hf
      have hq := hq.2 _ rfl
      subst hq
      exact rt_i C hw hS dX6_toldAhead_166
    · have hf := ifn c18 hf
      refine lv_iconst (v := 0) hx hb dX6_toldAhead_26 (by decide) ?_
      refine lv_istore (lv' := [(8, .int 0), (0, .ref (ad Γ 601)), (1, .ref (ad Γ v1)), (2, .ref (ad Γ v2)), (4, .int v4), (5, .int v5), (6, .int v6), (7, .int v7)]) hx hb dX6_toldAhead_27 hl (by decide) rfl (fun ls hl => ?_)
      exact lwX6_toldAhead_29 C hv1 hv2 hf hq H locs ls hw hS (lv_sub hl [1, 2, 3, 4, 5, 6, 7, 0] rfl)

set_option maxRecDepth 100000 in
set_option maxHeartbeats 4000000 in
theorem lwX6_toldAhead_14 {p : Program} {l : Launch} {e : Env} {s : State} {m : MethodId} {args : Array Value} {below : List Frame} {meth : Method} {c : Code} {Γ : Gm} {A : Nat → Prop} {g : Gs} {v1 : Nat} {v2 : Nat} {v4 : Int32} {v5 : Int32} {v6 : Int32} {v7 : Int32} {q : Int32} {fin : Int32} (C : Cx p s m args meth c yX6_toldAhead cX6_toldAhead 10 (some .int) Γ A) (hv1 : kd Γ v1 = some 2) (hv2 : kd Γ v2 = some 5) (hf : iter (fun st : Int32 × Int32 × Int32 => bX6_toldAhead_14 g v1 v2 v4 st.1 st.2.1 st.2.2) (v5, v6, v7) = some q) (hq : (fun x => x = fin) q) : Wk p l e { frames := 2, cells := 0, slots := 0, locals := 45 } s m args below meth c Γ A g (some (.int fin)) 14 10 [(0, .ref (ad Γ 601)), (1, .ref (ad Γ v1)), (2, .ref (ad Γ v2)), (4, .int v4), (5, .int v5), (6, .int v6), (7, .int v7)] [] g := by
  intro H locs ls hw hS hl
  refine iter_walk (P := (fun st : Int32 × Int32 × Int32 => Wk p l e { frames := 2, cells := 0, slots := 0, locals := 45 } s m args below meth c Γ A g (some (.int fin)) 14 10 [(0, .ref (ad Γ 601)), (1, .ref (ad Γ v1)), (2, .ref (ad Γ v2)), (4, .int v4), (5, .int st.1), (6, .int st.2.1), (7, .int st.2.2)] [] g)) (K := (fun x => x = fin)) (fun st q hq1 h1 h2 => ?_) hf hq H locs ls hw hS hl
  exact wX6_toldAhead_14 (v5 := st.1) (v6 := st.2.1) (v7 := st.2.2) C hv1 hv2 hq1 ⟨h1, h2⟩

noncomputable def fX6_toldAhead (g : Gs) (v1 : Nat) (v2 : Nat) (v3 : Int32) (v4 : Int32) : Option Int32 :=
  (fX2_allSecrets (g v1)).bind fun z20 => iter (fun st : Int32 × Int32 × Int32 => bX6_toldAhead_14 g v1 v2 v4 st.1 st.2.1 st.2.2) (z20, 0, v3 - 1)
set_option maxRecDepth 100000 in
set_option maxHeartbeats 4000000 in
theorem wX6_toldAhead_e {p : Program} {l : Launch} {e : Env} {s : State} {m : MethodId} {args : Array Value} {below : List Frame} {meth : Method} {c : Code} {Γ : Gm} {A : Nat → Prop} {g : Gs} {v1 : Nat} {v2 : Nat} {v3 : Int32} {v4 : Int32} {q : Int32} {fin : Int32} (C : Cx p s m args meth c yX6_toldAhead cX6_toldAhead 10 (some .int) Γ A) (hv1 : kd Γ v1 = some 2) (hv2 : kd Γ v2 = some 5) (hf : fX6_toldAhead g v1 v2 v3 v4 = some q) (hq : (fun x => x = fin) q) : Wk p l e { frames := 2, cells := 0, slots := 0, locals := 45 } s m args below meth c Γ A g (some (.int fin)) 0 10 [(0, .ref (ad Γ 601)), (1, .ref (ad Γ v1)), (2, .ref (ad Γ v2)), (3, .int v3), (4, .int v4)] [] g := by
  intro H locs ls hw hS hl
  unfold fX6_toldAhead at hf
  obtain ⟨hx, hb, hml, hr, hown, htw, hlocks, hE⟩ := id C
  have hown : s.vm.findClass RX6 = some m.cls := hown
  refine lv_aload_n hx hb dX6_toldAhead_0 rfl (lv_at hl 1 rfl) ?_
  obtain ⟨z20, hz20, hf⟩ := bd hf
  refine cl_Vs (rest := []) (kgX2_allSecrets (l := l) (Γ := Γ) (A := A) (G := g) (o := v1) hv1 hz20) ⟨hx, hb, hml, hown, htw⟩ hE hw hS (hw _ _ hv1) (q0 := 0) rfl rfl mw856 mw857 mw858 mw120 mw859 pdX2_allSecrets ⟨Nat.le_of_ble_eq_true rfl, Nat.le_of_ble_eq_true rfl⟩ rfl rfl hl.1 (Nat.le_of_ble_eq_true rfl) dX6_toldAhead_1 (fun H locs hw hS => ?_)
  refine lv_istore (lv' := [(5, .int z20), (0, .ref (ad Γ 601)), (1, .ref (ad Γ v1)), (2, .ref (ad Γ v2)), (3, .int v3), (4, .int v4)]) hx hb dX6_toldAhead_4 hl (by decide) rfl (fun ls hl => ?_)
  refine lv_iconst (v := 0) hx hb dX6_toldAhead_6 (by decide) ?_
  refine lv_istore (lv' := [(6, .int 0), (5, .int z20), (0, .ref (ad Γ 601)), (1, .ref (ad Γ v1)), (2, .ref (ad Γ v2)), (3, .int v3), (4, .int v4)]) hx hb dX6_toldAhead_7 hl (by decide) rfl (fun ls hl => ?_)
  refine lv_iload_n hx hb dX6_toldAhead_9 rfl (lv_at hl 5 rfl) ?_
  refine lv_iconst (v := 1) hx hb dX6_toldAhead_10 (by decide) ?_
  refine lv_isub hx hb dX6_toldAhead_11 ?_
  refine lv_istore (lv' := [(7, .int (v3 - 1)), (6, .int 0), (5, .int z20), (0, .ref (ad Γ 601)), (1, .ref (ad Γ v1)), (2, .ref (ad Γ v2)), (3, .int v3), (4, .int v4)]) hx hb dX6_toldAhead_12 hl (by decide) rfl (fun ls hl => ?_)
  exact lwX6_toldAhead_14 C hv1 hv2 hf hq H locs ls hw hS (lv_sub hl [3, 4, 5, 7, 2, 1, 0] rfl)

theorem kX6_toldAhead {l : Launch} {Γ : Gm} {A : Nat → Prop} {g : Gs} {v1 : Nat} {v2 : Nat} {v3 : Int32} {v4 : Int32} {fin : Int32} (hv1 : kd Γ v1 = some 2) (hv2 : kd Γ v2 = some 5) (hf : fX6_toldAhead g v1 v2 v3 v4 = some fin) : Kt l yX6_toldAhead cX6_toldAhead 10 (some .int) 2 45 Γ A g g [.ref (ad Γ 601), .ref (ad Γ v1), .ref (ad Γ v2), .int v3, .int v4] (some (.int fin)) :=
  kt_of (by decide) (Nat.le_of_ble_eq_true rfl) (fun p e s m args below meth c C => wX6_toldAhead_e C hv1 hv2 hf rfl)
noncomputable def bX7_spoil_53 (g : Gs) (v1 : Nat) (v2 : Int32) (v3 : Int32) : Option ((Int32 × Gs) ⊕ Gs) :=
  (fX2_closure (g v1) v3 (-1)).bind fun z1 => (fX2_weightOf (g v1) z1).bind fun z2 => gd (inR v2 256) ((some (ug g 701 (sa (g 701) 0 (upd (ga (g 701) 0) (Int32.toNatClampNeg v2) z2)))).bind fun g4 => some (.inl (v2 + 1, g4)))
set_option maxRecDepth 100000 in
set_option maxHeartbeats 4000000 in
theorem wX7_spoil_53 {p : Program} {l : Launch} {e : Env} {s : State} {m : MethodId} {args : Array Value} {below : List Frame} {meth : Method} {c : Code} {Γ : Gm} {A : Nat → Prop} {g : Gs} {v1 : Nat} {v2 : Int32} {v3 : Int32} {q : ((Int32 × Gs) ⊕ Gs)} {fin : Gs} (C : Cx p s m args meth c yX7_spoil cX7_spoil 5 none Γ A) (hv1 : kd Γ v1 = some 2) (hf : bX7_spoil_53 g v1 v2 v3 = some q) (hq : (KC (fun st : Int32 × Gs => Wk p l e { frames := 3, cells := 0, slots := 0, locals := 69 } s m args below meth c Γ A fin none 2 5 [(0, .ref (ad Γ 701)), (1, .ref (ad Γ v1)), (2, .int st.1)] [] st.2) (fun x => x = fin)) q) : Wk p l e { frames := 3, cells := 0, slots := 0, locals := 69 } s m args below meth c Γ A fin none 53 5 [(0, .ref (ad Γ 701)), (1, .ref (ad Γ v1)), (2, .int v2), (3, .int v3)] [] g := by
  intro H locs ls hw hS hl
  unfold bX7_spoil_53 at hf
  obtain ⟨hx, hb, hml, hr, hown, htw, hlocks, hE⟩ := id C
  have hown : s.vm.findClass RX7 = some m.cls := hown
  refine lv_aload_n hx hb dX7_spoil_53 rfl (lv_at hl 0 rfl) ?_
  refine va_get (ci := 7) (v := .ref (aa Γ 701 0)) (C := RX7) (T := TX7) (N := 1) hx hb htw uwX7 hown hE.1 (hw _ _ (wf_701 hE)) 0 rfl rfl 0 (by decide) (htw _ mw429) (fun _ h9 => h9) rfl dX7_spoil_54 ?_
  refine lv_iload_n hx hb dX7_spoil_57 rfl (lv_at hl 2 rfl) ?_
  refine lv_aload_n hx hb dX7_spoil_58 rfl (lv_at hl 1 rfl) ?_
  refine lv_aload_n hx hb dX7_spoil_59 rfl (lv_at hl 1 rfl) ?_
  refine lv_iload_n hx hb dX7_spoil_60 rfl (lv_at hl 3 rfl) ?_
  refine lv_iconst (v := (-1)) hx hb dX7_spoil_61 (by decide) ?_
  obtain ⟨z1, hz1, hf⟩ := bd hf
  refine cl_Vs (rest := [.ref (ad Γ v1), .int v2, .ref (aa Γ 701 0)]) (kgX2_closure (l := l) (Γ := Γ) (A := A) (G := g) (o := v1) hv1 hz1) ⟨hx, hb, hml, hown, htw⟩ hE hw hS (hw _ _ hv1) (q0 := 0) rfl rfl mw928 mw893 mw894 mw120 mw895 pdX2_closure ⟨Nat.le_of_ble_eq_true rfl, Nat.le_of_ble_eq_true rfl⟩ rfl rfl hl.1 (Nat.le_of_ble_eq_true rfl) dX7_spoil_62 (fun H locs hw hS => ?_)
  obtain ⟨z2, hz2, hf⟩ := bd hf
  refine cl_Vs (rest := [.int v2, .ref (aa Γ 701 0)]) (kgX2_weightOf (l := l) (Γ := Γ) (A := A) (G := g) (o := v1) hv1 hz2) ⟨hx, hb, hml, hown, htw⟩ hE hw hS (hw _ _ hv1) (q0 := 0) rfl rfl mw929 mw930 mw931 mw120 mw932 pdX2_weightOf ⟨Nat.le_of_ble_eq_true rfl, Nat.le_of_ble_eq_true rfl⟩ rfl rfl hl.1 (Nat.le_of_ble_eq_true rfl) dX7_spoil_65 (fun H locs hw hS => ?_)
  obtain ⟨g3, hf⟩ := gd_some hf
  obtain ⟨g4, hg4, hf⟩ := bd hf
  have hg4 := Option.some.inj hg4
  refine wo_iastG hx hb hE hw hS (wf_701 hE) (q0 := 1) rfl (inR_in g3) (sa7_0 rfl) hg4 dX7_spoil_68 (fun H locs hw hS => ?_)
  refine lv_iinc (v := v2 + 1) (lv' := [(2, .int (v2 + 1)), (0, .ref (ad Γ 701)), (1, .ref (ad Γ v1)), (3, .int v3)]) hx hb dX7_spoil_69 hl (k := 2) rfl (by rfl) (by decide) rfl (fun ls hl => ?_)
  refine lv_goto (tgt := 2) hx hb dX7_spoil_72 (by decide) ?_
  obtain rfl := Option.some.inj hf
  exact hq.1 _ rfl H locs ls hw hS (lv_sub hl [1, 2, 0] rfl)

noncomputable def bX7_spoil_45 (g : Gs) (v1 : Nat) (v2 : Int32) (v4 : Int32) (s0 : Int32) (s1 : Int32) : Option ((Int32 × Int32) ⊕ ((Int32 × Gs) ⊕ Gs)) :=
  some (.inl (s1 ||| s0, v4 + 1))
set_option maxRecDepth 100000 in
set_option maxHeartbeats 4000000 in
theorem wX7_spoil_45 {p : Program} {l : Launch} {e : Env} {s : State} {m : MethodId} {args : Array Value} {below : List Frame} {meth : Method} {c : Code} {Γ : Gm} {A : Nat → Prop} {g : Gs} {v1 : Nat} {v2 : Int32} {v4 : Int32} {s0 : Int32} {s1 : Int32} {q : ((Int32 × Int32) ⊕ ((Int32 × Gs) ⊕ Gs))} {fin : Gs} (C : Cx p s m args meth c yX7_spoil cX7_spoil 5 none Γ A) (hv1 : kd Γ v1 = some 2) (hf : bX7_spoil_45 g v1 v2 v4 s0 s1 = some q) (hq : (KC (fun st : Int32 × Int32 => Wk p l e { frames := 3, cells := 0, slots := 0, locals := 69 } s m args below meth c Γ A fin none 15 5 [(0, .ref (ad Γ 701)), (1, .ref (ad Γ v1)), (2, .int v2), (3, .int st.1), (4, .int st.2)] [] g) (KC (fun st : Int32 × Gs => Wk p l e { frames := 3, cells := 0, slots := 0, locals := 69 } s m args below meth c Γ A fin none 2 5 [(0, .ref (ad Γ 701)), (1, .ref (ad Γ v1)), (2, .int st.1)] [] st.2) (fun x => x = fin))) q) : Wk p l e { frames := 3, cells := 0, slots := 0, locals := 69 } s m args below meth c Γ A fin none 45 5 [(0, .ref (ad Γ 701)), (1, .ref (ad Γ v1)), (2, .int v2), (4, .int v4)] [.int s0, .int s1] g := by
  intro H locs ls hw hS hl
  unfold bX7_spoil_45 at hf
  obtain ⟨hx, hb, hml, hr, hown, htw, hlocks, hE⟩ := id C
  have hown : s.vm.findClass RX7 = some m.cls := hown
  refine lv_ior hx hb dX7_spoil_45 ?_
  refine lv_istore_n (lv' := [(3, .int (s1 ||| s0)), (0, .ref (ad Γ 701)), (1, .ref (ad Γ v1)), (2, .int v2), (4, .int v4)]) hx hb dX7_spoil_46 rfl hl (by decide) rfl (fun ls hl => ?_)
  refine lv_iinc (v := v4 + 1) (lv' := [(4, .int (v4 + 1)), (3, .int (s1 ||| s0)), (0, .ref (ad Γ 701)), (1, .ref (ad Γ v1)), (2, .int v2)]) hx hb dX7_spoil_47 hl (k := 4) rfl (by rfl) (by decide) rfl (fun ls hl => ?_)
  refine lv_goto (tgt := 15) hx hb dX7_spoil_50 (by decide) ?_
  obtain rfl := Option.some.inj hf
  exact hq.1 _ rfl H locs ls hw hS (lv_sub hl [2, 3, 4, 1, 0] rfl)

noncomputable def bX7_spoil_15 (g : Gs) (v1 : Nat) (v2 : Int32) (v3 : Int32) (v4 : Int32) : Option ((Int32 × Int32) ⊕ ((Int32 × Gs) ⊕ Gs)) :=
  if (gi (g v1) 0) ≤ v4 then out1 (bX7_spoil_53 g v1 v2 v3) else (fX9_hasBit v2 v4).bind fun z6 => if z6 = 0 then bX7_spoil_45 g v1 v2 v4 0 v3 else gd (inR v4 8) (bX7_spoil_45 g v1 v2 v4 (ga (g v1) 5 (Int32.toNatClampNeg v4)) v3)
set_option maxRecDepth 100000 in
set_option maxHeartbeats 4000000 in
theorem wX7_spoil_15 {p : Program} {l : Launch} {e : Env} {s : State} {m : MethodId} {args : Array Value} {below : List Frame} {meth : Method} {c : Code} {Γ : Gm} {A : Nat → Prop} {g : Gs} {v1 : Nat} {v2 : Int32} {v3 : Int32} {v4 : Int32} {q : ((Int32 × Int32) ⊕ ((Int32 × Gs) ⊕ Gs))} {fin : Gs} (C : Cx p s m args meth c yX7_spoil cX7_spoil 5 none Γ A) (hv1 : kd Γ v1 = some 2) (hf : bX7_spoil_15 g v1 v2 v3 v4 = some q) (hq : (KC (fun st : Int32 × Int32 => Wk p l e { frames := 3, cells := 0, slots := 0, locals := 69 } s m args below meth c Γ A fin none 15 5 [(0, .ref (ad Γ 701)), (1, .ref (ad Γ v1)), (2, .int v2), (3, .int st.1), (4, .int st.2)] [] g) (KC (fun st : Int32 × Gs => Wk p l e { frames := 3, cells := 0, slots := 0, locals := 69 } s m args below meth c Γ A fin none 2 5 [(0, .ref (ad Γ 701)), (1, .ref (ad Γ v1)), (2, .int st.1)] [] st.2) (fun x => x = fin))) q) : Wk p l e { frames := 3, cells := 0, slots := 0, locals := 69 } s m args below meth c Γ A fin none 15 5 [(0, .ref (ad Γ 701)), (1, .ref (ad Γ v1)), (2, .int v2), (3, .int v3), (4, .int v4)] [] g := by
  intro H locs ls hw hS hl
  unfold bX7_spoil_15 at hf
  obtain ⟨hx, hb, hml, hr, hown, htw, hlocks, hE⟩ := id C
  have hown : s.vm.findClass RX7 = some m.cls := hown
  refine lv_iload hx hb dX7_spoil_15 (lv_at hl 4 rfl) ?_
  refine lv_aload_n hx hb dX7_spoil_17 rfl (lv_at hl 1 rfl) ?_
  refine va_get (ci := 2) (v := .int (gi (g v1) 0)) (C := RX2) (T := TX2) (N := 11) hx hb htw uwX2 hown hE.1 (hw _ _ hv1) 0 rfl rfl 0 (by decide) (htw _ mw161) (fun _ h9 => h9) rfl dX7_spoil_18 ?_
  refine lv_icmp_ge (tgt := 53) hx hb dX7_spoil_21 (by decide) (fun c9 => ?_) (fun c9 => ?_)
  · have hf := ifp c9 hf
    obtain ⟨q5, hfq5, eq5⟩ := out1_some hf
    subst eq5
    have hf := hfq5
    have hq := hq.2 _ rfl
    exact wX7_spoil_53 C hv1 hf hq H locs ls hw hS (lv_sub hl [0, 1, 2, 3] rfl)
  · have hf := ifn c9 hf
    refine lv_iload_n hx hb dX7_spoil_24 rfl (lv_at hl 3 rfl) ?_
    refine lv_iload_n hx hb dX7_spoil_25 rfl (lv_at hl 2 rfl) ?_
    refine lv_iload hx hb dX7_spoil_26 (lv_at hl 4 rfl) ?_
    obtain ⟨z6, hz6, hf⟩ := bd hf
    refine cl_SN (rest := [.int v3]) (kX9_hasBit (l := l) (Γ := Γ) (A := A) (G := g) hz6) ⟨hx, hb, hml, hown, htw⟩ hE hw hS (nw13 hE.2.2.1) mw717 mw118 mw718 pdX9_hasBit ⟨Nat.le_of_ble_eq_true rfl, Nat.le_of_ble_eq_true rfl⟩ rfl rfl hl.1 (Nat.le_of_ble_eq_true rfl) dX7_spoil_28 (fun H locs hw hS => ?_)
    refine lv_if_eq (tgt := 44) hx hb dX7_spoil_31 (by decide) (fun c8 => ?_) (fun c8 => ?_)
    · have hf := ifp c8 hf
      refine lv_iconst (v := 0) hx hb dX7_spoil_44 (by decide) ?_
      exact wX7_spoil_45 C hv1 hf hq H locs ls hw hS (lv_sub hl [0, 1, 2, 4] rfl)
    · have hf := ifn c8 hf
      refine lv_aload_n hx hb dX7_spoil_34 rfl (lv_at hl 1 rfl) ?_
      refine va_get (ci := 2) (v := .ref (aa Γ v1 5)) (C := RX2) (T := TX2) (N := 11) hx hb htw uwX2 hown hE.1 (hw _ _ hv1) 0 rfl rfl 5 (by decide) (htw _ mw180) (fun _ h9 => h9) rfl dX7_spoil_35 ?_
      refine lv_iload hx hb dX7_spoil_38 (lv_at hl 4 rfl) ?_
      obtain ⟨g7, hf⟩ := gd_some hf
      refine va_iald hx hb hE.1 (hw _ _ hv1) 3 0 rfl rfl (inR_in g7) dX7_spoil_40 ?_
      refine lv_goto (tgt := 45) hx hb dX7_spoil_41 (by decide) ?_
      exact wX7_spoil_45 C hv1 hf hq H locs ls hw hS (lv_sub hl [0, 1, 2, 4] rfl)

set_option maxRecDepth 100000 in
set_option maxHeartbeats 4000000 in
theorem lwX7_spoil_15 {p : Program} {l : Launch} {e : Env} {s : State} {m : MethodId} {args : Array Value} {below : List Frame} {meth : Method} {c : Code} {Γ : Gm} {A : Nat → Prop} {g : Gs} {v1 : Nat} {v2 : Int32} {v3 : Int32} {v4 : Int32} {q : ((Int32 × Gs) ⊕ Gs)} {fin : Gs} (C : Cx p s m args meth c yX7_spoil cX7_spoil 5 none Γ A) (hv1 : kd Γ v1 = some 2) (hf : iter (fun st : Int32 × Int32 => bX7_spoil_15 g v1 v2 st.1 st.2) (v3, v4) = some q) (hq : (KC (fun st : Int32 × Gs => Wk p l e { frames := 3, cells := 0, slots := 0, locals := 69 } s m args below meth c Γ A fin none 2 5 [(0, .ref (ad Γ 701)), (1, .ref (ad Γ v1)), (2, .int st.1)] [] st.2) (fun x => x = fin)) q) : Wk p l e { frames := 3, cells := 0, slots := 0, locals := 69 } s m args below meth c Γ A fin none 15 5 [(0, .ref (ad Γ 701)), (1, .ref (ad Γ v1)), (2, .int v2), (3, .int v3), (4, .int v4)] [] g := by
  intro H locs ls hw hS hl
  refine iter_walk (P := (fun st : Int32 × Int32 => Wk p l e { frames := 3, cells := 0, slots := 0, locals := 69 } s m args below meth c Γ A fin none 15 5 [(0, .ref (ad Γ 701)), (1, .ref (ad Γ v1)), (2, .int v2), (3, .int st.1), (4, .int st.2)] [] g)) (K := (KC (fun st : Int32 × Gs => Wk p l e { frames := 3, cells := 0, slots := 0, locals := 69 } s m args below meth c Γ A fin none 2 5 [(0, .ref (ad Γ 701)), (1, .ref (ad Γ v1)), (2, .int st.1)] [] st.2) (fun x => x = fin))) (fun st q hq1 h1 h2 => ?_) hf hq H locs ls hw hS hl
  exact wX7_spoil_15 (v3 := st.1) (v4 := st.2) C hv1 hq1 ⟨h1, h2⟩

noncomputable def bX7_spoil_2 (g : Gs) (v1 : Nat) (v2 : Int32) : Option ((Int32 × Gs) ⊕ Gs) :=
  (fX2_allPieces (g v1)).bind fun z10 => if z10 < v2 then some (.inr (g)) else iter (fun st : Int32 × Int32 => bX7_spoil_15 g v1 v2 st.1 st.2) (0, 0)
set_option maxRecDepth 100000 in
set_option maxHeartbeats 4000000 in
theorem wX7_spoil_2 {p : Program} {l : Launch} {e : Env} {s : State} {m : MethodId} {args : Array Value} {below : List Frame} {meth : Method} {c : Code} {Γ : Gm} {A : Nat → Prop} {g : Gs} {v1 : Nat} {v2 : Int32} {q : ((Int32 × Gs) ⊕ Gs)} {fin : Gs} (C : Cx p s m args meth c yX7_spoil cX7_spoil 5 none Γ A) (hv1 : kd Γ v1 = some 2) (hf : bX7_spoil_2 g v1 v2 = some q) (hq : (KC (fun st : Int32 × Gs => Wk p l e { frames := 3, cells := 0, slots := 0, locals := 69 } s m args below meth c Γ A fin none 2 5 [(0, .ref (ad Γ 701)), (1, .ref (ad Γ v1)), (2, .int st.1)] [] st.2) (fun x => x = fin)) q) : Wk p l e { frames := 3, cells := 0, slots := 0, locals := 69 } s m args below meth c Γ A fin none 2 5 [(0, .ref (ad Γ 701)), (1, .ref (ad Γ v1)), (2, .int v2)] [] g := by
  intro H locs ls hw hS hl
  unfold bX7_spoil_2 at hf
  obtain ⟨hx, hb, hml, hr, hown, htw, hlocks, hE⟩ := id C
  have hown : s.vm.findClass RX7 = some m.cls := hown
  refine lv_iload_n hx hb dX7_spoil_2 rfl (lv_at hl 2 rfl) ?_
  refine lv_aload_n hx hb dX7_spoil_3 rfl (lv_at hl 1 rfl) ?_
  obtain ⟨z10, hz10, hf⟩ := bd hf
  refine cl_Vs (rest := [.int v2]) (kgX2_allPieces (l := l) (Γ := Γ) (A := A) (G := g) (o := v1) hv1 hz10) ⟨hx, hb, hml, hown, htw⟩ hE hw hS (hw _ _ hv1) (q0 := 0) rfl rfl mw923 mw924 mw925 mw120 mw926 pdX2_allPieces ⟨Nat.le_of_ble_eq_true rfl, Nat.le_of_ble_eq_true rfl⟩ rfl rfl hl.1 (Nat.le_of_ble_eq_true rfl) dX7_spoil_4 (fun H locs hw hS => ?_)
  refine lv_icmp_gt (tgt := 75) hx hb dX7_spoil_7 (by decide) (fun c11 => ?_) (fun c11 => ?_)
  · have hf := ifp c11 hf
    obtain rfl := Option.some.inj hf
    have hq := hq.2 _ rfl
    subst hq
    exact rt_v C hw hS dX7_spoil_75
  · have hf := ifn c11 hf
    refine lv_iconst (v := 0) hx hb dX7_spoil_10 (by decide) ?_
    refine lv_istore_n (lv' := [(3, .int 0), (0, .ref (ad Γ 701)), (1, .ref (ad Γ v1)), (2, .int v2)]) hx hb dX7_spoil_11 rfl hl (by decide) rfl (fun ls hl => ?_)
    refine lv_iconst (v := 0) hx hb dX7_spoil_12 (by decide) ?_
    refine lv_istore (lv' := [(4, .int 0), (3, .int 0), (0, .ref (ad Γ 701)), (1, .ref (ad Γ v1)), (2, .int v2)]) hx hb dX7_spoil_13 hl (by decide) rfl (fun ls hl => ?_)
    exact lwX7_spoil_15 C hv1 hf hq H locs ls hw hS (lv_sub hl [2, 3, 4, 1, 0] rfl)

set_option maxRecDepth 100000 in
set_option maxHeartbeats 4000000 in
theorem lwX7_spoil_2 {p : Program} {l : Launch} {e : Env} {s : State} {m : MethodId} {args : Array Value} {below : List Frame} {meth : Method} {c : Code} {Γ : Gm} {A : Nat → Prop} {g : Gs} {v1 : Nat} {v2 : Int32} {q : Gs} {fin : Gs} (C : Cx p s m args meth c yX7_spoil cX7_spoil 5 none Γ A) (hv1 : kd Γ v1 = some 2) (hf : iter (fun st : Int32 × Gs => bX7_spoil_2 st.2 v1 st.1) (v2, g) = some q) (hq : (fun x => x = fin) q) : Wk p l e { frames := 3, cells := 0, slots := 0, locals := 69 } s m args below meth c Γ A fin none 2 5 [(0, .ref (ad Γ 701)), (1, .ref (ad Γ v1)), (2, .int v2)] [] g := by
  intro H locs ls hw hS hl
  refine iter_walk (P := (fun st : Int32 × Gs => Wk p l e { frames := 3, cells := 0, slots := 0, locals := 69 } s m args below meth c Γ A fin none 2 5 [(0, .ref (ad Γ 701)), (1, .ref (ad Γ v1)), (2, .int st.1)] [] st.2)) (K := (fun x => x = fin)) (fun st q hq1 h1 h2 => ?_) hf hq H locs ls hw hS hl
  exact wX7_spoil_2 (g := st.2) (v2 := st.1) C hv1 hq1 ⟨h1, h2⟩

noncomputable def fX7_spoil (g : Gs) (v1 : Nat) : Option Gs :=
  iter (fun st : Int32 × Gs => bX7_spoil_2 st.2 v1 st.1) (0, g)
set_option maxRecDepth 100000 in
set_option maxHeartbeats 4000000 in
theorem wX7_spoil_e {p : Program} {l : Launch} {e : Env} {s : State} {m : MethodId} {args : Array Value} {below : List Frame} {meth : Method} {c : Code} {Γ : Gm} {A : Nat → Prop} {g : Gs} {v1 : Nat} {q : Gs} {fin : Gs} (C : Cx p s m args meth c yX7_spoil cX7_spoil 5 none Γ A) (hv1 : kd Γ v1 = some 2) (hf : fX7_spoil g v1 = some q) (hq : (fun x => x = fin) q) : Wk p l e { frames := 3, cells := 0, slots := 0, locals := 69 } s m args below meth c Γ A fin none 0 5 [(0, .ref (ad Γ 701)), (1, .ref (ad Γ v1))] [] g := by
  intro H locs ls hw hS hl
  unfold fX7_spoil at hf
  obtain ⟨hx, hb, hml, hr, hown, htw, hlocks, hE⟩ := id C
  have hown : s.vm.findClass RX7 = some m.cls := hown
  refine lv_iconst (v := 0) hx hb dX7_spoil_0 (by decide) ?_
  refine lv_istore_n (lv' := [(2, .int 0), (0, .ref (ad Γ 701)), (1, .ref (ad Γ v1))]) hx hb dX7_spoil_1 rfl hl (by decide) rfl (fun ls hl => ?_)
  exact lwX7_spoil_2 C hv1 hf hq H locs ls hw hS (lv_sub hl [1, 2, 0] rfl)

theorem kX7_spoil {l : Launch} {Γ : Gm} {A : Nat → Prop} {g : Gs} {v1 : Nat} {fin : Gs} (hv1 : kd Γ v1 = some 2) (hf : fX7_spoil g v1 = some fin) : Kt l yX7_spoil cX7_spoil 5 none 3 69 Γ A g fin [.ref (ad Γ 701), .ref (ad Γ v1)] none :=
  kt_of (by decide) (Nat.le_of_ble_eq_true rfl) (fun p e s m args below meth c C => wX7_spoil_e C hv1 hf rfl)
noncomputable def fX7_got (g : Gs) (v1 : Int32) : Option Int32 :=
  if v1 < 0 then some (0) else if 256 ≤ v1 then some (0) else gd (inR v1 256) (some (ga (g 701) 0 (Int32.toNatClampNeg v1)))
set_option maxRecDepth 100000 in
set_option maxHeartbeats 4000000 in
theorem wX7_got_e {p : Program} {l : Launch} {e : Env} {s : State} {m : MethodId} {args : Array Value} {below : List Frame} {meth : Method} {c : Code} {Γ : Gm} {A : Nat → Prop} {g : Gs} {v1 : Int32} {q : Int32} {fin : Int32} (C : Cx p s m args meth c yX7_got cX7_got 2 (some .int) Γ A) (hf : fX7_got g v1 = some q) (hq : (fun x => x = fin) q) : Wk p l e { frames := 0, cells := 0, slots := 0, locals := 0 } s m args below meth c Γ A g (some (.int fin)) 0 2 [(0, .ref (ad Γ 701)), (1, .int v1)] [] g := by
  intro H locs ls hw hS hl
  unfold fX7_got at hf
  obtain ⟨hx, hb, hml, hr, hown, htw, hlocks, hE⟩ := id C
  have hown : s.vm.findClass RX7 = some m.cls := hown
  refine lv_iload_n hx hb dX7_got_0 rfl (lv_at hl 1 rfl) ?_
  refine lv_if_lt (tgt := 20) hx hb dX7_got_1 (by decide) (fun c3 => ?_) (fun c3 => ?_)
  · have hf := ifp c3 hf
    refine lv_iconst (v := 0) hx hb dX7_got_20 (by decide) ?_
    obtain rfl := Option.some.inj hf
    subst hq
    exact rt_i C hw hS dX7_got_21
  · have hf := ifn c3 hf
    refine lv_iload_n hx hb dX7_got_4 rfl (lv_at hl 1 rfl) ?_
    refine lv_sipush (v := 256) hx hb dX7_got_5 (by decide) ?_
    refine lv_icmp_ge (tgt := 20) hx hb dX7_got_8 (by decide) (fun c2 => ?_) (fun c2 => ?_)
    · have hf := ifp c2 hf
      refine lv_iconst (v := 0) hx hb dX7_got_20 (by decide) ?_
      obtain rfl := Option.some.inj hf
      subst hq
      exact rt_i C hw hS dX7_got_21
    · have hf := ifn c2 hf
      refine lv_aload_n hx hb dX7_got_11 rfl (lv_at hl 0 rfl) ?_
      refine va_get (ci := 7) (v := .ref (aa Γ 701 0)) (C := RX7) (T := TX7) (N := 1) hx hb htw uwX7 hown hE.1 (hw _ _ (wf_701 hE)) 0 rfl rfl 0 (by decide) (htw _ mw429) (fun _ h9 => h9) rfl dX7_got_12 ?_
      refine lv_iload_n hx hb dX7_got_15 rfl (lv_at hl 1 rfl) ?_
      obtain ⟨g1, hf⟩ := gd_some hf
      refine va_iald hx hb hE.1 (hw _ _ (wf_701 hE)) 1 0 rfl rfl (inR_in g1) dX7_got_16 ?_
      refine lv_goto (tgt := 21) hx hb dX7_got_17 (by decide) ?_
      obtain rfl := Option.some.inj hf
      subst hq
      exact rt_i C hw hS dX7_got_21

theorem kX7_got {l : Launch} {Γ : Gm} {A : Nat → Prop} {g : Gs} {v1 : Int32} {fin : Int32} (hf : fX7_got g v1 = some fin) : Kt l yX7_got cX7_got 2 (some .int) 0 0 Γ A g g [.ref (ad Γ 701), .int v1] (some (.int fin)) :=
  kt_of (by decide) (Nat.le_of_ble_eq_true rfl) (fun p e s m args below meth c C => wX7_got_e C hf rfl)
noncomputable def bX7_bestPieces_86 (g : Gs) (v1 : Int32) (v2 : Int32) (v3 : Int32) (v4 : Int32) (v5 : Int32) : Option ((Int32 × Int32 × Int32) ⊕ Int32) :=
  some (.inl (v3, v4, v5 + 1))
set_option maxRecDepth 100000 in
set_option maxHeartbeats 4000000 in
theorem wX7_bestPieces_86 {p : Program} {l : Launch} {e : Env} {s : State} {m : MethodId} {args : Array Value} {below : List Frame} {meth : Method} {c : Code} {Γ : Gm} {A : Nat → Prop} {g : Gs} {v1 : Int32} {v2 : Int32} {v3 : Int32} {v4 : Int32} {v5 : Int32} {q : ((Int32 × Int32 × Int32) ⊕ Int32)} {fin : Int32} (C : Cx p s m args meth c yX7_bestPieces cX7_bestPieces 7 (some .int) Γ A) (hf : bX7_bestPieces_86 g v1 v2 v3 v4 v5 = some q) (hq : (KC (fun st : Int32 × Int32 × Int32 => Wk p l e { frames := 1, cells := 0, slots := 0, locals := 21 } s m args below meth c Γ A g (some (.int fin)) 8 7 [(0, .ref (ad Γ 701)), (1, .int v1), (2, .int v2), (3, .int st.1), (4, .int st.2.1), (5, .int st.2.2)] [] g) (fun x => x = fin)) q) : Wk p l e { frames := 1, cells := 0, slots := 0, locals := 21 } s m args below meth c Γ A g (some (.int fin)) 86 7 [(0, .ref (ad Γ 701)), (1, .int v1), (2, .int v2), (3, .int v3), (4, .int v4), (5, .int v5)] [] g := by
  intro H locs ls hw hS hl
  unfold bX7_bestPieces_86 at hf
  obtain ⟨hx, hb, hml, hr, hown, htw, hlocks, hE⟩ := id C
  have hown : s.vm.findClass RX7 = some m.cls := hown
  refine lv_iinc (v := v5 + 1) (lv' := [(5, .int (v5 + 1)), (0, .ref (ad Γ 701)), (1, .int v1), (2, .int v2), (3, .int v3), (4, .int v4)]) hx hb dX7_bestPieces_86 hl (k := 5) rfl (by rfl) (by decide) rfl (fun ls hl => ?_)
  refine lv_goto (tgt := 8) hx hb dX7_bestPieces_89 (by decide) ?_
  obtain rfl := Option.some.inj hf
  exact hq.1 _ rfl H locs ls hw hS (lv_sub hl [1, 2, 3, 4, 5, 0] rfl)

noncomputable def bX7_bestPieces_83 (g : Gs) (v1 : Int32) (v2 : Int32) (v4 : Int32) (v5 : Int32) : Option ((Int32 × Int32 × Int32) ⊕ Int32) :=
  bX7_bestPieces_86 g v1 v2 v4 v4 v5
set_option maxRecDepth 100000 in
set_option maxHeartbeats 4000000 in
theorem wX7_bestPieces_83 {p : Program} {l : Launch} {e : Env} {s : State} {m : MethodId} {args : Array Value} {below : List Frame} {meth : Method} {c : Code} {Γ : Gm} {A : Nat → Prop} {g : Gs} {v1 : Int32} {v2 : Int32} {v4 : Int32} {v5 : Int32} {q : ((Int32 × Int32 × Int32) ⊕ Int32)} {fin : Int32} (C : Cx p s m args meth c yX7_bestPieces cX7_bestPieces 7 (some .int) Γ A) (hf : bX7_bestPieces_83 g v1 v2 v4 v5 = some q) (hq : (KC (fun st : Int32 × Int32 × Int32 => Wk p l e { frames := 1, cells := 0, slots := 0, locals := 21 } s m args below meth c Γ A g (some (.int fin)) 8 7 [(0, .ref (ad Γ 701)), (1, .int v1), (2, .int v2), (3, .int st.1), (4, .int st.2.1), (5, .int st.2.2)] [] g) (fun x => x = fin)) q) : Wk p l e { frames := 1, cells := 0, slots := 0, locals := 21 } s m args below meth c Γ A g (some (.int fin)) 83 7 [(0, .ref (ad Γ 701)), (1, .int v1), (2, .int v2), (4, .int v4), (5, .int v5)] [] g := by
  intro H locs ls hw hS hl
  unfold bX7_bestPieces_83 at hf
  obtain ⟨hx, hb, hml, hr, hown, htw, hlocks, hE⟩ := id C
  have hown : s.vm.findClass RX7 = some m.cls := hown
  refine lv_iload hx hb dX7_bestPieces_83 (lv_at hl 3 rfl) ?_
  refine lv_istore_n (lv' := [(3, .int v4), (0, .ref (ad Γ 701)), (1, .int v1), (2, .int v2), (4, .int v4), (5, .int v5)]) hx hb dX7_bestPieces_85 rfl hl (by decide) rfl (fun ls hl => ?_)
  exact wX7_bestPieces_86 C hf hq H locs ls hw hS (lv_sub hl [1, 2, 3, 0, 4, 5] rfl)

noncomputable def bX7_bestPieces_8 (g : Gs) (v1 : Int32) (v2 : Int32) (v3 : Int32) (v4 : Int32) (v5 : Int32) : Option ((Int32 × Int32 × Int32) ⊕ Int32) :=
  if 256 ≤ v5 then some (.inr (v3)) else if v4 = v1 then some (.inr (v3)) else (fJ6_bitCount_0f7a4 ((v4 - v1) &&& v1)).bind fun z1 => if z1 ≤ v2 then (fX7_got g ((v4 - v1) &&& v1)).bind fun z2 => (fX7_got g v3).bind fun z3 => if z3 < z2 then bX7_bestPieces_83 g v1 v2 ((v4 - v1) &&& v1) v5 else (fX7_got g ((v4 - v1) &&& v1)).bind fun z4 => (fX7_got g v3).bind fun z5 => if z4 = z5 then (fJ6_bitCount_0f7a4 v3).bind fun z6 => if z6 ≤ z1 then bX7_bestPieces_86 g v1 v2 v3 ((v4 - v1) &&& v1) v5 else bX7_bestPieces_83 g v1 v2 ((v4 - v1) &&& v1) v5 else bX7_bestPieces_86 g v1 v2 v3 ((v4 - v1) &&& v1) v5 else bX7_bestPieces_86 g v1 v2 v3 ((v4 - v1) &&& v1) v5
set_option maxRecDepth 100000 in
set_option maxHeartbeats 4000000 in
theorem wX7_bestPieces_8 {p : Program} {l : Launch} {e : Env} {s : State} {m : MethodId} {args : Array Value} {below : List Frame} {meth : Method} {c : Code} {Γ : Gm} {A : Nat → Prop} {g : Gs} {v1 : Int32} {v2 : Int32} {v3 : Int32} {v4 : Int32} {v5 : Int32} {q : ((Int32 × Int32 × Int32) ⊕ Int32)} {fin : Int32} (C : Cx p s m args meth c yX7_bestPieces cX7_bestPieces 7 (some .int) Γ A) (hf : bX7_bestPieces_8 g v1 v2 v3 v4 v5 = some q) (hq : (KC (fun st : Int32 × Int32 × Int32 => Wk p l e { frames := 1, cells := 0, slots := 0, locals := 21 } s m args below meth c Γ A g (some (.int fin)) 8 7 [(0, .ref (ad Γ 701)), (1, .int v1), (2, .int v2), (3, .int st.1), (4, .int st.2.1), (5, .int st.2.2)] [] g) (fun x => x = fin)) q) : Wk p l e { frames := 1, cells := 0, slots := 0, locals := 21 } s m args below meth c Γ A g (some (.int fin)) 8 7 [(0, .ref (ad Γ 701)), (1, .int v1), (2, .int v2), (3, .int v3), (4, .int v4), (5, .int v5)] [] g := by
  intro H locs ls hw hS hl
  unfold bX7_bestPieces_8 at hf
  obtain ⟨hx, hb, hml, hr, hown, htw, hlocks, hE⟩ := id C
  have hown : s.vm.findClass RX7 = some m.cls := hown
  refine lv_iload hx hb dX7_bestPieces_8 (lv_at hl 5 rfl) ?_
  refine lv_sipush (v := 256) hx hb dX7_bestPieces_10 (by decide) ?_
  refine lv_icmp_ge (tgt := 92) hx hb dX7_bestPieces_13 (by decide) (fun c12 => ?_) (fun c12 => ?_)
  · have hf := ifp c12 hf
    refine lv_iload_n hx hb dX7_bestPieces_92 rfl (lv_at hl 3 rfl) ?_
    obtain rfl := Option.some.inj hf
    have hq := hq.2 _ rfl
    subst hq
    exact rt_i C hw hS dX7_bestPieces_93
  · have hf := ifn c12 hf
    refine lv_iload hx hb dX7_bestPieces_16 (lv_at hl 4 rfl) ?_
    refine lv_iload_n hx hb dX7_bestPieces_18 rfl (lv_at hl 1 rfl) ?_
    refine lv_icmp_eq (tgt := 92) hx hb dX7_bestPieces_19 (by decide) (fun c11 => ?_) (fun c11 => ?_)
    · have hf := ifp c11 hf
      refine lv_iload_n hx hb dX7_bestPieces_92 rfl (lv_at hl 3 rfl) ?_
      obtain rfl := Option.some.inj hf
      have hq := hq.2 _ rfl
      subst hq
      exact rt_i C hw hS dX7_bestPieces_93
    · have hf := ifn c11 hf
      refine lv_iload hx hb dX7_bestPieces_22 (lv_at hl 4 rfl) ?_
      refine lv_iload_n hx hb dX7_bestPieces_24 rfl (lv_at hl 1 rfl) ?_
      refine lv_isub hx hb dX7_bestPieces_25 ?_
      refine lv_iload_n hx hb dX7_bestPieces_26 rfl (lv_at hl 1 rfl) ?_
      refine lv_iand hx hb dX7_bestPieces_27 ?_
      refine lv_istore (lv' := [(4, .int ((v4 - v1) &&& v1)), (0, .ref (ad Γ 701)), (1, .int v1), (2, .int v2), (3, .int v3), (5, .int v5)]) hx hb dX7_bestPieces_28 hl (by decide) rfl (fun ls hl => ?_)
      refine lv_iload hx hb dX7_bestPieces_30 (lv_at hl 0 rfl) ?_
      obtain ⟨z1, hz1, hf⟩ := bd hf
      refine cl_Ss (rest := []) (kJ6_bitCount_0f7a4 (l := l) (Γ := Γ) (A := A) (G := g) hz1) ⟨hx, hb, hml, hown, htw⟩ hE hw hS mw938 mw871 mw136 mw872 pdJ6_bitCount_0f7a4 ⟨Nat.le_of_ble_eq_true rfl, Nat.le_of_ble_eq_true rfl⟩ rfl rfl hl.1 (Nat.le_of_ble_eq_true rfl) dX7_bestPieces_32 (fun H locs hw hS => ?_)
      refine lv_istore (lv' := [(6, .int z1), (4, .int ((v4 - v1) &&& v1)), (0, .ref (ad Γ 701)), (1, .int v1), (2, .int v2), (3, .int v3), (5, .int v5)]) hx hb dX7_bestPieces_35 hl (by decide) rfl (fun ls hl => ?_)
      refine lv_iload hx hb dX7_bestPieces_37 (lv_at hl 0 rfl) ?_
      refine lv_iload_n hx hb dX7_bestPieces_39 rfl (lv_at hl 4 rfl) ?_
      refine lv_icmp_le (tgt := 46) hx hb dX7_bestPieces_40 (by decide) (fun c10 => ?_) (fun c10 => ?_)
      · have hf := ifp c10 hf
        refine lv_aload_n hx hb dX7_bestPieces_46 rfl (lv_at hl 2 rfl) ?_
        refine lv_iload hx hb dX7_bestPieces_47 (lv_at hl 1 rfl) ?_
        obtain ⟨z2, hz2, hf⟩ := bd hf
        refine cl_Vs (rest := []) (kX7_got (l := l) (Γ := Γ) (A := A) hz2) ⟨hx, hb, hml, hown, htw⟩ hE hw hS (hw _ _ (wf_701 hE)) (q0 := 0) rfl rfl mw939 mw940 mw941 mw128 mw942 pdX7_got ⟨Nat.le_of_ble_eq_true rfl, Nat.le_of_ble_eq_true rfl⟩ rfl rfl hl.1 (Nat.le_of_ble_eq_true rfl) dX7_bestPieces_49 (fun H locs hw hS => ?_)
        refine lv_aload_n hx hb dX7_bestPieces_52 rfl (lv_at hl 2 rfl) ?_
        refine lv_iload_n hx hb dX7_bestPieces_53 rfl (lv_at hl 5 rfl) ?_
        obtain ⟨z3, hz3, hf⟩ := bd hf
        refine cl_Vs (rest := [.int z2]) (kX7_got (l := l) (Γ := Γ) (A := A) hz3) ⟨hx, hb, hml, hown, htw⟩ hE hw hS (hw _ _ (wf_701 hE)) (q0 := 0) rfl rfl mw939 mw940 mw941 mw128 mw942 pdX7_got ⟨Nat.le_of_ble_eq_true rfl, Nat.le_of_ble_eq_true rfl⟩ rfl rfl hl.1 (Nat.le_of_ble_eq_true rfl) dX7_bestPieces_54 (fun H locs hw hS => ?_)
        refine lv_icmp_gt (tgt := 83) hx hb dX7_bestPieces_57 (by decide) (fun c9 => ?_) (fun c9 => ?_)
        · have hf := ifp c9 hf
          exact wX7_bestPieces_83 C hf hq H locs ls hw hS (lv_sub hl [2, 3, 4, 1, 6] rfl)
        · have hf := ifn c9 hf
          refine lv_aload_n hx hb dX7_bestPieces_60 rfl (lv_at hl 2 rfl) ?_
          refine lv_iload hx hb dX7_bestPieces_61 (lv_at hl 1 rfl) ?_
          obtain ⟨z4, hz4, hf⟩ := bd hf
          refine cl_Vs (rest := []) (kX7_got (l := l) (Γ := Γ) (A := A) hz4) ⟨hx, hb, hml, hown, htw⟩ hE hw hS (hw _ _ (wf_701 hE)) (q0 := 0) rfl rfl mw939 mw940 mw941 mw128 mw942 pdX7_got ⟨Nat.le_of_ble_eq_true rfl, Nat.le_of_ble_eq_true rfl⟩ rfl rfl hl.1 (Nat.le_of_ble_eq_true rfl) dX7_bestPieces_63 (fun H locs hw hS => ?_)
          refine lv_aload_n hx hb dX7_bestPieces_66 rfl (lv_at hl 2 rfl) ?_
          refine lv_iload_n hx hb dX7_bestPieces_67 rfl (lv_at hl 5 rfl) ?_
          obtain ⟨z5, hz5, hf⟩ := bd hf
          refine cl_Vs (rest := [.int z4]) (kX7_got (l := l) (Γ := Γ) (A := A) hz5) ⟨hx, hb, hml, hown, htw⟩ hE hw hS (hw _ _ (wf_701 hE)) (q0 := 0) rfl rfl mw939 mw940 mw941 mw128 mw942 pdX7_got ⟨Nat.le_of_ble_eq_true rfl, Nat.le_of_ble_eq_true rfl⟩ rfl rfl hl.1 (Nat.le_of_ble_eq_true rfl) dX7_bestPieces_68 (fun H locs hw hS => ?_)
          refine lv_icmp_ne (tgt := 86) hx hb dX7_bestPieces_71 (by decide) (fun c8 => ?_) (fun c8 => ?_)
          · have hf := ifn c8 hf
            exact wX7_bestPieces_86 C hf hq H locs ls hw hS (lv_sub hl [2, 3, 4, 5, 1, 6] rfl)
          · have hf := ifp c8 hf
            refine lv_iload hx hb dX7_bestPieces_74 (lv_at hl 0 rfl) ?_
            refine lv_iload_n hx hb dX7_bestPieces_76 rfl (lv_at hl 5 rfl) ?_
            obtain ⟨z6, hz6, hf⟩ := bd hf
            refine cl_Ss (rest := [.int z1]) (kJ6_bitCount_0f7a4 (l := l) (Γ := Γ) (A := A) (G := g) hz6) ⟨hx, hb, hml, hown, htw⟩ hE hw hS mw938 mw871 mw136 mw872 pdJ6_bitCount_0f7a4 ⟨Nat.le_of_ble_eq_true rfl, Nat.le_of_ble_eq_true rfl⟩ rfl rfl hl.1 (Nat.le_of_ble_eq_true rfl) dX7_bestPieces_77 (fun H locs hw hS => ?_)
            refine lv_icmp_ge (tgt := 86) hx hb dX7_bestPieces_80 (by decide) (fun c7 => ?_) (fun c7 => ?_)
            · have hf := ifp c7 hf
              exact wX7_bestPieces_86 C hf hq H locs ls hw hS (lv_sub hl [2, 3, 4, 5, 1, 6] rfl)
            · have hf := ifn c7 hf
              exact wX7_bestPieces_83 C hf hq H locs ls hw hS (lv_sub hl [2, 3, 4, 1, 6] rfl)
      · have hf := ifn c10 hf
        refine lv_goto (tgt := 86) hx hb dX7_bestPieces_43 (by decide) ?_
        exact wX7_bestPieces_86 C hf hq H locs ls hw hS (lv_sub hl [2, 3, 4, 5, 1, 6] rfl)

set_option maxRecDepth 100000 in
set_option maxHeartbeats 4000000 in
theorem lwX7_bestPieces_8 {p : Program} {l : Launch} {e : Env} {s : State} {m : MethodId} {args : Array Value} {below : List Frame} {meth : Method} {c : Code} {Γ : Gm} {A : Nat → Prop} {g : Gs} {v1 : Int32} {v2 : Int32} {v3 : Int32} {v4 : Int32} {v5 : Int32} {q : Int32} {fin : Int32} (C : Cx p s m args meth c yX7_bestPieces cX7_bestPieces 7 (some .int) Γ A) (hf : iter (fun st : Int32 × Int32 × Int32 => bX7_bestPieces_8 g v1 v2 st.1 st.2.1 st.2.2) (v3, v4, v5) = some q) (hq : (fun x => x = fin) q) : Wk p l e { frames := 1, cells := 0, slots := 0, locals := 21 } s m args below meth c Γ A g (some (.int fin)) 8 7 [(0, .ref (ad Γ 701)), (1, .int v1), (2, .int v2), (3, .int v3), (4, .int v4), (5, .int v5)] [] g := by
  intro H locs ls hw hS hl
  refine iter_walk (P := (fun st : Int32 × Int32 × Int32 => Wk p l e { frames := 1, cells := 0, slots := 0, locals := 21 } s m args below meth c Γ A g (some (.int fin)) 8 7 [(0, .ref (ad Γ 701)), (1, .int v1), (2, .int v2), (3, .int st.1), (4, .int st.2.1), (5, .int st.2.2)] [] g)) (K := (fun x => x = fin)) (fun st q hq1 h1 h2 => ?_) hf hq H locs ls hw hS hl
  exact wX7_bestPieces_8 (v3 := st.1) (v4 := st.2.1) (v5 := st.2.2) C hq1 ⟨h1, h2⟩

noncomputable def fX7_bestPieces (g : Gs) (v1 : Int32) (v2 : Int32) : Option Int32 :=
  iter (fun st : Int32 × Int32 × Int32 => bX7_bestPieces_8 g v1 v2 st.1 st.2.1 st.2.2) (0, 0, 1)
set_option maxRecDepth 100000 in
set_option maxHeartbeats 4000000 in
theorem wX7_bestPieces_e {p : Program} {l : Launch} {e : Env} {s : State} {m : MethodId} {args : Array Value} {below : List Frame} {meth : Method} {c : Code} {Γ : Gm} {A : Nat → Prop} {g : Gs} {v1 : Int32} {v2 : Int32} {q : Int32} {fin : Int32} (C : Cx p s m args meth c yX7_bestPieces cX7_bestPieces 7 (some .int) Γ A) (hf : fX7_bestPieces g v1 v2 = some q) (hq : (fun x => x = fin) q) : Wk p l e { frames := 1, cells := 0, slots := 0, locals := 21 } s m args below meth c Γ A g (some (.int fin)) 0 7 [(0, .ref (ad Γ 701)), (1, .int v1), (2, .int v2)] [] g := by
  intro H locs ls hw hS hl
  unfold fX7_bestPieces at hf
  obtain ⟨hx, hb, hml, hr, hown, htw, hlocks, hE⟩ := id C
  have hown : s.vm.findClass RX7 = some m.cls := hown
  refine lv_iconst (v := 0) hx hb dX7_bestPieces_0 (by decide) ?_
  refine lv_istore_n (lv' := [(3, .int 0), (0, .ref (ad Γ 701)), (1, .int v1), (2, .int v2)]) hx hb dX7_bestPieces_1 rfl hl (by decide) rfl (fun ls hl => ?_)
  refine lv_iconst (v := 0) hx hb dX7_bestPieces_2 (by decide) ?_
  refine lv_istore (lv' := [(4, .int 0), (3, .int 0), (0, .ref (ad Γ 701)), (1, .int v1), (2, .int v2)]) hx hb dX7_bestPieces_3 hl (by decide) rfl (fun ls hl => ?_)
  refine lv_iconst (v := 1) hx hb dX7_bestPieces_5 (by decide) ?_
  refine lv_istore (lv' := [(5, .int 1), (4, .int 0), (3, .int 0), (0, .ref (ad Γ 701)), (1, .int v1), (2, .int v2)]) hx hb dX7_bestPieces_6 hl (by decide) rfl (fun ls hl => ?_)
  exact lwX7_bestPieces_8 C hf hq H locs ls hw hS (lv_sub hl [3, 4, 5, 2, 1, 0] rfl)

theorem kX7_bestPieces {l : Launch} {Γ : Gm} {A : Nat → Prop} {g : Gs} {v1 : Int32} {v2 : Int32} {fin : Int32} (hf : fX7_bestPieces g v1 v2 = some fin) : Kt l yX7_bestPieces cX7_bestPieces 7 (some .int) 1 21 Γ A g g [.ref (ad Γ 701), .int v1, .int v2] (some (.int fin)) :=
  kt_of (by decide) (Nat.le_of_ble_eq_true rfl) (fun p e s m args below meth c C => wX7_bestPieces_e C hf rfl)
noncomputable def bX7_bestGuards_89 (g : Gs) (v1 : Int32) (v2 : Int32) (v3 : Int32) (v4 : Int32) (v5 : Int32) (v6 : Int32) : Option ((Int32 × Int32 × Int32) ⊕ Int32) :=
  some (.inl (v4, v5, v6 + 1))
set_option maxRecDepth 100000 in
set_option maxHeartbeats 4000000 in
theorem wX7_bestGuards_89 {p : Program} {l : Launch} {e : Env} {s : State} {m : MethodId} {args : Array Value} {below : List Frame} {meth : Method} {c : Code} {Γ : Gm} {A : Nat → Prop} {g : Gs} {v1 : Int32} {v2 : Int32} {v3 : Int32} {v4 : Int32} {v5 : Int32} {v6 : Int32} {q : ((Int32 × Int32 × Int32) ⊕ Int32)} {fin : Int32} (C : Cx p s m args meth c yX7_bestGuards cX7_bestGuards 9 (some .int) Γ A) (hf : bX7_bestGuards_89 g v1 v2 v3 v4 v5 v6 = some q) (hq : (KC (fun st : Int32 × Int32 × Int32 => Wk p l e { frames := 2, cells := 0, slots := 0, locals := 47 } s m args below meth c Γ A g (some (.int fin)) 18 9 [(0, .ref (ad Γ 701)), (1, .int v1), (2, .int v2), (3, .int v3), (4, .int st.1), (5, .int st.2.1), (6, .int st.2.2)] [] g) (fun x => x = fin)) q) : Wk p l e { frames := 2, cells := 0, slots := 0, locals := 47 } s m args below meth c Γ A g (some (.int fin)) 89 9 [(0, .ref (ad Γ 701)), (1, .int v1), (2, .int v2), (3, .int v3), (4, .int v4), (5, .int v5), (6, .int v6)] [] g := by
  intro H locs ls hw hS hl
  unfold bX7_bestGuards_89 at hf
  obtain ⟨hx, hb, hml, hr, hown, htw, hlocks, hE⟩ := id C
  have hown : s.vm.findClass RX7 = some m.cls := hown
  refine lv_iinc (v := v6 + 1) (lv' := [(6, .int (v6 + 1)), (0, .ref (ad Γ 701)), (1, .int v1), (2, .int v2), (3, .int v3), (4, .int v4), (5, .int v5)]) hx hb dX7_bestGuards_89 hl (k := 6) rfl (by rfl) (by decide) rfl (fun ls hl => ?_)
  refine lv_goto (tgt := 18) hx hb dX7_bestGuards_92 (by decide) ?_
  obtain rfl := Option.some.inj hf
  exact hq.1 _ rfl H locs ls hw hS (lv_sub hl [1, 2, 3, 4, 5, 6, 0] rfl)

noncomputable def bX7_bestGuards_81 (g : Gs) (v1 : Int32) (v2 : Int32) (v3 : Int32) (v6 : Int32) (v8 : Int32) : Option ((Int32 × Int32 × Int32) ⊕ Int32) :=
  bX7_bestGuards_89 g v1 v2 v3 v6 v8 v6
set_option maxRecDepth 100000 in
set_option maxHeartbeats 4000000 in
theorem wX7_bestGuards_81 {p : Program} {l : Launch} {e : Env} {s : State} {m : MethodId} {args : Array Value} {below : List Frame} {meth : Method} {c : Code} {Γ : Gm} {A : Nat → Prop} {g : Gs} {v1 : Int32} {v2 : Int32} {v3 : Int32} {v6 : Int32} {v8 : Int32} {q : ((Int32 × Int32 × Int32) ⊕ Int32)} {fin : Int32} (C : Cx p s m args meth c yX7_bestGuards cX7_bestGuards 9 (some .int) Γ A) (hf : bX7_bestGuards_81 g v1 v2 v3 v6 v8 = some q) (hq : (KC (fun st : Int32 × Int32 × Int32 => Wk p l e { frames := 2, cells := 0, slots := 0, locals := 47 } s m args below meth c Γ A g (some (.int fin)) 18 9 [(0, .ref (ad Γ 701)), (1, .int v1), (2, .int v2), (3, .int v3), (4, .int st.1), (5, .int st.2.1), (6, .int st.2.2)] [] g) (fun x => x = fin)) q) : Wk p l e { frames := 2, cells := 0, slots := 0, locals := 47 } s m args below meth c Γ A g (some (.int fin)) 81 9 [(0, .ref (ad Γ 701)), (1, .int v1), (2, .int v2), (3, .int v3), (6, .int v6), (8, .int v8)] [] g := by
  intro H locs ls hw hS hl
  unfold bX7_bestGuards_81 at hf
  obtain ⟨hx, hb, hml, hr, hown, htw, hlocks, hE⟩ := id C
  have hown : s.vm.findClass RX7 = some m.cls := hown
  refine lv_iload hx hb dX7_bestGuards_81 (lv_at hl 5 rfl) ?_
  refine lv_istore (lv' := [(5, .int v8), (0, .ref (ad Γ 701)), (1, .int v1), (2, .int v2), (3, .int v3), (6, .int v6), (8, .int v8)]) hx hb dX7_bestGuards_83 hl (by decide) rfl (fun ls hl => ?_)
  refine lv_iload hx hb dX7_bestGuards_85 (lv_at hl 5 rfl) ?_
  refine lv_istore (lv' := [(4, .int v6), (5, .int v8), (0, .ref (ad Γ 701)), (1, .int v1), (2, .int v2), (3, .int v3), (6, .int v6), (8, .int v8)]) hx hb dX7_bestGuards_87 hl (by decide) rfl (fun ls hl => ?_)
  exact wX7_bestGuards_89 C hf hq H locs ls hw hS (lv_sub hl [2, 3, 4, 5, 0, 1, 6] rfl)

noncomputable def bX7_bestGuards_18 (g : Gs) (v1 : Int32) (v2 : Int32) (v3 : Int32) (v4 : Int32) (v5 : Int32) (v6 : Int32) : Option ((Int32 × Int32 × Int32) ⊕ Int32) :=
  if v1 < v6 then some (.inr (v4)) else (fJ6_bitCount_0f7a4 v6).bind fun z1 => if z1 ≤ v2 then (fX7_bestPieces g (v1 &&& (v6 ^^^ (-1))) v3).bind fun z2 => (fX7_got g z2).bind fun z3 => if z3 < v5 then bX7_bestGuards_81 g v1 v2 v3 v6 z3 else if z3 = v5 then (fJ6_bitCount_0f7a4 v4).bind fun z4 => if z4 ≤ z1 then bX7_bestGuards_89 g v1 v2 v3 v4 v5 v6 else bX7_bestGuards_81 g v1 v2 v3 v6 z3 else bX7_bestGuards_89 g v1 v2 v3 v4 v5 v6 else bX7_bestGuards_89 g v1 v2 v3 v4 v5 v6
set_option maxRecDepth 100000 in
set_option maxHeartbeats 4000000 in
theorem wX7_bestGuards_18 {p : Program} {l : Launch} {e : Env} {s : State} {m : MethodId} {args : Array Value} {below : List Frame} {meth : Method} {c : Code} {Γ : Gm} {A : Nat → Prop} {g : Gs} {v1 : Int32} {v2 : Int32} {v3 : Int32} {v4 : Int32} {v5 : Int32} {v6 : Int32} {q : ((Int32 × Int32 × Int32) ⊕ Int32)} {fin : Int32} (C : Cx p s m args meth c yX7_bestGuards cX7_bestGuards 9 (some .int) Γ A) (hf : bX7_bestGuards_18 g v1 v2 v3 v4 v5 v6 = some q) (hq : (KC (fun st : Int32 × Int32 × Int32 => Wk p l e { frames := 2, cells := 0, slots := 0, locals := 47 } s m args below meth c Γ A g (some (.int fin)) 18 9 [(0, .ref (ad Γ 701)), (1, .int v1), (2, .int v2), (3, .int v3), (4, .int st.1), (5, .int st.2.1), (6, .int st.2.2)] [] g) (fun x => x = fin)) q) : Wk p l e { frames := 2, cells := 0, slots := 0, locals := 47 } s m args below meth c Γ A g (some (.int fin)) 18 9 [(0, .ref (ad Γ 701)), (1, .int v1), (2, .int v2), (3, .int v3), (4, .int v4), (5, .int v5), (6, .int v6)] [] g := by
  intro H locs ls hw hS hl
  unfold bX7_bestGuards_18 at hf
  obtain ⟨hx, hb, hml, hr, hown, htw, hlocks, hE⟩ := id C
  have hown : s.vm.findClass RX7 = some m.cls := hown
  refine lv_iload hx hb dX7_bestGuards_18 (lv_at hl 6 rfl) ?_
  refine lv_iload_n hx hb dX7_bestGuards_20 rfl (lv_at hl 1 rfl) ?_
  refine lv_icmp_gt (tgt := 95) hx hb dX7_bestGuards_21 (by decide) (fun c9 => ?_) (fun c9 => ?_)
  · have hf := ifp c9 hf
    refine lv_iload hx hb dX7_bestGuards_95 (lv_at hl 4 rfl) ?_
    obtain rfl := Option.some.inj hf
    have hq := hq.2 _ rfl
    subst hq
    exact rt_i C hw hS dX7_bestGuards_97
  · have hf := ifn c9 hf
    refine lv_iload hx hb dX7_bestGuards_24 (lv_at hl 6 rfl) ?_
    obtain ⟨z1, hz1, hf⟩ := bd hf
    refine cl_Ss (rest := []) (kJ6_bitCount_0f7a4 (l := l) (Γ := Γ) (A := A) (G := g) hz1) ⟨hx, hb, hml, hown, htw⟩ hE hw hS mw938 mw871 mw136 mw872 pdJ6_bitCount_0f7a4 ⟨Nat.le_of_ble_eq_true rfl, Nat.le_of_ble_eq_true rfl⟩ rfl rfl hl.1 (Nat.le_of_ble_eq_true rfl) dX7_bestGuards_26 (fun H locs hw hS => ?_)
    refine lv_istore (lv' := [(7, .int z1), (0, .ref (ad Γ 701)), (1, .int v1), (2, .int v2), (3, .int v3), (4, .int v4), (5, .int v5), (6, .int v6)]) hx hb dX7_bestGuards_29 hl (by decide) rfl (fun ls hl => ?_)
    refine lv_iload hx hb dX7_bestGuards_31 (lv_at hl 0 rfl) ?_
    refine lv_iload_n hx hb dX7_bestGuards_33 rfl (lv_at hl 3 rfl) ?_
    refine lv_icmp_le (tgt := 40) hx hb dX7_bestGuards_34 (by decide) (fun c8 => ?_) (fun c8 => ?_)
    · have hf := ifp c8 hf
      refine lv_aload_n hx hb dX7_bestGuards_40 rfl (lv_at hl 1 rfl) ?_
      refine lv_aload_n hx hb dX7_bestGuards_41 rfl (lv_at hl 1 rfl) ?_
      refine lv_iload_n hx hb dX7_bestGuards_42 rfl (lv_at hl 2 rfl) ?_
      refine lv_iload hx hb dX7_bestGuards_43 (lv_at hl 7 rfl) ?_
      refine lv_iconst (v := (-1)) hx hb dX7_bestGuards_45 (by decide) ?_
      refine lv_ixor hx hb dX7_bestGuards_46 ?_
      refine lv_iand hx hb dX7_bestGuards_47 ?_
      refine lv_iload_n hx hb dX7_bestGuards_48 rfl (lv_at hl 4 rfl) ?_
      obtain ⟨z2, hz2, hf⟩ := bd hf
      refine cl_Vs (rest := [.ref (ad Γ 701)]) (kX7_bestPieces (l := l) (Γ := Γ) (A := A) hz2) ⟨hx, hb, hml, hown, htw⟩ hE hw hS (hw _ _ (wf_701 hE)) (q0 := 0) rfl rfl mw1162 mw935 mw936 mw128 mw937 pdX7_bestPieces ⟨Nat.le_of_ble_eq_true rfl, Nat.le_of_ble_eq_true rfl⟩ rfl rfl hl.1 (Nat.le_of_ble_eq_true rfl) dX7_bestGuards_49 (fun H locs hw hS => ?_)
      obtain ⟨z3, hz3, hf⟩ := bd hf
      refine cl_Vs (rest := []) (kX7_got (l := l) (Γ := Γ) (A := A) hz3) ⟨hx, hb, hml, hown, htw⟩ hE hw hS (hw _ _ (wf_701 hE)) (q0 := 0) rfl rfl mw939 mw940 mw941 mw128 mw942 pdX7_got ⟨Nat.le_of_ble_eq_true rfl, Nat.le_of_ble_eq_true rfl⟩ rfl rfl hl.1 (Nat.le_of_ble_eq_true rfl) dX7_bestGuards_52 (fun H locs hw hS => ?_)
      refine lv_istore (lv' := [(8, .int z3), (7, .int z1), (0, .ref (ad Γ 701)), (1, .int v1), (2, .int v2), (3, .int v3), (4, .int v4), (5, .int v5), (6, .int v6)]) hx hb dX7_bestGuards_55 hl (by decide) rfl (fun ls hl => ?_)
      refine lv_iload hx hb dX7_bestGuards_57 (lv_at hl 0 rfl) ?_
      refine lv_iload hx hb dX7_bestGuards_59 (lv_at hl 7 rfl) ?_
      refine lv_icmp_lt (tgt := 81) hx hb dX7_bestGuards_61 (by decide) (fun c7 => ?_) (fun c7 => ?_)
      · have hf := ifp c7 hf
        exact wX7_bestGuards_81 C hf hq H locs ls hw hS (lv_sub hl [2, 3, 4, 5, 8, 0] rfl)
      · have hf := ifn c7 hf
        refine lv_iload hx hb dX7_bestGuards_64 (lv_at hl 0 rfl) ?_
        refine lv_iload hx hb dX7_bestGuards_66 (lv_at hl 7 rfl) ?_
        refine lv_icmp_ne (tgt := 89) hx hb dX7_bestGuards_68 (by decide) (fun c6 => ?_) (fun c6 => ?_)
        · have hf := ifn c6 hf
          exact wX7_bestGuards_89 C hf hq H locs ls hw hS (lv_sub hl [2, 3, 4, 5, 6, 7, 8] rfl)
        · have hf := ifp c6 hf
          refine lv_iload hx hb dX7_bestGuards_71 (lv_at hl 1 rfl) ?_
          refine lv_iload hx hb dX7_bestGuards_73 (lv_at hl 6 rfl) ?_
          obtain ⟨z4, hz4, hf⟩ := bd hf
          refine cl_Ss (rest := [.int z1]) (kJ6_bitCount_0f7a4 (l := l) (Γ := Γ) (A := A) (G := g) hz4) ⟨hx, hb, hml, hown, htw⟩ hE hw hS mw938 mw871 mw136 mw872 pdJ6_bitCount_0f7a4 ⟨Nat.le_of_ble_eq_true rfl, Nat.le_of_ble_eq_true rfl⟩ rfl rfl hl.1 (Nat.le_of_ble_eq_true rfl) dX7_bestGuards_75 (fun H locs hw hS => ?_)
          refine lv_icmp_ge (tgt := 89) hx hb dX7_bestGuards_78 (by decide) (fun c5 => ?_) (fun c5 => ?_)
          · have hf := ifp c5 hf
            exact wX7_bestGuards_89 C hf hq H locs ls hw hS (lv_sub hl [2, 3, 4, 5, 6, 7, 8] rfl)
          · have hf := ifn c5 hf
            exact wX7_bestGuards_81 C hf hq H locs ls hw hS (lv_sub hl [2, 3, 4, 5, 8, 0] rfl)
    · have hf := ifn c8 hf
      refine lv_goto (tgt := 89) hx hb dX7_bestGuards_37 (by decide) ?_
      exact wX7_bestGuards_89 C hf hq H locs ls hw hS (lv_sub hl [1, 2, 3, 4, 5, 6, 7] rfl)

set_option maxRecDepth 100000 in
set_option maxHeartbeats 4000000 in
theorem lwX7_bestGuards_18 {p : Program} {l : Launch} {e : Env} {s : State} {m : MethodId} {args : Array Value} {below : List Frame} {meth : Method} {c : Code} {Γ : Gm} {A : Nat → Prop} {g : Gs} {v1 : Int32} {v2 : Int32} {v3 : Int32} {v4 : Int32} {v5 : Int32} {v6 : Int32} {q : Int32} {fin : Int32} (C : Cx p s m args meth c yX7_bestGuards cX7_bestGuards 9 (some .int) Γ A) (hf : iter (fun st : Int32 × Int32 × Int32 => bX7_bestGuards_18 g v1 v2 v3 st.1 st.2.1 st.2.2) (v4, v5, v6) = some q) (hq : (fun x => x = fin) q) : Wk p l e { frames := 2, cells := 0, slots := 0, locals := 47 } s m args below meth c Γ A g (some (.int fin)) 18 9 [(0, .ref (ad Γ 701)), (1, .int v1), (2, .int v2), (3, .int v3), (4, .int v4), (5, .int v5), (6, .int v6)] [] g := by
  intro H locs ls hw hS hl
  refine iter_walk (P := (fun st : Int32 × Int32 × Int32 => Wk p l e { frames := 2, cells := 0, slots := 0, locals := 47 } s m args below meth c Γ A g (some (.int fin)) 18 9 [(0, .ref (ad Γ 701)), (1, .int v1), (2, .int v2), (3, .int v3), (4, .int st.1), (5, .int st.2.1), (6, .int st.2.2)] [] g)) (K := (fun x => x = fin)) (fun st q hq1 h1 h2 => ?_) hf hq H locs ls hw hS hl
  exact wX7_bestGuards_18 (v4 := st.1) (v5 := st.2.1) (v6 := st.2.2) C hq1 ⟨h1, h2⟩

noncomputable def fX7_bestGuards (g : Gs) (v1 : Int32) (v2 : Int32) (v3 : Int32) : Option Int32 :=
  (fX7_bestPieces g v1 v3).bind fun z10 => (fX7_got g z10).bind fun z11 => iter (fun st : Int32 × Int32 × Int32 => bX7_bestGuards_18 g v1 v2 v3 st.1 st.2.1 st.2.2) (0, z11, 1)
set_option maxRecDepth 100000 in
set_option maxHeartbeats 4000000 in
theorem wX7_bestGuards_e {p : Program} {l : Launch} {e : Env} {s : State} {m : MethodId} {args : Array Value} {below : List Frame} {meth : Method} {c : Code} {Γ : Gm} {A : Nat → Prop} {g : Gs} {v1 : Int32} {v2 : Int32} {v3 : Int32} {q : Int32} {fin : Int32} (C : Cx p s m args meth c yX7_bestGuards cX7_bestGuards 9 (some .int) Γ A) (hf : fX7_bestGuards g v1 v2 v3 = some q) (hq : (fun x => x = fin) q) : Wk p l e { frames := 2, cells := 0, slots := 0, locals := 47 } s m args below meth c Γ A g (some (.int fin)) 0 9 [(0, .ref (ad Γ 701)), (1, .int v1), (2, .int v2), (3, .int v3)] [] g := by
  intro H locs ls hw hS hl
  unfold fX7_bestGuards at hf
  obtain ⟨hx, hb, hml, hr, hown, htw, hlocks, hE⟩ := id C
  have hown : s.vm.findClass RX7 = some m.cls := hown
  refine lv_iconst (v := 0) hx hb dX7_bestGuards_0 (by decide) ?_
  refine lv_istore (lv' := [(4, .int 0), (0, .ref (ad Γ 701)), (1, .int v1), (2, .int v2), (3, .int v3)]) hx hb dX7_bestGuards_1 hl (by decide) rfl (fun ls hl => ?_)
  refine lv_aload_n hx hb dX7_bestGuards_3 rfl (lv_at hl 1 rfl) ?_
  refine lv_aload_n hx hb dX7_bestGuards_4 rfl (lv_at hl 1 rfl) ?_
  refine lv_iload_n hx hb dX7_bestGuards_5 rfl (lv_at hl 2 rfl) ?_
  refine lv_iload_n hx hb dX7_bestGuards_6 rfl (lv_at hl 4 rfl) ?_
  obtain ⟨z10, hz10, hf⟩ := bd hf
  refine cl_Vs (rest := [.ref (ad Γ 701)]) (kX7_bestPieces (l := l) (Γ := Γ) (A := A) hz10) ⟨hx, hb, hml, hown, htw⟩ hE hw hS (hw _ _ (wf_701 hE)) (q0 := 0) rfl rfl mw1162 mw935 mw936 mw128 mw937 pdX7_bestPieces ⟨Nat.le_of_ble_eq_true rfl, Nat.le_of_ble_eq_true rfl⟩ rfl rfl hl.1 (Nat.le_of_ble_eq_true rfl) dX7_bestGuards_7 (fun H locs hw hS => ?_)
  obtain ⟨z11, hz11, hf⟩ := bd hf
  refine cl_Vs (rest := []) (kX7_got (l := l) (Γ := Γ) (A := A) hz11) ⟨hx, hb, hml, hown, htw⟩ hE hw hS (hw _ _ (wf_701 hE)) (q0 := 0) rfl rfl mw939 mw940 mw941 mw128 mw942 pdX7_got ⟨Nat.le_of_ble_eq_true rfl, Nat.le_of_ble_eq_true rfl⟩ rfl rfl hl.1 (Nat.le_of_ble_eq_true rfl) dX7_bestGuards_10 (fun H locs hw hS => ?_)
  refine lv_istore (lv' := [(5, .int z11), (4, .int 0), (0, .ref (ad Γ 701)), (1, .int v1), (2, .int v2), (3, .int v3)]) hx hb dX7_bestGuards_13 hl (by decide) rfl (fun ls hl => ?_)
  refine lv_iconst (v := 1) hx hb dX7_bestGuards_15 (by decide) ?_
  refine lv_istore (lv' := [(6, .int 1), (5, .int z11), (4, .int 0), (0, .ref (ad Γ 701)), (1, .int v1), (2, .int v2), (3, .int v3)]) hx hb dX7_bestGuards_16 hl (by decide) rfl (fun ls hl => ?_)
  exact lwX7_bestGuards_18 C hf hq H locs ls hw hS (lv_sub hl [3, 4, 5, 6, 2, 1, 0] rfl)

theorem kX7_bestGuards {l : Launch} {Γ : Gm} {A : Nat → Prop} {g : Gs} {v1 : Int32} {v2 : Int32} {v3 : Int32} {fin : Int32} (hf : fX7_bestGuards g v1 v2 v3 = some fin) : Kt l yX7_bestGuards cX7_bestGuards 9 (some .int) 2 47 Γ A g g [.ref (ad Γ 701), .int v1, .int v2, .int v3] (some (.int fin)) :=
  kt_of (by decide) (Nat.le_of_ble_eq_true rfl) (fun p e s m args below meth c C => wX7_bestGuards_e C hf rfl)
noncomputable def bX8_append_3 (r : Rec) (o : Nat) (v1 : Int32) (v2 : Int32) : Option ((Int32 × Rec) ⊕ Rec) :=
  if v2 < 0 then some (.inr (r)) else if 600 ≤ (gi r 1) then some (.inr (r)) else gd (inR (gi r 1) 600) ((some (sa r 0 (upd (ga r 0) (Int32.toNatClampNeg (gi r 1)) (vp_nar .byte ((v1 >>> (v2 &&& 31) : Int32).toInt8.toInt32))))).bind fun r2 => (some (si r2 1 ((gi r2 1) + 1))).bind fun r3 => some (.inl (v2 + (-8), r3)))
set_option maxRecDepth 100000 in
set_option maxHeartbeats 4000000 in
theorem wX8_append_3 {p : Program} {l : Launch} {e : Env} {s : State} {m : MethodId} {args : Array Value} {below : List Frame} {meth : Method} {c : Code} {Γ : Gm} {A : Nat → Prop} {G : Gs} {o : Nat} {r : Rec} {v1 : Int32} {v2 : Int32} {q : ((Int32 × Rec) ⊕ Rec)} {fin : Rec} (C : Cx p s m args meth c yX8_append cX8_append 3 none Γ A) (hk : kd Γ o = some 8) (hf : bX8_append_3 r o v1 v2 = some q) (hq : (KC (fun st : Int32 × Rec => Wk p l e { frames := 0, cells := 0, slots := 0, locals := 0 } s m args below meth c Γ A (ug G o fin) none 3 3 [(0, .ref (ad Γ o)), (1, .int v1), (2, .int st.1)] [] (ug G o st.2)) (fun x => x = fin)) q) : Wk p l e { frames := 0, cells := 0, slots := 0, locals := 0 } s m args below meth c Γ A (ug G o fin) none 3 3 [(0, .ref (ad Γ o)), (1, .int v1), (2, .int v2)] [] (ug G o r) := by
  intro H locs ls hw hS hl
  unfold bX8_append_3 at hf
  obtain ⟨hx, hb, hml, hr, hown, htw, hlocks, hE⟩ := id C
  have hown : s.vm.findClass RX8 = some m.cls := hown
  refine lv_iload_n hx hb dX8_append_3 rfl (lv_at hl 2 rfl) ?_
  refine lv_if_lt (tgt := 46) hx hb dX8_append_4 (by decide) (fun c5 => ?_) (fun c5 => ?_)
  · have hf := ifp c5 hf
    obtain rfl := Option.some.inj hf
    have hq := hq.2 _ rfl
    subst hq
    exact rt_v C hw hS dX8_append_46
  · have hf := ifn c5 hf
    refine lv_aload_n hx hb dX8_append_7 rfl (lv_at hl 0 rfl) ?_
    refine va_get (ci := 8) (v := .int (gi r 1)) (C := RX8) (T := TX8) (N := 9) hx hb htw uwX8 hown hE.1 (wo_me hw hk) 0 rfl rfl 1 (by decide) (htw _ mw245) (fun _ h9 => h9) rfl dX8_append_8 ?_
    refine lv_sipush (v := 600) hx hb dX8_append_11 (by decide) ?_
    refine lv_icmp_ge (tgt := 46) hx hb dX8_append_14 (by decide) (fun c4 => ?_) (fun c4 => ?_)
    · have hf := ifp c4 hf
      obtain rfl := Option.some.inj hf
      have hq := hq.2 _ rfl
      subst hq
      exact rt_v C hw hS dX8_append_46
    · have hf := ifn c4 hf
      refine lv_aload_n hx hb dX8_append_17 rfl (lv_at hl 0 rfl) ?_
      refine va_get (ci := 8) (v := .ref (aa Γ o 0)) (C := RX8) (T := TX8) (N := 9) hx hb htw uwX8 hown hE.1 (wo_me hw hk) 0 rfl rfl 0 (by decide) (htw _ mw243) (fun _ h9 => h9) rfl dX8_append_18 ?_
      refine lv_aload_n hx hb dX8_append_21 rfl (lv_at hl 0 rfl) ?_
      refine va_get (ci := 8) (v := .int (gi r 1)) (C := RX8) (T := TX8) (N := 9) hx hb htw uwX8 hown hE.1 (wo_me hw hk) 0 rfl rfl 1 (by decide) (htw _ mw245) (fun _ h9 => h9) rfl dX8_append_22 ?_
      refine lv_iload_n hx hb dX8_append_25 rfl (lv_at hl 1 rfl) ?_
      refine lv_iload_n hx hb dX8_append_26 rfl (lv_at hl 2 rfl) ?_
      refine lv_ishr hx hb dX8_append_27 ?_
      refine lv_i2b (v := (v1 >>> (v2 &&& 31) : Int32).toInt8.toInt32) hx hb dX8_append_28 rfl ?_
      obtain ⟨g1, hf⟩ := gd_some hf
      obtain ⟨r2, hr2, hf⟩ := bd hf
      have hr2 := Option.some.inj hr2
      refine wo_bast hx hb hE hw hS hk (q0 := 1) rfl (inR_in g1) (sa8_0 hr2) dX8_append_29 (fun H locs hw hS => ?_)
      refine lv_aload_n hx hb dX8_append_30 rfl (lv_at hl 0 rfl) ?_
      refine lv_dup hx hb dX8_append_31 rfl ?_
      refine va_get (ci := 8) (v := .int (gi r2 1)) (C := RX8) (T := TX8) (N := 9) hx hb htw uwX8 hown hE.1 (wo_me hw hk) 0 rfl rfl 1 (by decide) (htw _ mw245) (fun _ h9 => h9) rfl dX8_append_32 ?_
      refine lv_iconst (v := 1) hx hb dX8_append_35 (by decide) ?_
      refine lv_iadd hx hb dX8_append_36 ?_
      obtain ⟨r3, hr3, hf⟩ := bd hf
      have hr3 := Option.some.inj hr3
      refine wo_put (C := RX8) (T := TX8) (N := 9) (v := .int ((gi r2 1) + 1)) (ty := .int) hx hb htw uwX8 tyX8 tyX8_ok nmX8 hown hE hw hS hk rfl rfl 1 (by decide) (htw _ mw245) (fun _ h9 => h9) rfl (tyX8_ok 1 (by decide)) rfl rfl (Nat.le_of_ble_eq_true rfl) (st8_1 hr3) dX8_append_37 (fun H locs hw hS => ?_)
      refine lv_iinc (v := v2 + (-8)) (lv' := [(2, .int (v2 + (-8))), (0, .ref (ad Γ o)), (1, .int v1)]) hx hb dX8_append_40 hl (k := 2) rfl (by rfl) (by decide) rfl (fun ls hl => ?_)
      refine lv_goto (tgt := 3) hx hb dX8_append_43 (by decide) ?_
      obtain rfl := Option.some.inj hf
      exact hq.1 _ rfl H locs ls hw hS (lv_sub hl [1, 2, 0] rfl)

set_option maxRecDepth 100000 in
set_option maxHeartbeats 4000000 in
theorem lwX8_append_3 {p : Program} {l : Launch} {e : Env} {s : State} {m : MethodId} {args : Array Value} {below : List Frame} {meth : Method} {c : Code} {Γ : Gm} {A : Nat → Prop} {G : Gs} {o : Nat} {r : Rec} {v1 : Int32} {v2 : Int32} {q : Rec} {fin : Rec} (C : Cx p s m args meth c yX8_append cX8_append 3 none Γ A) (hk : kd Γ o = some 8) (hf : iter (fun st : Int32 × Rec => bX8_append_3 st.2 o v1 st.1) (v2, r) = some q) (hq : (fun x => x = fin) q) : Wk p l e { frames := 0, cells := 0, slots := 0, locals := 0 } s m args below meth c Γ A (ug G o fin) none 3 3 [(0, .ref (ad Γ o)), (1, .int v1), (2, .int v2)] [] (ug G o r) := by
  intro H locs ls hw hS hl
  refine iter_walk (P := (fun st : Int32 × Rec => Wk p l e { frames := 0, cells := 0, slots := 0, locals := 0 } s m args below meth c Γ A (ug G o fin) none 3 3 [(0, .ref (ad Γ o)), (1, .int v1), (2, .int st.1)] [] (ug G o st.2))) (K := (fun x => x = fin)) (fun st q hq1 h1 h2 => ?_) hf hq H locs ls hw hS hl
  exact wX8_append_3 (r := st.2) (v2 := st.1) C hk hq1 ⟨h1, h2⟩

noncomputable def fX8_append (r : Rec) (o : Nat) (v1 : Int32) : Option Rec :=
  iter (fun st : Int32 × Rec => bX8_append_3 st.2 o v1 st.1) (24, r)
set_option maxRecDepth 100000 in
set_option maxHeartbeats 4000000 in
theorem wX8_append_e {p : Program} {l : Launch} {e : Env} {s : State} {m : MethodId} {args : Array Value} {below : List Frame} {meth : Method} {c : Code} {Γ : Gm} {A : Nat → Prop} {G : Gs} {o : Nat} {r : Rec} {v1 : Int32} {q : Rec} {fin : Rec} (C : Cx p s m args meth c yX8_append cX8_append 3 none Γ A) (hk : kd Γ o = some 8) (hf : fX8_append r o v1 = some q) (hq : (fun x => x = fin) q) : Wk p l e { frames := 0, cells := 0, slots := 0, locals := 0 } s m args below meth c Γ A (ug G o fin) none 0 3 [(0, .ref (ad Γ o)), (1, .int v1)] [] (ug G o r) := by
  intro H locs ls hw hS hl
  unfold fX8_append at hf
  obtain ⟨hx, hb, hml, hr, hown, htw, hlocks, hE⟩ := id C
  have hown : s.vm.findClass RX8 = some m.cls := hown
  refine lv_bipush (v := 24) hx hb dX8_append_0 (by decide) ?_
  refine lv_istore_n (lv' := [(2, .int 24), (0, .ref (ad Γ o)), (1, .int v1)]) hx hb dX8_append_2 rfl hl (by decide) rfl (fun ls hl => ?_)
  exact lwX8_append_3 C hk hf hq H locs ls hw hS (lv_sub hl [1, 2, 0] rfl)

theorem kX8_append {l : Launch} {Γ : Gm} {A : Nat → Prop} {G : Gs} {o : Nat} {r : Rec} {v1 : Int32} {fin : Rec} (hk : kd Γ o = some 8) (hf : fX8_append r o v1 = some fin) : Kt l yX8_append cX8_append 3 none 0 0 Γ A (ug G o r) (ug G o fin) [.ref (ad Γ o), .int v1] none :=
  kt_of (by decide) (Nat.le_of_ble_eq_true rfl) (fun p e s m args below meth c C => wX8_append_e C hk hf rfl)
theorem kgX8_append {l : Launch} {Γ : Gm} {A : Nat → Prop} {G : Gs} {o : Nat} {v1 : Int32} {fin : Rec} (hk : kd Γ o = some 8) (hf : fX8_append (G o) o v1 = some fin) : Kt l yX8_append cX8_append 3 none 0 0 Γ A G (ug G o fin) [.ref (ad Γ o), .int v1] none := by
  have h := kX8_append (l := l) (A := A) (G := G) (r := G o) hk hf
  rw [ug_self] at h
  exact h
noncomputable def bX8_houseAt_14 (r : Rec) (o : Nat) : Option (Option Nat) :=
  some (none)
set_option maxRecDepth 100000 in
set_option maxHeartbeats 4000000 in
theorem wX8_houseAt_14 {p : Program} {l : Launch} {e : Env} {s : State} {m : MethodId} {args : Array Value} {below : List Frame} {meth : Method} {c : Code} {Γ : Gm} {A : Nat → Prop} {G : Gs} {o : Nat} {r : Rec} {q : (Option Nat)} {fin : Option Nat} (C : Cx p s m args meth c yX8_houseAt cX8_houseAt 2 (some (.object "TarnishTurns$House")) Γ A) (hk : kd Γ o = some 8) (hf : bX8_houseAt_14 r o = some q) (hq : (fun x => x = fin) q) : Wk p l e { frames := 0, cells := 0, slots := 0, locals := 0 } s m args below meth c Γ A (ug G o r) (some (va_rf (fin.map (ad Γ)))) 14 2 [] [] (ug G o r) := by
  intro H locs ls hw hS hl
  unfold bX8_houseAt_14 at hf
  obtain ⟨hx, hb, hml, hr, hown, htw, hlocks, hE⟩ := id C
  have hown : s.vm.findClass RX8 = some m.cls := hown
  refine lv_null hx hb dX8_houseAt_14 ?_
  refine lv_goto (tgt := 24) hx hb dX8_houseAt_15 (by decide) ?_
  obtain rfl := Option.some.inj hf
  subst hq
  exact rt_0 C hw hS dX8_houseAt_24

noncomputable def fX8_houseAt (r : Rec) (o : Nat) (v1 : Int32) : Option (Option Nat) :=
  if v1 < 0 then bX8_houseAt_14 r o else if v1 < (ga r 4 (Int32.toNatClampNeg 0)) then gd (inR v1 2) ((some (200 + 2 * (o - 800) + Int32.toNatClampNeg v1)).bind fun h2 => some (some h2)) else bX8_houseAt_14 r o
set_option maxRecDepth 100000 in
set_option maxHeartbeats 4000000 in
theorem wX8_houseAt_e {p : Program} {l : Launch} {e : Env} {s : State} {m : MethodId} {args : Array Value} {below : List Frame} {meth : Method} {c : Code} {Γ : Gm} {A : Nat → Prop} {G : Gs} {o : Nat} {r : Rec} {v1 : Int32} {q : (Option Nat)} {fin : Option Nat} (C : Cx p s m args meth c yX8_houseAt cX8_houseAt 2 (some (.object "TarnishTurns$House")) Γ A) (hk : kd Γ o = some 8) (hf : fX8_houseAt r o v1 = some q) (hq : (fun x => x = fin) q) : Wk p l e { frames := 0, cells := 0, slots := 0, locals := 0 } s m args below meth c Γ A (ug G o r) (some (va_rf (fin.map (ad Γ)))) 0 2 [(0, .ref (ad Γ o)), (1, .int v1)] [] (ug G o r) := by
  intro H locs ls hw hS hl
  unfold fX8_houseAt at hf
  obtain ⟨hx, hb, hml, hr, hown, htw, hlocks, hE⟩ := id C
  have hown : s.vm.findClass RX8 = some m.cls := hown
  refine lv_iload_n hx hb dX8_houseAt_0 rfl (lv_at hl 1 rfl) ?_
  refine lv_if_lt (tgt := 14) hx hb dX8_houseAt_1 (by decide) (fun c4 => ?_) (fun c4 => ?_)
  · have hf := ifp c4 hf
    exact wX8_houseAt_14 C hk hf hq H locs ls hw hS (lv_sub hl [] rfl)
  · have hf := ifn c4 hf
    refine lv_iload_n hx hb dX8_houseAt_4 rfl (lv_at hl 1 rfl) ?_
    refine lv_aload_n hx hb dX8_houseAt_5 rfl (lv_at hl 0 rfl) ?_
    refine va_get (ci := 8) (v := .ref (aa Γ o 4)) (C := RX8) (T := TX8) (N := 9) hx hb htw uwX8 hown hE.1 (wo_me hw hk) 0 rfl rfl 4 (by decide) (htw _ mw251) (fun _ h9 => h9) rfl dX8_houseAt_6 ?_
    refine lv_iconst (v := 0) hx hb dX8_houseAt_9 (by decide) ?_
    refine va_iald hx hb hE.1 (wo_me hw hk) 2 0 rfl rfl (inR_in (i := 0) (n := 4) (by decide)) dX8_houseAt_10 ?_
    refine lv_icmp_lt (tgt := 18) hx hb dX8_houseAt_11 (by decide) (fun c3 => ?_) (fun c3 => ?_)
    · have hf := ifp c3 hf
      refine lv_aload_n hx hb dX8_houseAt_18 rfl (lv_at hl 0 rfl) ?_
      refine va_get (ci := 8) (v := .ref (aa Γ o 5)) (C := RX8) (T := TX8) (N := 9) hx hb htw uwX8 hown hE.1 (wo_me hw hk) 0 rfl rfl 5 (by decide) (htw _ mw253) (fun _ h9 => h9) rfl dX8_houseAt_19 ?_
      refine lv_iload_n hx hb dX8_houseAt_22 rfl (lv_at hl 1 rfl) ?_
      obtain ⟨g1, hf⟩ := gd_some hf
      refine va_aldq hx hb hE.1 (wo_me hw hk) 3 3 rfl rfl (inR_in g1) dX8_houseAt_23 ?_
      refine W.eq (g2 := F0 m 24 ls [.ref (ad Γ (200 + 2 * (o - 800) + Int32.toNatClampNeg v1))]) (by rw [if_pos (inR_lt g1)]; rfl) ?_
      obtain ⟨h2, hh2, hf⟩ := bd hf
      have hh2 := Option.some.inj hh2
      refine tp1r hh2 ?_
      have kh2 : kd Γ h2 = some 2 := by rw [← hh2]; exact (wf_t hE hk (inR_lt g1)).1
      obtain rfl := Option.some.inj hf
      subst hq
      exact rt_a C hw hS dX8_houseAt_24
    · have hf := ifn c3 hf
      exact wX8_houseAt_14 C hk hf hq H locs ls hw hS (lv_sub hl [] rfl)

theorem kX8_houseAt {l : Launch} {Γ : Gm} {A : Nat → Prop} {G : Gs} {o : Nat} {r : Rec} {v1 : Int32} {fin : Option Nat} (hk : kd Γ o = some 8) (hf : fX8_houseAt r o v1 = some fin) : Kt l yX8_houseAt cX8_houseAt 2 (some (.object "TarnishTurns$House")) 0 0 Γ A (ug G o r) (ug G o r) [.ref (ad Γ o), .int v1] (some (va_rf (fin.map (ad Γ)))) :=
  kt_of (by decide) (Nat.le_of_ble_eq_true rfl) (fun p e s m args below meth c C => wX8_houseAt_e C hk hf rfl)
theorem kgX8_houseAt {l : Launch} {Γ : Gm} {A : Nat → Prop} {G : Gs} {o : Nat} {v1 : Int32} {fin : Option Nat} (hk : kd Γ o = some 8) (hf : fX8_houseAt (G o) o v1 = some fin) : Kt l yX8_houseAt cX8_houseAt 2 (some (.object "TarnishTurns$House")) 0 0 Γ A G G [.ref (ad Γ o), .int v1] (some (va_rf (fin.map (ad Γ)))) := by
  have h := kX8_houseAt (l := l) (A := A) (G := G) (r := G o) hk hf
  rw [ug_self] at h
  exact h
noncomputable def fX8_rowsAt (r : Rec) (o : Nat) (v1 : Int32) (v2 : Int32) : Option (Option Nat) :=
  if v1 < 0 then some (none) else if 4 ≤ v1 then some (none) else if v2 < 0 then some (none) else gd (inR v1 4) (if v2 < (ga r 4 (Int32.toNatClampNeg v1)) then if v1 = 1 then gd (inR v2 2) ((some (500 + 6 * (o - 800) + Int32.toNatClampNeg v2)).bind fun h3 => some (some h3)) else if v1 = 2 then gd (inR v2 2) ((some (502 + 6 * (o - 800) + Int32.toNatClampNeg v2)).bind fun h5 => some (some h5)) else if v1 = 3 then gd (inR v2 2) ((some (504 + 6 * (o - 800) + Int32.toNatClampNeg v2)).bind fun h7 => some (some h7)) else some (none) else some (none))
set_option maxRecDepth 100000 in
set_option maxHeartbeats 4000000 in
theorem wX8_rowsAt_e {p : Program} {l : Launch} {e : Env} {s : State} {m : MethodId} {args : Array Value} {below : List Frame} {meth : Method} {c : Code} {Γ : Gm} {A : Nat → Prop} {G : Gs} {o : Nat} {r : Rec} {v1 : Int32} {v2 : Int32} {q : (Option Nat)} {fin : Option Nat} (C : Cx p s m args meth c yX8_rowsAt cX8_rowsAt 3 (some (.object "TarnishTurns$Rows")) Γ A) (hk : kd Γ o = some 8) (hf : fX8_rowsAt r o v1 v2 = some q) (hq : (fun x => x = fin) q) : Wk p l e { frames := 0, cells := 0, slots := 0, locals := 0 } s m args below meth c Γ A (ug G o r) (some (va_rf (fin.map (ad Γ)))) 0 3 [(0, .ref (ad Γ o)), (1, .int v1), (2, .int v2)] [] (ug G o r) := by
  intro H locs ls hw hS hl
  unfold fX8_rowsAt at hf
  obtain ⟨hx, hb, hml, hr, hown, htw, hlocks, hE⟩ := id C
  have hown : s.vm.findClass RX8 = some m.cls := hown
  refine lv_iload_n hx hb dX8_rowsAt_0 rfl (lv_at hl 1 rfl) ?_
  refine lv_if_lt (tgt := 23) hx hb dX8_rowsAt_1 (by decide) (fun c14 => ?_) (fun c14 => ?_)
  · have hf := ifp c14 hf
    refine lv_null hx hb dX8_rowsAt_23 ?_
    obtain rfl := Option.some.inj hf
    subst hq
    exact rt_0 C hw hS dX8_rowsAt_24
  · have hf := ifn c14 hf
    refine lv_iload_n hx hb dX8_rowsAt_4 rfl (lv_at hl 1 rfl) ?_
    refine lv_iconst (v := 4) hx hb dX8_rowsAt_5 (by decide) ?_
    refine lv_icmp_ge (tgt := 23) hx hb dX8_rowsAt_6 (by decide) (fun c13 => ?_) (fun c13 => ?_)
    · have hf := ifp c13 hf
      refine lv_null hx hb dX8_rowsAt_23 ?_
      obtain rfl := Option.some.inj hf
      subst hq
      exact rt_0 C hw hS dX8_rowsAt_24
    · have hf := ifn c13 hf
      refine lv_iload_n hx hb dX8_rowsAt_9 rfl (lv_at hl 2 rfl) ?_
      refine lv_if_lt (tgt := 23) hx hb dX8_rowsAt_10 (by decide) (fun c12 => ?_) (fun c12 => ?_)
      · have hf := ifp c12 hf
        refine lv_null hx hb dX8_rowsAt_23 ?_
        obtain rfl := Option.some.inj hf
        subst hq
        exact rt_0 C hw hS dX8_rowsAt_24
      · have hf := ifn c12 hf
        refine lv_iload_n hx hb dX8_rowsAt_13 rfl (lv_at hl 2 rfl) ?_
        refine lv_aload_n hx hb dX8_rowsAt_14 rfl (lv_at hl 0 rfl) ?_
        refine va_get (ci := 8) (v := .ref (aa Γ o 4)) (C := RX8) (T := TX8) (N := 9) hx hb htw uwX8 hown hE.1 (wo_me hw hk) 0 rfl rfl 4 (by decide) (htw _ mw251) (fun _ h9 => h9) rfl dX8_rowsAt_15 ?_
        refine lv_iload_n hx hb dX8_rowsAt_18 rfl (lv_at hl 1 rfl) ?_
        obtain ⟨g1, hf⟩ := gd_some hf
        refine va_iald hx hb hE.1 (wo_me hw hk) 2 0 rfl rfl (inR_in g1) dX8_rowsAt_19 ?_
        refine lv_icmp_lt (tgt := 25) hx hb dX8_rowsAt_20 (by decide) (fun c11 => ?_) (fun c11 => ?_)
        · have hf := ifp c11 hf
          refine lv_iload_n hx hb dX8_rowsAt_25 rfl (lv_at hl 1 rfl) ?_
          by_cases c8 : v1 = 1
          · have hf := ifp c8 hf
            rw [c8]
            refine lv_tableIn (off := 26) (tgt := 52) hx hb dX8_rowsAt_26 (by decide) (by decide) (by rfl) (by decide) ?_
            refine lv_aload_n hx hb dX8_rowsAt_52 rfl (lv_at hl 0 rfl) ?_
            refine va_get (ci := 8) (v := .ref (aa Γ o 6)) (C := RX8) (T := TX8) (N := 9) hx hb htw uwX8 hown hE.1 (wo_me hw hk) 0 rfl rfl 6 (by decide) (htw _ mw254) (fun _ h9 => h9) rfl dX8_rowsAt_53 ?_
            refine lv_iload_n hx hb dX8_rowsAt_56 rfl (lv_at hl 2 rfl) ?_
            obtain ⟨g2, hf⟩ := gd_some hf
            refine va_aldq hx hb hE.1 (wo_me hw hk) 4 4 rfl rfl (inR_in g2) dX8_rowsAt_57 ?_
            refine W.eq (g2 := F0 m 58 ls [.ref (ad Γ (500 + 6 * (o - 800) + Int32.toNatClampNeg v2))]) (by rw [if_pos (inR_lt g2)]; rfl) ?_
            obtain ⟨h3, hh3, hf⟩ := bd hf
            have hh3 := Option.some.inj hh3
            refine tp1r hh3 ?_
            have kh3 : kd Γ h3 = some 5 := by rw [← hh3]; exact (wf_t hE hk (inR_lt g2)).2.1
            obtain rfl := Option.some.inj hf
            subst hq
            exact rt_a C hw hS dX8_rowsAt_58
          have hf := ifn c8 hf
          by_cases c9 : v1 = 2
          · have hf := ifp c9 hf
            rw [c9]
            refine lv_tableIn (off := 33) (tgt := 59) hx hb dX8_rowsAt_26 (by decide) (by decide) (by rfl) (by decide) ?_
            refine lv_aload_n hx hb dX8_rowsAt_59 rfl (lv_at hl 0 rfl) ?_
            refine va_get (ci := 8) (v := .ref (aa Γ o 7)) (C := RX8) (T := TX8) (N := 9) hx hb htw uwX8 hown hE.1 (wo_me hw hk) 0 rfl rfl 7 (by decide) (htw _ mw255) (fun _ h9 => h9) rfl dX8_rowsAt_60 ?_
            refine lv_iload_n hx hb dX8_rowsAt_63 rfl (lv_at hl 2 rfl) ?_
            obtain ⟨g4, hf⟩ := gd_some hf
            refine va_aldq hx hb hE.1 (wo_me hw hk) 5 4 rfl rfl (inR_in g4) dX8_rowsAt_64 ?_
            refine W.eq (g2 := F0 m 65 ls [.ref (ad Γ (502 + 6 * (o - 800) + Int32.toNatClampNeg v2))]) (by rw [if_pos (inR_lt g4)]; rfl) ?_
            obtain ⟨h5, hh5, hf⟩ := bd hf
            have hh5 := Option.some.inj hh5
            refine tp1r hh5 ?_
            have kh5 : kd Γ h5 = some 5 := by rw [← hh5]; exact (wf_t hE hk (inR_lt g4)).2.2.1
            obtain rfl := Option.some.inj hf
            subst hq
            exact rt_a C hw hS dX8_rowsAt_65
          have hf := ifn c9 hf
          by_cases c10 : v1 = 3
          · have hf := ifp c10 hf
            rw [c10]
            refine lv_tableIn (off := 40) (tgt := 66) hx hb dX8_rowsAt_26 (by decide) (by decide) (by rfl) (by decide) ?_
            refine lv_aload_n hx hb dX8_rowsAt_66 rfl (lv_at hl 0 rfl) ?_
            refine va_get (ci := 8) (v := .ref (aa Γ o 8)) (C := RX8) (T := TX8) (N := 9) hx hb htw uwX8 hown hE.1 (wo_me hw hk) 0 rfl rfl 8 (by decide) (htw _ mw256) (fun _ h9 => h9) rfl dX8_rowsAt_67 ?_
            refine lv_iload_n hx hb dX8_rowsAt_70 rfl (lv_at hl 2 rfl) ?_
            obtain ⟨g6, hf⟩ := gd_some hf
            refine va_aldq hx hb hE.1 (wo_me hw hk) 6 4 rfl rfl (inR_in g6) dX8_rowsAt_71 ?_
            refine W.eq (g2 := F0 m 72 ls [.ref (ad Γ (504 + 6 * (o - 800) + Int32.toNatClampNeg v2))]) (by rw [if_pos (inR_lt g6)]; rfl) ?_
            obtain ⟨h7, hh7, hf⟩ := bd hf
            have hh7 := Option.some.inj hh7
            refine tp1r hh7 ?_
            have kh7 : kd Γ h7 = some 5 := by rw [← hh7]; exact (wf_t hE hk (inR_lt g6)).2.2.2
            obtain rfl := Option.some.inj hf
            subst hq
            exact rt_a C hw hS dX8_rowsAt_72
          have hf := ifn c10 hf
          refine lv_tableOut (tgt := 73) hx hb dX8_rowsAt_26 (by have := And.intro (ts_ne (k := 1) (by decide) c8) (And.intro (ts_ne (k := 2) (by decide) c9) (And.intro (ts_ne (k := 3) (by decide) c10) (True.intro))); omega) (by decide) ?_
          refine lv_null hx hb dX8_rowsAt_73 ?_
          obtain rfl := Option.some.inj hf
          subst hq
          exact rt_0 C hw hS dX8_rowsAt_74
        · have hf := ifn c11 hf
          refine lv_null hx hb dX8_rowsAt_23 ?_
          obtain rfl := Option.some.inj hf
          subst hq
          exact rt_0 C hw hS dX8_rowsAt_24

theorem kX8_rowsAt {l : Launch} {Γ : Gm} {A : Nat → Prop} {G : Gs} {o : Nat} {r : Rec} {v1 : Int32} {v2 : Int32} {fin : Option Nat} (hk : kd Γ o = some 8) (hf : fX8_rowsAt r o v1 v2 = some fin) : Kt l yX8_rowsAt cX8_rowsAt 3 (some (.object "TarnishTurns$Rows")) 0 0 Γ A (ug G o r) (ug G o r) [.ref (ad Γ o), .int v1, .int v2] (some (va_rf (fin.map (ad Γ)))) :=
  kt_of (by decide) (Nat.le_of_ble_eq_true rfl) (fun p e s m args below meth c C => wX8_rowsAt_e C hk hf rfl)
theorem kgX8_rowsAt {l : Launch} {Γ : Gm} {A : Nat → Prop} {G : Gs} {o : Nat} {v1 : Int32} {v2 : Int32} {fin : Option Nat} (hk : kd Γ o = some 8) (hf : fX8_rowsAt (G o) o v1 v2 = some fin) : Kt l yX8_rowsAt cX8_rowsAt 3 (some (.object "TarnishTurns$Rows")) 0 0 Γ A G G [.ref (ad Γ o), .int v1, .int v2] (some (va_rf (fin.map (ad Γ)))) := by
  have h := kX8_rowsAt (l := l) (A := A) (G := G) (r := G o) hk hf
  rw [ug_self] at h
  exact h
noncomputable def bX8_copyFrom_56 (g : Gs) (o : Nat) (v1 : Nat) (v2 : Int32) : Option ((Int32 × Gs) ⊕ Gs) :=
  if 2 ≤ v2 then some (.inr (g)) else gd (inR v2 2) ((some (200 + 2 * (o - 800) + Int32.toNatClampNeg v2)).bind fun h2 => gd (inR v2 2) ((some (200 + 2 * (v1 - 800) + Int32.toNatClampNeg v2)).bind fun h4 => (fX2_copyFrom g h2 h4).bind fun z5 => gd (inR v2 2) ((some (500 + 6 * (o - 800) + Int32.toNatClampNeg v2)).bind fun h7 => gd (inR v2 2) ((some (500 + 6 * (v1 - 800) + Int32.toNatClampNeg v2)).bind fun h9 => (fX5_copyFrom z5 h7 h9).bind fun z10 => gd (inR v2 2) ((some (502 + 6 * (o - 800) + Int32.toNatClampNeg v2)).bind fun h12 => gd (inR v2 2) ((some (502 + 6 * (v1 - 800) + Int32.toNatClampNeg v2)).bind fun h14 => (fX5_copyFrom z10 h12 h14).bind fun z15 => gd (inR v2 2) ((some (504 + 6 * (o - 800) + Int32.toNatClampNeg v2)).bind fun h17 => gd (inR v2 2) ((some (504 + 6 * (v1 - 800) + Int32.toNatClampNeg v2)).bind fun h19 => (fX5_copyFrom z15 h17 h19).bind fun z20 => some (.inl (v2 + 1, z20))))))))))
set_option maxRecDepth 100000 in
set_option maxHeartbeats 4000000 in
theorem wX8_copyFrom_56 {p : Program} {l : Launch} {e : Env} {s : State} {m : MethodId} {args : Array Value} {below : List Frame} {meth : Method} {c : Code} {Γ : Gm} {A : Nat → Prop} {o : Nat} {g : Gs} {v1 : Nat} {v2 : Int32} {q : ((Int32 × Gs) ⊕ Gs)} {fin : Gs} (C : Cx p s m args meth c yX8_copyFrom cX8_copyFrom 3 none Γ A) (hk : kd Γ o = some 8) (hv1 : kd Γ v1 = some 8) (hf : bX8_copyFrom_56 g o v1 v2 = some q) (hq : (KC (fun st : Int32 × Gs => Wk p l e { frames := 2, cells := 0, slots := 0, locals := 81 } s m args below meth c Γ A fin none 56 3 [(0, .ref (ad Γ o)), (1, .ref (ad Γ v1)), (2, .int st.1)] [] st.2) (fun x => x = fin)) q) : Wk p l e { frames := 2, cells := 0, slots := 0, locals := 81 } s m args below meth c Γ A fin none 56 3 [(0, .ref (ad Γ o)), (1, .ref (ad Γ v1)), (2, .int v2)] [] g := by
  intro H locs ls hw hS hl
  unfold bX8_copyFrom_56 at hf
  obtain ⟨hx, hb, hml, hr, hown, htw, hlocks, hE⟩ := id C
  have hown : s.vm.findClass RX8 = some m.cls := hown
  refine lv_iload_n hx hb dX8_copyFrom_56 rfl (lv_at hl 2 rfl) ?_
  refine lv_iconst (v := 2) hx hb dX8_copyFrom_57 (by decide) ?_
  refine lv_icmp_ge (tgt := 127) hx hb dX8_copyFrom_58 (by decide) (fun c21 => ?_) (fun c21 => ?_)
  · have hf := ifp c21 hf
    obtain rfl := Option.some.inj hf
    have hq := hq.2 _ rfl
    subst hq
    exact rt_v C hw hS dX8_copyFrom_127
  · have hf := ifn c21 hf
    refine lv_aload_n hx hb dX8_copyFrom_61 rfl (lv_at hl 0 rfl) ?_
    refine va_get (ci := 8) (v := .ref (aa Γ o 5)) (C := RX8) (T := TX8) (N := 9) hx hb htw uwX8 hown hE.1 (hw _ _ hk) 0 rfl rfl 5 (by decide) (htw _ mw253) (fun _ h9 => h9) rfl dX8_copyFrom_62 ?_
    refine lv_iload_n hx hb dX8_copyFrom_65 rfl (lv_at hl 2 rfl) ?_
    obtain ⟨g1, hf⟩ := gd_some hf
    refine va_aldq hx hb hE.1 (hw _ _ hk) 3 3 rfl rfl (inR_in g1) dX8_copyFrom_66 ?_
    refine W.eq (g2 := F0 m 67 ls [.ref (ad Γ (200 + 2 * (o - 800) + Int32.toNatClampNeg v2))]) (by rw [if_pos (inR_lt g1)]; rfl) ?_
    obtain ⟨h2, hh2, hf⟩ := bd hf
    have hh2 := Option.some.inj hh2
    refine tp1r hh2 ?_
    have kh2 : kd Γ h2 = some 2 := by rw [← hh2]; exact (wf_t hE hk (inR_lt g1)).1
    refine lv_aload_n hx hb dX8_copyFrom_67 rfl (lv_at hl 1 rfl) ?_
    refine va_get (ci := 8) (v := .ref (aa Γ v1 5)) (C := RX8) (T := TX8) (N := 9) hx hb htw uwX8 hown hE.1 (hw _ _ hv1) 0 rfl rfl 5 (by decide) (htw _ mw253) (fun _ h9 => h9) rfl dX8_copyFrom_68 ?_
    refine lv_iload_n hx hb dX8_copyFrom_71 rfl (lv_at hl 2 rfl) ?_
    obtain ⟨g3, hf⟩ := gd_some hf
    refine va_aldq hx hb hE.1 (hw _ _ hv1) 3 3 rfl rfl (inR_in g3) dX8_copyFrom_72 ?_
    refine W.eq (g2 := F0 m 73 ls [.ref (ad Γ (200 + 2 * (v1 - 800) + Int32.toNatClampNeg v2)), .ref (ad Γ h2)]) (by rw [if_pos (inR_lt g3)]; rfl) ?_
    obtain ⟨h4, hh4, hf⟩ := bd hf
    have hh4 := Option.some.inj hh4
    refine tp1r hh4 ?_
    have kh4 : kd Γ h4 = some 2 := by rw [← hh4]; exact (wf_t hE hv1 (inR_lt g3)).1
    obtain ⟨z5, hz5, hf⟩ := bd hf
    refine cl_Vv (rest := []) (kX2_copyFrom (l := l) (Γ := Γ) (A := A) kh2 kh4 hz5) ⟨hx, hb, hml, hown, htw⟩ hE hw hS (hw _ _ kh2) (q0 := 0) rfl rfl mw1223 mw1224 mw1225 mw120 mw1226 pdX2_copyFrom ⟨Nat.le_of_ble_eq_true rfl, Nat.le_of_ble_eq_true rfl⟩ rfl rfl hl.1 (Nat.le_of_ble_eq_true rfl) dX8_copyFrom_73 (fun H locs hw hS => ?_)
    refine lv_aload_n hx hb dX8_copyFrom_76 rfl (lv_at hl 0 rfl) ?_
    refine va_get (ci := 8) (v := .ref (aa Γ o 6)) (C := RX8) (T := TX8) (N := 9) hx hb htw uwX8 hown hE.1 (hw _ _ hk) 0 rfl rfl 6 (by decide) (htw _ mw254) (fun _ h9 => h9) rfl dX8_copyFrom_77 ?_
    refine lv_iload_n hx hb dX8_copyFrom_80 rfl (lv_at hl 2 rfl) ?_
    obtain ⟨g6, hf⟩ := gd_some hf
    refine va_aldq hx hb hE.1 (hw _ _ hk) 4 4 rfl rfl (inR_in g6) dX8_copyFrom_81 ?_
    refine W.eq (g2 := F0 m 82 ls [.ref (ad Γ (500 + 6 * (o - 800) + Int32.toNatClampNeg v2))]) (by rw [if_pos (inR_lt g6)]; rfl) ?_
    obtain ⟨h7, hh7, hf⟩ := bd hf
    have hh7 := Option.some.inj hh7
    refine tp1r hh7 ?_
    have kh7 : kd Γ h7 = some 5 := by rw [← hh7]; exact (wf_t hE hk (inR_lt g6)).2.1
    refine lv_aload_n hx hb dX8_copyFrom_82 rfl (lv_at hl 1 rfl) ?_
    refine va_get (ci := 8) (v := .ref (aa Γ v1 6)) (C := RX8) (T := TX8) (N := 9) hx hb htw uwX8 hown hE.1 (hw _ _ hv1) 0 rfl rfl 6 (by decide) (htw _ mw254) (fun _ h9 => h9) rfl dX8_copyFrom_83 ?_
    refine lv_iload_n hx hb dX8_copyFrom_86 rfl (lv_at hl 2 rfl) ?_
    obtain ⟨g8, hf⟩ := gd_some hf
    refine va_aldq hx hb hE.1 (hw _ _ hv1) 4 4 rfl rfl (inR_in g8) dX8_copyFrom_87 ?_
    refine W.eq (g2 := F0 m 88 ls [.ref (ad Γ (500 + 6 * (v1 - 800) + Int32.toNatClampNeg v2)), .ref (ad Γ h7)]) (by rw [if_pos (inR_lt g8)]; rfl) ?_
    obtain ⟨h9, hh9, hf⟩ := bd hf
    have hh9 := Option.some.inj hh9
    refine tp1r hh9 ?_
    have kh9 : kd Γ h9 = some 5 := by rw [← hh9]; exact (wf_t hE hv1 (inR_lt g8)).2.1
    obtain ⟨z10, hz10, hf⟩ := bd hf
    refine cl_Vv (rest := []) (kX5_copyFrom (l := l) (Γ := Γ) (A := A) kh7 kh9 hz10) ⟨hx, hb, hml, hown, htw⟩ hE hw hS (hw _ _ kh7) (q0 := 0) rfl rfl mw1228 mw1229 mw1230 mw121 mw1231 pdX5_copyFrom ⟨Nat.le_of_ble_eq_true rfl, Nat.le_of_ble_eq_true rfl⟩ rfl rfl hl.1 (Nat.le_of_ble_eq_true rfl) dX8_copyFrom_88 (fun H locs hw hS => ?_)
    refine lv_aload_n hx hb dX8_copyFrom_91 rfl (lv_at hl 0 rfl) ?_
    refine va_get (ci := 8) (v := .ref (aa Γ o 7)) (C := RX8) (T := TX8) (N := 9) hx hb htw uwX8 hown hE.1 (hw _ _ hk) 0 rfl rfl 7 (by decide) (htw _ mw255) (fun _ h9 => h9) rfl dX8_copyFrom_92 ?_
    refine lv_iload_n hx hb dX8_copyFrom_95 rfl (lv_at hl 2 rfl) ?_
    obtain ⟨g11, hf⟩ := gd_some hf
    refine va_aldq hx hb hE.1 (hw _ _ hk) 5 4 rfl rfl (inR_in g11) dX8_copyFrom_96 ?_
    refine W.eq (g2 := F0 m 97 ls [.ref (ad Γ (502 + 6 * (o - 800) + Int32.toNatClampNeg v2))]) (by rw [if_pos (inR_lt g11)]; rfl) ?_
    obtain ⟨h12, hh12, hf⟩ := bd hf
    have hh12 := Option.some.inj hh12
    refine tp1r hh12 ?_
    have kh12 : kd Γ h12 = some 5 := by rw [← hh12]; exact (wf_t hE hk (inR_lt g11)).2.2.1
    refine lv_aload_n hx hb dX8_copyFrom_97 rfl (lv_at hl 1 rfl) ?_
    refine va_get (ci := 8) (v := .ref (aa Γ v1 7)) (C := RX8) (T := TX8) (N := 9) hx hb htw uwX8 hown hE.1 (hw _ _ hv1) 0 rfl rfl 7 (by decide) (htw _ mw255) (fun _ h9 => h9) rfl dX8_copyFrom_98 ?_
    refine lv_iload_n hx hb dX8_copyFrom_101 rfl (lv_at hl 2 rfl) ?_
    obtain ⟨g13, hf⟩ := gd_some hf
    refine va_aldq hx hb hE.1 (hw _ _ hv1) 5 4 rfl rfl (inR_in g13) dX8_copyFrom_102 ?_
    refine W.eq (g2 := F0 m 103 ls [.ref (ad Γ (502 + 6 * (v1 - 800) + Int32.toNatClampNeg v2)), .ref (ad Γ h12)]) (by rw [if_pos (inR_lt g13)]; rfl) ?_
    obtain ⟨h14, hh14, hf⟩ := bd hf
    have hh14 := Option.some.inj hh14
    refine tp1r hh14 ?_
    have kh14 : kd Γ h14 = some 5 := by rw [← hh14]; exact (wf_t hE hv1 (inR_lt g13)).2.2.1
    obtain ⟨z15, hz15, hf⟩ := bd hf
    refine cl_Vv (rest := []) (kX5_copyFrom (l := l) (Γ := Γ) (A := A) kh12 kh14 hz15) ⟨hx, hb, hml, hown, htw⟩ hE hw hS (hw _ _ kh12) (q0 := 0) rfl rfl mw1228 mw1229 mw1230 mw121 mw1231 pdX5_copyFrom ⟨Nat.le_of_ble_eq_true rfl, Nat.le_of_ble_eq_true rfl⟩ rfl rfl hl.1 (Nat.le_of_ble_eq_true rfl) dX8_copyFrom_103 (fun H locs hw hS => ?_)
    refine lv_aload_n hx hb dX8_copyFrom_106 rfl (lv_at hl 0 rfl) ?_
    refine va_get (ci := 8) (v := .ref (aa Γ o 8)) (C := RX8) (T := TX8) (N := 9) hx hb htw uwX8 hown hE.1 (hw _ _ hk) 0 rfl rfl 8 (by decide) (htw _ mw256) (fun _ h9 => h9) rfl dX8_copyFrom_107 ?_
    refine lv_iload_n hx hb dX8_copyFrom_110 rfl (lv_at hl 2 rfl) ?_
    obtain ⟨g16, hf⟩ := gd_some hf
    refine va_aldq hx hb hE.1 (hw _ _ hk) 6 4 rfl rfl (inR_in g16) dX8_copyFrom_111 ?_
    refine W.eq (g2 := F0 m 112 ls [.ref (ad Γ (504 + 6 * (o - 800) + Int32.toNatClampNeg v2))]) (by rw [if_pos (inR_lt g16)]; rfl) ?_
    obtain ⟨h17, hh17, hf⟩ := bd hf
    have hh17 := Option.some.inj hh17
    refine tp1r hh17 ?_
    have kh17 : kd Γ h17 = some 5 := by rw [← hh17]; exact (wf_t hE hk (inR_lt g16)).2.2.2
    refine lv_aload_n hx hb dX8_copyFrom_112 rfl (lv_at hl 1 rfl) ?_
    refine va_get (ci := 8) (v := .ref (aa Γ v1 8)) (C := RX8) (T := TX8) (N := 9) hx hb htw uwX8 hown hE.1 (hw _ _ hv1) 0 rfl rfl 8 (by decide) (htw _ mw256) (fun _ h9 => h9) rfl dX8_copyFrom_113 ?_
    refine lv_iload_n hx hb dX8_copyFrom_116 rfl (lv_at hl 2 rfl) ?_
    obtain ⟨g18, hf⟩ := gd_some hf
    refine va_aldq hx hb hE.1 (hw _ _ hv1) 6 4 rfl rfl (inR_in g18) dX8_copyFrom_117 ?_
    refine W.eq (g2 := F0 m 118 ls [.ref (ad Γ (504 + 6 * (v1 - 800) + Int32.toNatClampNeg v2)), .ref (ad Γ h17)]) (by rw [if_pos (inR_lt g18)]; rfl) ?_
    obtain ⟨h19, hh19, hf⟩ := bd hf
    have hh19 := Option.some.inj hh19
    refine tp1r hh19 ?_
    have kh19 : kd Γ h19 = some 5 := by rw [← hh19]; exact (wf_t hE hv1 (inR_lt g18)).2.2.2
    obtain ⟨z20, hz20, hf⟩ := bd hf
    refine cl_Vv (rest := []) (kX5_copyFrom (l := l) (Γ := Γ) (A := A) kh17 kh19 hz20) ⟨hx, hb, hml, hown, htw⟩ hE hw hS (hw _ _ kh17) (q0 := 0) rfl rfl mw1228 mw1229 mw1230 mw121 mw1231 pdX5_copyFrom ⟨Nat.le_of_ble_eq_true rfl, Nat.le_of_ble_eq_true rfl⟩ rfl rfl hl.1 (Nat.le_of_ble_eq_true rfl) dX8_copyFrom_118 (fun H locs hw hS => ?_)
    refine lv_iinc (v := v2 + 1) (lv' := [(2, .int (v2 + 1)), (0, .ref (ad Γ o)), (1, .ref (ad Γ v1))]) hx hb dX8_copyFrom_121 hl (k := 2) rfl (by rfl) (by decide) rfl (fun ls hl => ?_)
    refine lv_goto (tgt := 56) hx hb dX8_copyFrom_124 (by decide) ?_
    obtain rfl := Option.some.inj hf
    exact hq.1 _ rfl H locs ls hw hS (lv_sub hl [1, 2, 0] rfl)

set_option maxRecDepth 100000 in
set_option maxHeartbeats 4000000 in
theorem lwX8_copyFrom_56 {p : Program} {l : Launch} {e : Env} {s : State} {m : MethodId} {args : Array Value} {below : List Frame} {meth : Method} {c : Code} {Γ : Gm} {A : Nat → Prop} {o : Nat} {g : Gs} {v1 : Nat} {v2 : Int32} {q : Gs} {fin : Gs} (C : Cx p s m args meth c yX8_copyFrom cX8_copyFrom 3 none Γ A) (hk : kd Γ o = some 8) (hv1 : kd Γ v1 = some 8) (hf : iter (fun st : Int32 × Gs => bX8_copyFrom_56 st.2 o v1 st.1) (v2, g) = some q) (hq : (fun x => x = fin) q) : Wk p l e { frames := 2, cells := 0, slots := 0, locals := 81 } s m args below meth c Γ A fin none 56 3 [(0, .ref (ad Γ o)), (1, .ref (ad Γ v1)), (2, .int v2)] [] g := by
  intro H locs ls hw hS hl
  refine iter_walk (P := (fun st : Int32 × Gs => Wk p l e { frames := 2, cells := 0, slots := 0, locals := 81 } s m args below meth c Γ A fin none 56 3 [(0, .ref (ad Γ o)), (1, .ref (ad Γ v1)), (2, .int st.1)] [] st.2)) (K := (fun x => x = fin)) (fun st q hq1 h1 h2 => ?_) hf hq H locs ls hw hS hl
  exact wX8_copyFrom_56 (g := st.2) (v2 := st.1) C hk hv1 hq1 ⟨h1, h2⟩

noncomputable def fX8_copyFrom (g : Gs) (o : Nat) (v1 : Nat) : Option Gs :=
  gd (cpOK 0 0 600 600 600) (gd (fitB (ga (g v1) 0) (Int32.toNatClampNeg 0) (Int32.toNatClampNeg 600)) ((some (ug g o (sa (g o) 0 (va_cpy (ga (g v1) 0) (ga (g o) 0) (Int32.toNatClampNeg 0) (Int32.toNatClampNeg 0) (Int32.toNatClampNeg 600))))).bind fun g24 => (some (ug g24 o (si (g24 o) 1 (gi (g24 v1) 1)))).bind fun g25 => (some (ug g25 o (si (g25 o) 2 (gi (g25 v1) 2)))).bind fun g26 => (some (ug g26 o (si (g26 o) 3 (gi (g26 v1) 3)))).bind fun g27 => gd (cpOK 0 0 4 4 4) ((some (ug g27 o (sa (g27 o) 4 (va_cpy (ga (g27 v1) 4) (ga (g27 o) 4) (Int32.toNatClampNeg 0) (Int32.toNatClampNeg 0) (Int32.toNatClampNeg 4))))).bind fun g29 => iter (fun st : Int32 × Gs => bX8_copyFrom_56 st.2 o v1 st.1) (0, g29))))
set_option maxRecDepth 100000 in
set_option maxHeartbeats 4000000 in
theorem wX8_copyFrom_e {p : Program} {l : Launch} {e : Env} {s : State} {m : MethodId} {args : Array Value} {below : List Frame} {meth : Method} {c : Code} {Γ : Gm} {A : Nat → Prop} {o : Nat} {g : Gs} {v1 : Nat} {q : Gs} {fin : Gs} (C : Cx p s m args meth c yX8_copyFrom cX8_copyFrom 3 none Γ A) (hk : kd Γ o = some 8) (hv1 : kd Γ v1 = some 8) (hf : fX8_copyFrom g o v1 = some q) (hq : (fun x => x = fin) q) : Wk p l e { frames := 2, cells := 0, slots := 0, locals := 81 } s m args below meth c Γ A fin none 0 3 [(0, .ref (ad Γ o)), (1, .ref (ad Γ v1))] [] g := by
  intro H locs ls hw hS hl
  unfold fX8_copyFrom at hf
  obtain ⟨hx, hb, hml, hr, hown, htw, hlocks, hE⟩ := id C
  have hown : s.vm.findClass RX8 = some m.cls := hown
  refine lv_aload_n hx hb dX8_copyFrom_0 rfl (lv_at hl 1 rfl) ?_
  refine va_get (ci := 8) (v := .ref (aa Γ v1 0)) (C := RX8) (T := TX8) (N := 9) hx hb htw uwX8 hown hE.1 (hw _ _ hv1) 0 rfl rfl 0 (by decide) (htw _ mw243) (fun _ h9 => h9) rfl dX8_copyFrom_1 ?_
  refine lv_iconst (v := 0) hx hb dX8_copyFrom_4 (by decide) ?_
  refine lv_aload_n hx hb dX8_copyFrom_5 rfl (lv_at hl 0 rfl) ?_
  refine va_get (ci := 8) (v := .ref (aa Γ o 0)) (C := RX8) (T := TX8) (N := 9) hx hb htw uwX8 hown hE.1 (hw _ _ hk) 0 rfl rfl 0 (by decide) (htw _ mw243) (fun _ h9 => h9) rfl dX8_copyFrom_6 ?_
  refine lv_iconst (v := 0) hx hb dX8_copyFrom_9 (by decide) ?_
  refine lv_sipush (v := 600) hx hb dX8_copyFrom_10 (by decide) ?_
  obtain ⟨g22, hf⟩ := gd_some hf
  obtain ⟨g23, hf⟩ := gd_some hf
  obtain ⟨g24, hg24, hf⟩ := bd hf
  have hg24 := Option.some.inj hg24
  refine wo_copy hx hb (hml.trans hl.1.symm) hown (htw _ mw1222) (htw _ mw482) (htw _ mw481) (htw _ mw130) hE (wo_gs hw) hS hk (t := 1) ((hw _ _ hv1) 1 _ rfl) (q1 := 1) rfl rfl rfl g22 (fitB_of g23) (sa8_0 rfl) (Nat.le_of_ble_eq_true rfl) (by decide +kernel) dX8_copyFrom_13 (fun H locs hw hS => ?_)
  rw [hg24] at hw
  refine lv_aload_n hx hb dX8_copyFrom_16 rfl (lv_at hl 0 rfl) ?_
  refine lv_aload_n hx hb dX8_copyFrom_17 rfl (lv_at hl 1 rfl) ?_
  refine va_get (ci := 8) (v := .int (gi (g24 v1) 1)) (C := RX8) (T := TX8) (N := 9) hx hb htw uwX8 hown hE.1 (hw _ _ hv1) 0 rfl rfl 1 (by decide) (htw _ mw245) (fun _ h9 => h9) rfl dX8_copyFrom_18 ?_
  obtain ⟨g25, hg25, hf⟩ := bd hf
  have hg25 := Option.some.inj hg25
  refine wo_putG (C := RX8) (T := TX8) (N := 9) (v := .int (gi (g24 v1) 1)) (ty := .int) hx hb htw uwX8 tyX8 tyX8_ok nmX8 hown hE hw hS hk rfl rfl 1 (by decide) (htw _ mw245) (fun _ h9 => h9) rfl (tyX8_ok 1 (by decide)) rfl rfl (Nat.le_of_ble_eq_true rfl) (st8_1 rfl) hg25 dX8_copyFrom_21 (fun H locs hw hS => ?_)
  refine lv_aload_n hx hb dX8_copyFrom_24 rfl (lv_at hl 0 rfl) ?_
  refine lv_aload_n hx hb dX8_copyFrom_25 rfl (lv_at hl 1 rfl) ?_
  refine va_get (ci := 8) (v := .int (gi (g25 v1) 2)) (C := RX8) (T := TX8) (N := 9) hx hb htw uwX8 hown hE.1 (hw _ _ hv1) 0 rfl rfl 2 (by decide) (htw _ mw247) (fun _ h9 => h9) rfl dX8_copyFrom_26 ?_
  obtain ⟨g26, hg26, hf⟩ := bd hf
  have hg26 := Option.some.inj hg26
  refine wo_putG (C := RX8) (T := TX8) (N := 9) (v := .int (gi (g25 v1) 2)) (ty := .int) hx hb htw uwX8 tyX8 tyX8_ok nmX8 hown hE hw hS hk rfl rfl 2 (by decide) (htw _ mw247) (fun _ h9 => h9) rfl (tyX8_ok 2 (by decide)) rfl rfl (Nat.le_of_ble_eq_true rfl) (st8_2 rfl) hg26 dX8_copyFrom_29 (fun H locs hw hS => ?_)
  refine lv_aload_n hx hb dX8_copyFrom_32 rfl (lv_at hl 0 rfl) ?_
  refine lv_aload_n hx hb dX8_copyFrom_33 rfl (lv_at hl 1 rfl) ?_
  refine va_get (ci := 8) (v := .int (gi (g26 v1) 3)) (C := RX8) (T := TX8) (N := 9) hx hb htw uwX8 hown hE.1 (hw _ _ hv1) 0 rfl rfl 3 (by decide) (htw _ mw249) (fun _ h9 => h9) rfl dX8_copyFrom_34 ?_
  obtain ⟨g27, hg27, hf⟩ := bd hf
  have hg27 := Option.some.inj hg27
  refine wo_putG (C := RX8) (T := TX8) (N := 9) (v := .int (gi (g26 v1) 3)) (ty := .int) hx hb htw uwX8 tyX8 tyX8_ok nmX8 hown hE hw hS hk rfl rfl 3 (by decide) (htw _ mw249) (fun _ h9 => h9) rfl (tyX8_ok 3 (by decide)) rfl rfl (Nat.le_of_ble_eq_true rfl) (st8_3 rfl) hg27 dX8_copyFrom_37 (fun H locs hw hS => ?_)
  refine lv_aload_n hx hb dX8_copyFrom_40 rfl (lv_at hl 1 rfl) ?_
  refine va_get (ci := 8) (v := .ref (aa Γ v1 4)) (C := RX8) (T := TX8) (N := 9) hx hb htw uwX8 hown hE.1 (hw _ _ hv1) 0 rfl rfl 4 (by decide) (htw _ mw251) (fun _ h9 => h9) rfl dX8_copyFrom_41 ?_
  refine lv_iconst (v := 0) hx hb dX8_copyFrom_44 (by decide) ?_
  refine lv_aload_n hx hb dX8_copyFrom_45 rfl (lv_at hl 0 rfl) ?_
  refine va_get (ci := 8) (v := .ref (aa Γ o 4)) (C := RX8) (T := TX8) (N := 9) hx hb htw uwX8 hown hE.1 (hw _ _ hk) 0 rfl rfl 4 (by decide) (htw _ mw251) (fun _ h9 => h9) rfl dX8_copyFrom_46 ?_
  refine lv_iconst (v := 0) hx hb dX8_copyFrom_49 (by decide) ?_
  refine lv_iconst (v := 4) hx hb dX8_copyFrom_50 (by decide) ?_
  obtain ⟨g28, hf⟩ := gd_some hf
  obtain ⟨g29, hg29, hf⟩ := bd hf
  have hg29 := Option.some.inj hg29
  refine wo_copy hx hb (hml.trans hl.1.symm) hown (htw _ mw1222) (htw _ mw482) (htw _ mw481) (htw _ mw130) hE (wo_gs hw) hS hk (t := 0) ((hw _ _ hv1) 2 _ rfl) (q1 := 2) rfl rfl rfl g28 (fun _ _ => rfl) (sa8_4 rfl) (Nat.le_of_ble_eq_true rfl) (by decide +kernel) dX8_copyFrom_51 (fun H locs hw hS => ?_)
  rw [hg29] at hw
  refine lv_iconst (v := 0) hx hb dX8_copyFrom_54 (by decide) ?_
  refine lv_istore_n (lv' := [(2, .int 0), (0, .ref (ad Γ o)), (1, .ref (ad Γ v1))]) hx hb dX8_copyFrom_55 rfl hl (by decide) rfl (fun ls hl => ?_)
  exact lwX8_copyFrom_56 C hk hv1 hf hq H locs ls hw hS (lv_sub hl [1, 2, 0] rfl)

theorem kX8_copyFrom {l : Launch} {Γ : Gm} {A : Nat → Prop} {o : Nat} {g : Gs} {v1 : Nat} {fin : Gs} (hk : kd Γ o = some 8) (hv1 : kd Γ v1 = some 8) (hf : fX8_copyFrom g o v1 = some fin) : Kt l yX8_copyFrom cX8_copyFrom 3 none 2 81 Γ A g fin [.ref (ad Γ o), .ref (ad Γ v1)] none :=
  kt_of (by decide) (Nat.le_of_ble_eq_true rfl) (fun p e s m args below meth c C => wX8_copyFrom_e C hk hv1 hf rfl)
noncomputable def fX9_feed (g : Gs) (v1 : Int32) (v2 : Int32) (v3 : Int32) (v4 : Int32) (v5 : Int32) : Option (Gs × Int32) :=
  if ((gi (g 800) 1) + 20) ≤ 600 then (fX8_append (g 800) 800 v1).bind fun z1 => (some (ug g 800 z1)).bind fun g2 => (fX8_append (g2 800) 800 v2).bind fun z3 => (some (ug g2 800 z3)).bind fun g4 => (fX8_append (g4 800) 800 v3).bind fun z5 => (some (ug g4 800 z5)).bind fun g6 => (fX8_append (g6 800) 800 v4).bind fun z7 => (some (ug g6 800 z7)).bind fun g8 => (fX8_append (g8 800) 800 v5).bind fun z9 => (some (ug g8 800 z9)).bind fun g10 => some ((g10, gi (g10 800) 1)) else some ((g, (-1)))
set_option maxRecDepth 100000 in
set_option maxHeartbeats 4000000 in
theorem wX9_feed_e {p : Program} {l : Launch} {e : Env} {s : State} {m : MethodId} {args : Array Value} {below : List Frame} {meth : Method} {c : Code} {Γ : Gm} {A : Nat → Prop} {g : Gs} {v1 : Int32} {v2 : Int32} {v3 : Int32} {v4 : Int32} {v5 : Int32} {q : (Gs × Int32)} {fin : Gs × Int32} (C : Cx p s m args meth c yX9_feed cX9_feed 6 (some .int) Γ A) (hf : fX9_feed g v1 v2 v3 v4 v5 = some q) (hq : (fun x => x = fin) q) : Wk p l e { frames := 1, cells := 0, slots := 0, locals := 22 } s m args below meth c Γ A fin.1 (some (.int fin.2)) 0 6 [(0, .ref (ad Γ 901)), (1, .int v1), (2, .int v2), (3, .int v3), (4, .int v4), (5, .int v5)] [] g := by
  intro H locs ls hw hS hl
  unfold fX9_feed at hf
  obtain ⟨hx, hb, hml, hr, hown, htw, hlocks, hE⟩ := id C
  have hown : s.vm.findClass RX9 = some m.cls := hown
  refine lv_aload_n hx hb dX9_feed_0 rfl (lv_at hl 0 rfl) ?_
  refine va_get (ci := 9) (v := .ref (ad Γ 800)) (C := RX9) (T := TX9) (N := 8) hx hb htw uwX9 hown hE.1 (hw _ _ (wf_901 hE)) 0 rfl rfl 0 (by decide) (htw _ mw433) (fun _ h9 => h9) rfl dX9_feed_1 ?_
  refine va_get (ci := 8) (v := .int (gi (g 800) 1)) (C := RX8) (T := TX8) (N := 9) hx hb htw uwX8 hown hE.1 (hw _ _ (wf_800 hE)) 0 rfl rfl 1 (by decide) (htw _ mw246) (fun _ h9 => h9) rfl dX9_feed_4 ?_
  refine lv_bipush (v := 20) hx hb dX9_feed_7 (by decide) ?_
  refine lv_iadd hx hb dX9_feed_9 ?_
  refine lv_sipush (v := 600) hx hb dX9_feed_10 (by decide) ?_
  refine lv_icmp_le (tgt := 18) hx hb dX9_feed_13 (by decide) (fun c11 => ?_) (fun c11 => ?_)
  · have hf := ifp c11 hf
    refine lv_aload_n hx hb dX9_feed_18 rfl (lv_at hl 0 rfl) ?_
    refine va_get (ci := 9) (v := .ref (ad Γ 800)) (C := RX9) (T := TX9) (N := 8) hx hb htw uwX9 hown hE.1 (hw _ _ (wf_901 hE)) 0 rfl rfl 0 (by decide) (htw _ mw433) (fun _ h9 => h9) rfl dX9_feed_19 ?_
    refine lv_iload_n hx hb dX9_feed_22 rfl (lv_at hl 1 rfl) ?_
    obtain ⟨z1, hz1, hf⟩ := bd hf
    refine cl_Vv (rest := []) (kgX8_append (l := l) (Γ := Γ) (A := A) (G := g) (o := 800) (wf_800 hE) hz1) ⟨hx, hb, hml, hown, htw⟩ hE hw hS (hw _ _ (wf_800 hE)) (q0 := 0) rfl rfl mw462 mw463 mw464 mw119 mw465 pdX8_append ⟨Nat.le_of_ble_eq_true rfl, Nat.le_of_ble_eq_true rfl⟩ rfl rfl hl.1 (Nat.le_of_ble_eq_true rfl) dX9_feed_23 (fun H locs hw hS => ?_)
    obtain ⟨g2, hg2, hf⟩ := bd hf
    have hg2 := Option.some.inj hg2
    rw [hg2] at hw
    refine lv_aload_n hx hb dX9_feed_26 rfl (lv_at hl 0 rfl) ?_
    refine va_get (ci := 9) (v := .ref (ad Γ 800)) (C := RX9) (T := TX9) (N := 8) hx hb htw uwX9 hown hE.1 (hw _ _ (wf_901 hE)) 0 rfl rfl 0 (by decide) (htw _ mw433) (fun _ h9 => h9) rfl dX9_feed_27 ?_
    refine lv_iload_n hx hb dX9_feed_30 rfl (lv_at hl 2 rfl) ?_
    obtain ⟨z3, hz3, hf⟩ := bd hf
    refine cl_Vv (rest := []) (kgX8_append (l := l) (Γ := Γ) (A := A) (G := g2) (o := 800) (wf_800 hE) hz3) ⟨hx, hb, hml, hown, htw⟩ hE hw hS (hw _ _ (wf_800 hE)) (q0 := 0) rfl rfl mw462 mw463 mw464 mw119 mw465 pdX8_append ⟨Nat.le_of_ble_eq_true rfl, Nat.le_of_ble_eq_true rfl⟩ rfl rfl hl.1 (Nat.le_of_ble_eq_true rfl) dX9_feed_31 (fun H locs hw hS => ?_)
    obtain ⟨g4, hg4, hf⟩ := bd hf
    have hg4 := Option.some.inj hg4
    rw [hg4] at hw
    refine lv_aload_n hx hb dX9_feed_34 rfl (lv_at hl 0 rfl) ?_
    refine va_get (ci := 9) (v := .ref (ad Γ 800)) (C := RX9) (T := TX9) (N := 8) hx hb htw uwX9 hown hE.1 (hw _ _ (wf_901 hE)) 0 rfl rfl 0 (by decide) (htw _ mw433) (fun _ h9 => h9) rfl dX9_feed_35 ?_
    refine lv_iload_n hx hb dX9_feed_38 rfl (lv_at hl 3 rfl) ?_
    obtain ⟨z5, hz5, hf⟩ := bd hf
    refine cl_Vv (rest := []) (kgX8_append (l := l) (Γ := Γ) (A := A) (G := g4) (o := 800) (wf_800 hE) hz5) ⟨hx, hb, hml, hown, htw⟩ hE hw hS (hw _ _ (wf_800 hE)) (q0 := 0) rfl rfl mw462 mw463 mw464 mw119 mw465 pdX8_append ⟨Nat.le_of_ble_eq_true rfl, Nat.le_of_ble_eq_true rfl⟩ rfl rfl hl.1 (Nat.le_of_ble_eq_true rfl) dX9_feed_39 (fun H locs hw hS => ?_)
    obtain ⟨g6, hg6, hf⟩ := bd hf
    have hg6 := Option.some.inj hg6
    rw [hg6] at hw
    refine lv_aload_n hx hb dX9_feed_42 rfl (lv_at hl 0 rfl) ?_
    refine va_get (ci := 9) (v := .ref (ad Γ 800)) (C := RX9) (T := TX9) (N := 8) hx hb htw uwX9 hown hE.1 (hw _ _ (wf_901 hE)) 0 rfl rfl 0 (by decide) (htw _ mw433) (fun _ h9 => h9) rfl dX9_feed_43 ?_
    refine lv_iload hx hb dX9_feed_46 (lv_at hl 4 rfl) ?_
    obtain ⟨z7, hz7, hf⟩ := bd hf
    refine cl_Vv (rest := []) (kgX8_append (l := l) (Γ := Γ) (A := A) (G := g6) (o := 800) (wf_800 hE) hz7) ⟨hx, hb, hml, hown, htw⟩ hE hw hS (hw _ _ (wf_800 hE)) (q0 := 0) rfl rfl mw462 mw463 mw464 mw119 mw465 pdX8_append ⟨Nat.le_of_ble_eq_true rfl, Nat.le_of_ble_eq_true rfl⟩ rfl rfl hl.1 (Nat.le_of_ble_eq_true rfl) dX9_feed_48 (fun H locs hw hS => ?_)
    obtain ⟨g8, hg8, hf⟩ := bd hf
    have hg8 := Option.some.inj hg8
    rw [hg8] at hw
    refine lv_aload_n hx hb dX9_feed_51 rfl (lv_at hl 0 rfl) ?_
    refine va_get (ci := 9) (v := .ref (ad Γ 800)) (C := RX9) (T := TX9) (N := 8) hx hb htw uwX9 hown hE.1 (hw _ _ (wf_901 hE)) 0 rfl rfl 0 (by decide) (htw _ mw433) (fun _ h9 => h9) rfl dX9_feed_52 ?_
    refine lv_iload hx hb dX9_feed_55 (lv_at hl 5 rfl) ?_
    obtain ⟨z9, hz9, hf⟩ := bd hf
    refine cl_Vv (rest := []) (kgX8_append (l := l) (Γ := Γ) (A := A) (G := g8) (o := 800) (wf_800 hE) hz9) ⟨hx, hb, hml, hown, htw⟩ hE hw hS (hw _ _ (wf_800 hE)) (q0 := 0) rfl rfl mw462 mw463 mw464 mw119 mw465 pdX8_append ⟨Nat.le_of_ble_eq_true rfl, Nat.le_of_ble_eq_true rfl⟩ rfl rfl hl.1 (Nat.le_of_ble_eq_true rfl) dX9_feed_57 (fun H locs hw hS => ?_)
    obtain ⟨g10, hg10, hf⟩ := bd hf
    have hg10 := Option.some.inj hg10
    rw [hg10] at hw
    refine lv_aload_n hx hb dX9_feed_60 rfl (lv_at hl 0 rfl) ?_
    refine va_get (ci := 9) (v := .ref (ad Γ 800)) (C := RX9) (T := TX9) (N := 8) hx hb htw uwX9 hown hE.1 (hw _ _ (wf_901 hE)) 0 rfl rfl 0 (by decide) (htw _ mw433) (fun _ h9 => h9) rfl dX9_feed_61 ?_
    refine va_get (ci := 8) (v := .int (gi (g10 800) 1)) (C := RX8) (T := TX8) (N := 9) hx hb htw uwX8 hown hE.1 (hw _ _ (wf_800 hE)) 0 rfl rfl 1 (by decide) (htw _ mw246) (fun _ h9 => h9) rfl dX9_feed_64 ?_
    obtain rfl := Option.some.inj hf
    subst hq
    exact rt_i C hw hS dX9_feed_67
  · have hf := ifn c11 hf
    refine lv_iconst (v := (-1)) hx hb dX9_feed_16 (by decide) ?_
    obtain rfl := Option.some.inj hf
    subst hq
    exact rt_i C hw hS dX9_feed_17

theorem kX9_feed {l : Launch} {Γ : Gm} {A : Nat → Prop} {g : Gs} {v1 : Int32} {v2 : Int32} {v3 : Int32} {v4 : Int32} {v5 : Int32} {fin : Gs × Int32} (hf : fX9_feed g v1 v2 v3 v4 v5 = some fin) : Kt l yX9_feed cX9_feed 6 (some .int) 1 22 Γ A g fin.1 [.ref (ad Γ 901), .int v1, .int v2, .int v3, .int v4, .int v5] (some (.int fin.2)) :=
  kt_of (by decide) (Nat.le_of_ble_eq_true rfl) (fun p e s m args below meth c C => wX9_feed_e C hf rfl)
noncomputable def fX9_end (g : Gs) (v1 : Int32) : Option (Gs × Int32) :=
  if v1 < 0 then some ((g, (-1))) else if v1 ≤ (gi (g 800) 1) then (some (ug g 800 (si (g 800) 1 v1))).bind fun g1 => some ((g1, v1)) else some ((g, (-1)))
set_option maxRecDepth 100000 in
set_option maxHeartbeats 4000000 in
theorem wX9_end_e {p : Program} {l : Launch} {e : Env} {s : State} {m : MethodId} {args : Array Value} {below : List Frame} {meth : Method} {c : Code} {Γ : Gm} {A : Nat → Prop} {g : Gs} {v1 : Int32} {q : (Gs × Int32)} {fin : Gs × Int32} (C : Cx p s m args meth c yX9_end cX9_end 2 (some .int) Γ A) (hf : fX9_end g v1 = some q) (hq : (fun x => x = fin) q) : Wk p l e { frames := 0, cells := 0, slots := 0, locals := 0 } s m args below meth c Γ A fin.1 (some (.int fin.2)) 0 2 [(0, .ref (ad Γ 901)), (1, .int v1)] [] g := by
  intro H locs ls hw hS hl
  unfold fX9_end at hf
  obtain ⟨hx, hb, hml, hr, hown, htw, hlocks, hE⟩ := id C
  have hown : s.vm.findClass RX9 = some m.cls := hown
  refine lv_iload_n hx hb dX9_end_0 rfl (lv_at hl 1 rfl) ?_
  refine lv_if_lt (tgt := 15) hx hb dX9_end_1 (by decide) (fun c3 => ?_) (fun c3 => ?_)
  · have hf := ifp c3 hf
    refine lv_iconst (v := (-1)) hx hb dX9_end_15 (by decide) ?_
    obtain rfl := Option.some.inj hf
    subst hq
    exact rt_i C hw hS dX9_end_16
  · have hf := ifn c3 hf
    refine lv_iload_n hx hb dX9_end_4 rfl (lv_at hl 1 rfl) ?_
    refine lv_aload_n hx hb dX9_end_5 rfl (lv_at hl 0 rfl) ?_
    refine va_get (ci := 9) (v := .ref (ad Γ 800)) (C := RX9) (T := TX9) (N := 8) hx hb htw uwX9 hown hE.1 (hw _ _ (wf_901 hE)) 0 rfl rfl 0 (by decide) (htw _ mw433) (fun _ h9 => h9) rfl dX9_end_6 ?_
    refine va_get (ci := 8) (v := .int (gi (g 800) 1)) (C := RX8) (T := TX8) (N := 9) hx hb htw uwX8 hown hE.1 (hw _ _ (wf_800 hE)) 0 rfl rfl 1 (by decide) (htw _ mw246) (fun _ h9 => h9) rfl dX9_end_9 ?_
    refine lv_icmp_le (tgt := 17) hx hb dX9_end_12 (by decide) (fun c2 => ?_) (fun c2 => ?_)
    · have hf := ifp c2 hf
      refine lv_aload_n hx hb dX9_end_17 rfl (lv_at hl 0 rfl) ?_
      refine va_get (ci := 9) (v := .ref (ad Γ 800)) (C := RX9) (T := TX9) (N := 8) hx hb htw uwX9 hown hE.1 (hw _ _ (wf_901 hE)) 0 rfl rfl 0 (by decide) (htw _ mw433) (fun _ h9 => h9) rfl dX9_end_18 ?_
      refine lv_iload_n hx hb dX9_end_21 rfl (lv_at hl 1 rfl) ?_
      obtain ⟨g1, hg1, hf⟩ := bd hf
      have hg1 := Option.some.inj hg1
      refine wo_putG (C := RX8) (T := TX8) (N := 9) (v := .int v1) (ty := .int) hx hb htw uwX8 tyX8 tyX8_ok nmX8 hown hE hw hS (wf_800 hE) rfl rfl 1 (by decide) (htw _ mw246) (fun _ h9 => h9) rfl (tyX8_ok 1 (by decide)) rfl rfl (Nat.le_of_ble_eq_true rfl) (st8_1 rfl) hg1 dX9_end_22 (fun H locs hw hS => ?_)
      refine lv_iload_n hx hb dX9_end_25 rfl (lv_at hl 1 rfl) ?_
      obtain rfl := Option.some.inj hf
      subst hq
      exact rt_i C hw hS dX9_end_26
    · have hf := ifn c2 hf
      refine lv_iconst (v := (-1)) hx hb dX9_end_15 (by decide) ?_
      obtain rfl := Option.some.inj hf
      subst hq
      exact rt_i C hw hS dX9_end_16

theorem kX9_end {l : Launch} {Γ : Gm} {A : Nat → Prop} {g : Gs} {v1 : Int32} {fin : Gs × Int32} (hf : fX9_end g v1 = some fin) : Kt l yX9_end cX9_end 2 (some .int) 0 0 Γ A g fin.1 [.ref (ad Γ 901), .int v1] (some (.int fin.2)) :=
  kt_of (by decide) (Nat.le_of_ble_eq_true rfl) (fun p e s m args below meth c C => wX9_end_e C hf rfl)
noncomputable def bX9_takeText_25 (g : Gs) (v1 : Int32) (v2 : Int32) : Option Gs :=
  if v1 = 0 then (fX8_houseAt (g 800) 800 v2).bind fun z6 => oc z6 ((fX4_fillHouse g none).bind fun z8 => some (z8)) (fun h7 => gd (isHm h7) ((fX4_fillHouse g (some h7)).bind fun z10 => some (z10))) else (fX8_rowsAt (g 800) 800 v1 v2).bind fun z1 => oc z1 ((fX4_fillRows g none).bind fun z3 => some (z3)) (fun h2 => gd (isRw h2) ((fX4_fillRows g (some h2)).bind fun z5 => some (z5)))
set_option maxRecDepth 100000 in
set_option maxHeartbeats 4000000 in
theorem wX9_takeText_25 {p : Program} {l : Launch} {e : Env} {s : State} {m : MethodId} {args : Array Value} {below : List Frame} {meth : Method} {c : Code} {Γ : Gm} {A : Nat → Prop} {g : Gs} {v1 : Int32} {v2 : Int32} {q : Gs} {fin : Gs} (C : Cx p s m args meth c yX9_takeText cX9_takeText 3 none Γ A) (hf : bX9_takeText_25 g v1 v2 = some q) (hq : (fun x => x = fin) q) : Wk p l e { frames := 3, cells := 0, slots := 0, locals := 66 } s m args below meth c Γ A fin none 25 3 [(0, .ref (ad Γ 901)), (1, .int v1), (2, .int v2)] [] g := by
  intro H locs ls hw hS hl
  unfold bX9_takeText_25 at hf
  obtain ⟨hx, hb, hml, hr, hown, htw, hlocks, hE⟩ := id C
  have hown : s.vm.findClass RX9 = some m.cls := hown
  refine lv_iload_n hx hb dX9_takeText_25 rfl (lv_at hl 1 rfl) ?_
  refine lv_if_ne (tgt := 47) hx hb dX9_takeText_26 (by decide) (fun c11 => ?_) (fun c11 => ?_)
  · have hf := ifn c11 hf
    refine lv_aload_n hx hb dX9_takeText_47 rfl (lv_at hl 0 rfl) ?_
    refine va_get (ci := 9) (v := .ref (ad Γ 401)) (C := RX9) (T := TX9) (N := 8) hx hb htw uwX9 hown hE.1 (hw _ _ (wf_901 hE)) 0 rfl rfl 2 (by decide) (htw _ mw435) (fun _ h9 => h9) rfl dX9_takeText_48 ?_
    refine lv_aload_n hx hb dX9_takeText_51 rfl (lv_at hl 0 rfl) ?_
    refine va_get (ci := 9) (v := .ref (ad Γ 800)) (C := RX9) (T := TX9) (N := 8) hx hb htw uwX9 hown hE.1 (hw _ _ (wf_901 hE)) 0 rfl rfl 0 (by decide) (htw _ mw433) (fun _ h9 => h9) rfl dX9_takeText_52 ?_
    refine lv_iload_n hx hb dX9_takeText_55 rfl (lv_at hl 1 rfl) ?_
    refine lv_iload_n hx hb dX9_takeText_56 rfl (lv_at hl 2 rfl) ?_
    obtain ⟨z1, hz1, hf⟩ := bd hf
    refine cl_Vs (rest := [.ref (ad Γ 401)]) (kgX8_rowsAt (l := l) (Γ := Γ) (A := A) (G := g) (o := 800) (wf_800 hE) hz1) ⟨hx, hb, hml, hown, htw⟩ hE hw hS (hw _ _ (wf_800 hE)) (q0 := 0) rfl rfl mw658 mw659 mw660 mw119 mw661 pdX8_rowsAt ⟨Nat.le_of_ble_eq_true rfl, Nat.le_of_ble_eq_true rfl⟩ rfl rfl hl.1 (Nat.le_of_ble_eq_true rfl) dX9_takeText_57 (fun H locs hw hS => ?_)
    cases z1 with
    | none =>
      have hf := oc_none hf
      obtain ⟨z3, hz3, hf⟩ := bd hf
      refine cl_Vv (rest := []) (kX4_fillRows (l := l) (Γ := Γ) (A := A) (fun _ h9 => by cases h9) hz3) ⟨hx, hb, hml, hown, htw⟩ hE hw hS (hw _ _ (wf_401 hE)) (q0 := 0) rfl rfl mw662 mw663 mw664 mw123 mw665 pdX4_fillRows ⟨Nat.le_of_ble_eq_true rfl, Nat.le_of_ble_eq_true rfl⟩ rfl rfl hl.1 (Nat.le_of_ble_eq_true rfl) dX9_takeText_60 (fun H locs hw hS => ?_)
      obtain rfl := Option.some.inj hf
      subst hq
      exact rt_v C hw hS dX9_takeText_63
    | some h2 =>
      have hf := oc_some hf
      obtain ⟨g4, hf⟩ := gd_some hf
      obtain ⟨z5, hz5, hf⟩ := bd hf
      refine cl_Vv (rest := []) (kX4_fillRows (l := l) (Γ := Γ) (A := A) (fun _ h9 => by cases h9; exact (rw_kd hE g4)) hz5) ⟨hx, hb, hml, hown, htw⟩ hE hw hS (hw _ _ (wf_401 hE)) (q0 := 0) rfl rfl mw662 mw663 mw664 mw123 mw665 pdX4_fillRows ⟨Nat.le_of_ble_eq_true rfl, Nat.le_of_ble_eq_true rfl⟩ rfl rfl hl.1 (Nat.le_of_ble_eq_true rfl) dX9_takeText_60 (fun H locs hw hS => ?_)
      obtain rfl := Option.some.inj hf
      subst hq
      exact rt_v C hw hS dX9_takeText_63
  · have hf := ifp c11 hf
    refine lv_aload_n hx hb dX9_takeText_29 rfl (lv_at hl 0 rfl) ?_
    refine va_get (ci := 9) (v := .ref (ad Γ 401)) (C := RX9) (T := TX9) (N := 8) hx hb htw uwX9 hown hE.1 (hw _ _ (wf_901 hE)) 0 rfl rfl 2 (by decide) (htw _ mw435) (fun _ h9 => h9) rfl dX9_takeText_30 ?_
    refine lv_aload_n hx hb dX9_takeText_33 rfl (lv_at hl 0 rfl) ?_
    refine va_get (ci := 9) (v := .ref (ad Γ 800)) (C := RX9) (T := TX9) (N := 8) hx hb htw uwX9 hown hE.1 (hw _ _ (wf_901 hE)) 0 rfl rfl 0 (by decide) (htw _ mw433) (fun _ h9 => h9) rfl dX9_takeText_34 ?_
    refine lv_iload_n hx hb dX9_takeText_37 rfl (lv_at hl 2 rfl) ?_
    obtain ⟨z6, hz6, hf⟩ := bd hf
    refine cl_Vs (rest := [.ref (ad Γ 401)]) (kgX8_houseAt (l := l) (Γ := Γ) (A := A) (G := g) (o := 800) (wf_800 hE) hz6) ⟨hx, hb, hml, hown, htw⟩ hE hw hS (hw _ _ (wf_800 hE)) (q0 := 0) rfl rfl mw629 mw630 mw631 mw119 mw632 pdX8_houseAt ⟨Nat.le_of_ble_eq_true rfl, Nat.le_of_ble_eq_true rfl⟩ rfl rfl hl.1 (Nat.le_of_ble_eq_true rfl) dX9_takeText_38 (fun H locs hw hS => ?_)
    cases z6 with
    | none =>
      have hf := oc_none hf
      obtain ⟨z8, hz8, hf⟩ := bd hf
      refine cl_Vv (rest := []) (kX4_fillHouse (l := l) (Γ := Γ) (A := A) (fun _ h9 => by cases h9) hz8) ⟨hx, hb, hml, hown, htw⟩ hE hw hS (hw _ _ (wf_401 hE)) (q0 := 0) rfl rfl mw633 mw634 mw635 mw123 mw636 pdX4_fillHouse ⟨Nat.le_of_ble_eq_true rfl, Nat.le_of_ble_eq_true rfl⟩ rfl rfl hl.1 (Nat.le_of_ble_eq_true rfl) dX9_takeText_41 (fun H locs hw hS => ?_)
      refine lv_goto (tgt := 63) hx hb dX9_takeText_44 (by decide) ?_
      obtain rfl := Option.some.inj hf
      subst hq
      exact rt_v C hw hS dX9_takeText_63
    | some h7 =>
      have hf := oc_some hf
      obtain ⟨g9, hf⟩ := gd_some hf
      obtain ⟨z10, hz10, hf⟩ := bd hf
      refine cl_Vv (rest := []) (kX4_fillHouse (l := l) (Γ := Γ) (A := A) (fun _ h9 => by cases h9; exact (hm_kd hE g9)) hz10) ⟨hx, hb, hml, hown, htw⟩ hE hw hS (hw _ _ (wf_401 hE)) (q0 := 0) rfl rfl mw633 mw634 mw635 mw123 mw636 pdX4_fillHouse ⟨Nat.le_of_ble_eq_true rfl, Nat.le_of_ble_eq_true rfl⟩ rfl rfl hl.1 (Nat.le_of_ble_eq_true rfl) dX9_takeText_41 (fun H locs hw hS => ?_)
      refine lv_goto (tgt := 63) hx hb dX9_takeText_44 (by decide) ?_
      obtain rfl := Option.some.inj hf
      subst hq
      exact rt_v C hw hS dX9_takeText_63

noncomputable def fX9_takeText (g : Gs) (v1 : Int32) (v2 : Int32) : Option Gs :=
  gd (inR v1 4) (if v2 < (ga (g 800) 4 (Int32.toNatClampNeg v1)) then bX9_takeText_25 g v1 v2 else gd (inR v1 4) ((some (ug g 800 (sa (g 800) 4 (upd (ga (g 800) 4) (Int32.toNatClampNeg v1) (v2 + 1))))).bind fun g14 => bX9_takeText_25 g14 v1 v2))
set_option maxRecDepth 100000 in
set_option maxHeartbeats 4000000 in
theorem wX9_takeText_e {p : Program} {l : Launch} {e : Env} {s : State} {m : MethodId} {args : Array Value} {below : List Frame} {meth : Method} {c : Code} {Γ : Gm} {A : Nat → Prop} {g : Gs} {v1 : Int32} {v2 : Int32} {q : Gs} {fin : Gs} (C : Cx p s m args meth c yX9_takeText cX9_takeText 3 none Γ A) (hf : fX9_takeText g v1 v2 = some q) (hq : (fun x => x = fin) q) : Wk p l e { frames := 3, cells := 0, slots := 0, locals := 66 } s m args below meth c Γ A fin none 0 3 [(0, .ref (ad Γ 901)), (1, .int v1), (2, .int v2)] [] g := by
  intro H locs ls hw hS hl
  unfold fX9_takeText at hf
  obtain ⟨hx, hb, hml, hr, hown, htw, hlocks, hE⟩ := id C
  have hown : s.vm.findClass RX9 = some m.cls := hown
  refine lv_iload_n hx hb dX9_takeText_0 rfl (lv_at hl 2 rfl) ?_
  refine lv_aload_n hx hb dX9_takeText_1 rfl (lv_at hl 0 rfl) ?_
  refine va_get (ci := 9) (v := .ref (ad Γ 800)) (C := RX9) (T := TX9) (N := 8) hx hb htw uwX9 hown hE.1 (hw _ _ (wf_901 hE)) 0 rfl rfl 0 (by decide) (htw _ mw433) (fun _ h9 => h9) rfl dX9_takeText_2 ?_
  refine va_get (ci := 8) (v := .ref (aa Γ 800 4)) (C := RX8) (T := TX8) (N := 9) hx hb htw uwX8 hown hE.1 (hw _ _ (wf_800 hE)) 0 rfl rfl 4 (by decide) (htw _ mw252) (fun _ h9 => h9) rfl dX9_takeText_5 ?_
  refine lv_iload_n hx hb dX9_takeText_8 rfl (lv_at hl 1 rfl) ?_
  obtain ⟨g12, hf⟩ := gd_some hf
  refine va_iald hx hb hE.1 (hw _ _ (wf_800 hE)) 2 0 rfl rfl (inR_in g12) dX9_takeText_9 ?_
  refine lv_icmp_lt (tgt := 25) hx hb dX9_takeText_10 (by decide) (fun c15 => ?_) (fun c15 => ?_)
  · have hf := ifp c15 hf
    exact wX9_takeText_25 C hf hq H locs ls hw hS hl
  · have hf := ifn c15 hf
    refine lv_aload_n hx hb dX9_takeText_13 rfl (lv_at hl 0 rfl) ?_
    refine va_get (ci := 9) (v := .ref (ad Γ 800)) (C := RX9) (T := TX9) (N := 8) hx hb htw uwX9 hown hE.1 (hw _ _ (wf_901 hE)) 0 rfl rfl 0 (by decide) (htw _ mw433) (fun _ h9 => h9) rfl dX9_takeText_14 ?_
    refine va_get (ci := 8) (v := .ref (aa Γ 800 4)) (C := RX8) (T := TX8) (N := 9) hx hb htw uwX8 hown hE.1 (hw _ _ (wf_800 hE)) 0 rfl rfl 4 (by decide) (htw _ mw252) (fun _ h9 => h9) rfl dX9_takeText_17 ?_
    refine lv_iload_n hx hb dX9_takeText_20 rfl (lv_at hl 1 rfl) ?_
    refine lv_iload_n hx hb dX9_takeText_21 rfl (lv_at hl 2 rfl) ?_
    refine lv_iconst (v := 1) hx hb dX9_takeText_22 (by decide) ?_
    refine lv_iadd hx hb dX9_takeText_23 ?_
    obtain ⟨g13, hf⟩ := gd_some hf
    obtain ⟨g14, hg14, hf⟩ := bd hf
    have hg14 := Option.some.inj hg14
    refine wo_iastG hx hb hE hw hS (wf_800 hE) (q0 := 2) rfl (inR_in g13) (sa8_4 rfl) hg14 dX9_takeText_24 (fun H locs hw hS => ?_)
    exact wX9_takeText_25 C hf hq H locs ls hw hS hl

theorem kX9_takeText {l : Launch} {Γ : Gm} {A : Nat → Prop} {g : Gs} {v1 : Int32} {v2 : Int32} {fin : Gs} (hf : fX9_takeText g v1 v2 = some fin) : Kt l yX9_takeText cX9_takeText 3 none 3 66 Γ A g fin [.ref (ad Γ 901), .int v1, .int v2] none :=
  kt_of (by decide) (Nat.le_of_ble_eq_true rfl) (fun p e s m args below meth c C => wX9_takeText_e C hf rfl)
noncomputable def bX9_text_82 (g : Gs) (v1 : Int32) (v3 : Int32) (v4 : Int32) (s0 : Int32) : Option (Gs × Int32) :=
  if v4 < 0 then some ((g, (-2))) else if v4 < s0 then (fX4_read g v3 v1).bind fun z1 => (some (ug z1 800 (si (z1 800) 2 (gi (z1 401) 12)))).bind fun g2 => (some (ug g2 800 (si (g2 800) 3 (gi (g2 401) 13)))).bind fun g3 => if (gi (g3 401) 12) = 0 then (fX9_takeText g3 v1 v4).bind fun z4 => some ((z4, v4)) else some ((g3, (-1))) else some ((g, (-2)))
set_option maxRecDepth 100000 in
set_option maxHeartbeats 4000000 in
theorem wX9_text_82 {p : Program} {l : Launch} {e : Env} {s : State} {m : MethodId} {args : Array Value} {below : List Frame} {meth : Method} {c : Code} {Γ : Gm} {A : Nat → Prop} {g : Gs} {v1 : Int32} {v3 : Int32} {v4 : Int32} {s0 : Int32} {q : (Gs × Int32)} {fin : Gs × Int32} (C : Cx p s m args meth c yX9_text cX9_text 6 (some .int) Γ A) (hf : bX9_text_82 g v1 v3 v4 s0 = some q) (hq : (fun x => x = fin) q) : Wk p l e { frames := 9, cells := 0, slots := 0, locals := 196 } s m args below meth c Γ A fin.1 (some (.int fin.2)) 82 6 [(0, .ref (ad Γ 901)), (1, .int v1), (3, .int v3), (4, .int v4)] [.int s0] g := by
  intro H locs ls hw hS hl
  unfold bX9_text_82 at hf
  obtain ⟨hx, hb, hml, hr, hown, htw, hlocks, hE⟩ := id C
  have hown : s.vm.findClass RX9 = some m.cls := hown
  refine lv_istore (lv' := [(5, .int s0), (0, .ref (ad Γ 901)), (1, .int v1), (3, .int v3), (4, .int v4)]) hx hb dX9_text_82 hl (by decide) rfl (fun ls hl => ?_)
  refine lv_iload hx hb dX9_text_84 (lv_at hl 4 rfl) ?_
  refine lv_if_lt (tgt := 96) hx hb dX9_text_86 (by decide) (fun c7 => ?_) (fun c7 => ?_)
  · have hf := ifp c7 hf
    refine lv_bipush (v := (-2)) hx hb dX9_text_96 (by decide) ?_
    obtain rfl := Option.some.inj hf
    subst hq
    exact rt_i C hw hS dX9_text_98
  · have hf := ifn c7 hf
    refine lv_iload hx hb dX9_text_89 (lv_at hl 4 rfl) ?_
    refine lv_iload hx hb dX9_text_91 (lv_at hl 0 rfl) ?_
    refine lv_icmp_lt (tgt := 99) hx hb dX9_text_93 (by decide) (fun c6 => ?_) (fun c6 => ?_)
    · have hf := ifp c6 hf
      refine lv_aload_n hx hb dX9_text_99 rfl (lv_at hl 1 rfl) ?_
      refine va_get (ci := 9) (v := .ref (ad Γ 401)) (C := RX9) (T := TX9) (N := 8) hx hb htw uwX9 hown hE.1 (hw _ _ (wf_901 hE)) 0 rfl rfl 2 (by decide) (htw _ mw435) (fun _ h9 => h9) rfl dX9_text_100 ?_
      refine lv_aload_n hx hb dX9_text_103 rfl (lv_at hl 1 rfl) ?_
      refine va_get (ci := 9) (v := .ref (ad Γ 800)) (C := RX9) (T := TX9) (N := 8) hx hb htw uwX9 hown hE.1 (hw _ _ (wf_901 hE)) 0 rfl rfl 0 (by decide) (htw _ mw433) (fun _ h9 => h9) rfl dX9_text_104 ?_
      refine va_get (ci := 8) (v := .ref (aa Γ 800 0)) (C := RX8) (T := TX8) (N := 9) hx hb htw uwX8 hown hE.1 (hw _ _ (wf_800 hE)) 0 rfl rfl 0 (by decide) (htw _ mw244) (fun _ h9 => h9) rfl dX9_text_107 ?_
      refine lv_iload_n hx hb dX9_text_110 rfl (lv_at hl 3 rfl) ?_
      refine lv_iload_n hx hb dX9_text_111 rfl (lv_at hl 2 rfl) ?_
      obtain ⟨z1, hz1, hf⟩ := bd hf
      refine cl_Vv (rest := []) (kX4_read (l := l) (Γ := Γ) (A := A) hz1) ⟨hx, hb, hml, hown, htw⟩ hE hw hS (hw _ _ (wf_401 hE)) (q0 := 0) rfl rfl mw474 mw475 mw476 mw123 mw477 pdX4_read ⟨Nat.le_of_ble_eq_true rfl, Nat.le_of_ble_eq_true rfl⟩ rfl rfl hl.1 (Nat.le_of_ble_eq_true rfl) dX9_text_112 (fun H locs hw hS => ?_)
      refine lv_aload_n hx hb dX9_text_115 rfl (lv_at hl 1 rfl) ?_
      refine va_get (ci := 9) (v := .ref (ad Γ 800)) (C := RX9) (T := TX9) (N := 8) hx hb htw uwX9 hown hE.1 (hw _ _ (wf_901 hE)) 0 rfl rfl 0 (by decide) (htw _ mw433) (fun _ h9 => h9) rfl dX9_text_116 ?_
      refine lv_aload_n hx hb dX9_text_119 rfl (lv_at hl 1 rfl) ?_
      refine va_get (ci := 9) (v := .ref (ad Γ 401)) (C := RX9) (T := TX9) (N := 8) hx hb htw uwX9 hown hE.1 (hw _ _ (wf_901 hE)) 0 rfl rfl 2 (by decide) (htw _ mw435) (fun _ h9 => h9) rfl dX9_text_120 ?_
      refine va_get (ci := 4) (v := .int (gi (z1 401) 12)) (C := RX4) (T := TX4) (N := 14) hx hb htw uwX4 hown hE.1 (hw _ _ (wf_401 hE)) 0 rfl rfl 12 (by decide) (htw _ mw296) (fun _ h9 => h9) rfl dX9_text_123 ?_
      obtain ⟨g2, hg2, hf⟩ := bd hf
      have hg2 := Option.some.inj hg2
      refine wo_putG (C := RX8) (T := TX8) (N := 9) (v := .int (gi (z1 401) 12)) (ty := .int) hx hb htw uwX8 tyX8 tyX8_ok nmX8 hown hE hw hS (wf_800 hE) rfl rfl 2 (by decide) (htw _ mw248) (fun _ h9 => h9) rfl (tyX8_ok 2 (by decide)) rfl rfl (Nat.le_of_ble_eq_true rfl) (st8_2 rfl) hg2 dX9_text_126 (fun H locs hw hS => ?_)
      refine lv_aload_n hx hb dX9_text_129 rfl (lv_at hl 1 rfl) ?_
      refine va_get (ci := 9) (v := .ref (ad Γ 800)) (C := RX9) (T := TX9) (N := 8) hx hb htw uwX9 hown hE.1 (hw _ _ (wf_901 hE)) 0 rfl rfl 0 (by decide) (htw _ mw433) (fun _ h9 => h9) rfl dX9_text_130 ?_
      refine lv_aload_n hx hb dX9_text_133 rfl (lv_at hl 1 rfl) ?_
      refine va_get (ci := 9) (v := .ref (ad Γ 401)) (C := RX9) (T := TX9) (N := 8) hx hb htw uwX9 hown hE.1 (hw _ _ (wf_901 hE)) 0 rfl rfl 2 (by decide) (htw _ mw435) (fun _ h9 => h9) rfl dX9_text_134 ?_
      refine va_get (ci := 4) (v := .int (gi (g2 401) 13)) (C := RX4) (T := TX4) (N := 14) hx hb htw uwX4 hown hE.1 (hw _ _ (wf_401 hE)) 0 rfl rfl 13 (by decide) (htw _ mw298) (fun _ h9 => h9) rfl dX9_text_137 ?_
      obtain ⟨g3, hg3, hf⟩ := bd hf
      have hg3 := Option.some.inj hg3
      refine wo_putG (C := RX8) (T := TX8) (N := 9) (v := .int (gi (g2 401) 13)) (ty := .int) hx hb htw uwX8 tyX8 tyX8_ok nmX8 hown hE hw hS (wf_800 hE) rfl rfl 3 (by decide) (htw _ mw250) (fun _ h9 => h9) rfl (tyX8_ok 3 (by decide)) rfl rfl (Nat.le_of_ble_eq_true rfl) (st8_3 rfl) hg3 dX9_text_140 (fun H locs hw hS => ?_)
      refine lv_aload_n hx hb dX9_text_143 rfl (lv_at hl 1 rfl) ?_
      refine va_get (ci := 9) (v := .ref (ad Γ 401)) (C := RX9) (T := TX9) (N := 8) hx hb htw uwX9 hown hE.1 (hw _ _ (wf_901 hE)) 0 rfl rfl 2 (by decide) (htw _ mw435) (fun _ h9 => h9) rfl dX9_text_144 ?_
      refine va_get (ci := 4) (v := .int (gi (g3 401) 12)) (C := RX4) (T := TX4) (N := 14) hx hb htw uwX4 hown hE.1 (hw _ _ (wf_401 hE)) 0 rfl rfl 12 (by decide) (htw _ mw296) (fun _ h9 => h9) rfl dX9_text_147 ?_
      refine lv_if_eq (tgt := 155) hx hb dX9_text_150 (by decide) (fun c5 => ?_) (fun c5 => ?_)
      · have hf := ifp c5 hf
        refine lv_aload_n hx hb dX9_text_155 rfl (lv_at hl 1 rfl) ?_
        refine lv_iload_n hx hb dX9_text_156 rfl (lv_at hl 2 rfl) ?_
        refine lv_iload hx hb dX9_text_157 (lv_at hl 4 rfl) ?_
        obtain ⟨z4, hz4, hf⟩ := bd hf
        refine cl_Vv (rest := []) (kX9_takeText (l := l) (Γ := Γ) (A := A) hz4) ⟨hx, hb, hml, hown, htw⟩ hE hw hS (hw _ _ (wf_901 hE)) (q0 := 0) rfl rfl mw625 mw627 mw13 mw118 mw628 pdX9_takeText ⟨Nat.le_of_ble_eq_true rfl, Nat.le_of_ble_eq_true rfl⟩ rfl rfl hl.1 (Nat.le_of_ble_eq_true rfl) dX9_text_159 (fun H locs hw hS => ?_)
        refine lv_iload hx hb dX9_text_162 (lv_at hl 4 rfl) ?_
        obtain rfl := Option.some.inj hf
        subst hq
        exact rt_i C hw hS dX9_text_164
      · have hf := ifn c5 hf
        refine lv_iconst (v := (-1)) hx hb dX9_text_153 (by decide) ?_
        obtain rfl := Option.some.inj hf
        subst hq
        exact rt_i C hw hS dX9_text_154
    · have hf := ifn c6 hf
      refine lv_bipush (v := (-2)) hx hb dX9_text_96 (by decide) ?_
      obtain rfl := Option.some.inj hf
      subst hq
      exact rt_i C hw hS dX9_text_98

noncomputable def bX9_text_62 (g : Gs) (v1 : Int32) (v2 : Int32) (v3 : Int32) (s0 : Int32) : Option (Gs × Int32) :=
  if v2 = (-1) then bX9_text_82 g v1 v3 s0 2 else gd (inR v1 4) (bX9_text_82 g v1 v3 s0 (ga (g 800) 4 (Int32.toNatClampNeg v1)))
set_option maxRecDepth 100000 in
set_option maxHeartbeats 4000000 in
theorem wX9_text_62 {p : Program} {l : Launch} {e : Env} {s : State} {m : MethodId} {args : Array Value} {below : List Frame} {meth : Method} {c : Code} {Γ : Gm} {A : Nat → Prop} {g : Gs} {v1 : Int32} {v2 : Int32} {v3 : Int32} {s0 : Int32} {q : (Gs × Int32)} {fin : Gs × Int32} (C : Cx p s m args meth c yX9_text cX9_text 6 (some .int) Γ A) (hf : bX9_text_62 g v1 v2 v3 s0 = some q) (hq : (fun x => x = fin) q) : Wk p l e { frames := 9, cells := 0, slots := 0, locals := 196 } s m args below meth c Γ A fin.1 (some (.int fin.2)) 62 6 [(0, .ref (ad Γ 901)), (1, .int v1), (2, .int v2), (3, .int v3)] [.int s0] g := by
  intro H locs ls hw hS hl
  unfold bX9_text_62 at hf
  obtain ⟨hx, hb, hml, hr, hown, htw, hlocks, hE⟩ := id C
  have hown : s.vm.findClass RX9 = some m.cls := hown
  refine lv_istore (lv' := [(4, .int s0), (0, .ref (ad Γ 901)), (1, .int v1), (2, .int v2), (3, .int v3)]) hx hb dX9_text_62 hl (by decide) rfl (fun ls hl => ?_)
  refine lv_iload_n hx hb dX9_text_64 rfl (lv_at hl 3 rfl) ?_
  refine lv_iconst (v := (-1)) hx hb dX9_text_65 (by decide) ?_
  refine lv_icmp_ne (tgt := 73) hx hb dX9_text_66 (by decide) (fun c9 => ?_) (fun c9 => ?_)
  · have hf := ifn c9 hf
    refine lv_aload_n hx hb dX9_text_73 rfl (lv_at hl 1 rfl) ?_
    refine va_get (ci := 9) (v := .ref (ad Γ 800)) (C := RX9) (T := TX9) (N := 8) hx hb htw uwX9 hown hE.1 (hw _ _ (wf_901 hE)) 0 rfl rfl 0 (by decide) (htw _ mw433) (fun _ h9 => h9) rfl dX9_text_74 ?_
    refine va_get (ci := 8) (v := .ref (aa Γ 800 4)) (C := RX8) (T := TX8) (N := 9) hx hb htw uwX8 hown hE.1 (hw _ _ (wf_800 hE)) 0 rfl rfl 4 (by decide) (htw _ mw252) (fun _ h9 => h9) rfl dX9_text_77 ?_
    refine lv_iload_n hx hb dX9_text_80 rfl (lv_at hl 2 rfl) ?_
    obtain ⟨g8, hf⟩ := gd_some hf
    refine va_iald hx hb hE.1 (hw _ _ (wf_800 hE)) 2 0 rfl rfl (inR_in g8) dX9_text_81 ?_
    exact wX9_text_82 C hf hq H locs ls hw hS (lv_sub hl [1, 2, 4, 0] rfl)
  · have hf := ifp c9 hf
    refine lv_iconst (v := 2) hx hb dX9_text_69 (by decide) ?_
    refine lv_goto (tgt := 82) hx hb dX9_text_70 (by decide) ?_
    exact wX9_text_82 C hf hq H locs ls hw hS (lv_sub hl [1, 2, 4, 0] rfl)

noncomputable def fX9_text (g : Gs) (v1 : Int32) (v2 : Int32) : Option (Gs × Int32) :=
  (some (ug g 800 (si (g 800) 1 0))).bind fun g10 => (some (ug g10 800 (si (g10 800) 2 0))).bind fun g11 => (some (ug g11 800 (si (g11 800) 3 (-1)))).bind fun g12 => if v1 < 0 then some ((g12, (-2))) else if v1 < 4 then if v2 = (-1) then gd (inR v1 4) (bX9_text_62 g12 v1 v2 (gi (g 800) 1) (ga (g12 800) 4 (Int32.toNatClampNeg v1))) else bX9_text_62 g12 v1 v2 (gi (g 800) 1) v2 else some ((g12, (-2)))
set_option maxRecDepth 100000 in
set_option maxHeartbeats 4000000 in
theorem wX9_text_e {p : Program} {l : Launch} {e : Env} {s : State} {m : MethodId} {args : Array Value} {below : List Frame} {meth : Method} {c : Code} {Γ : Gm} {A : Nat → Prop} {g : Gs} {v1 : Int32} {v2 : Int32} {q : (Gs × Int32)} {fin : Gs × Int32} (C : Cx p s m args meth c yX9_text cX9_text 6 (some .int) Γ A) (hf : fX9_text g v1 v2 = some q) (hq : (fun x => x = fin) q) : Wk p l e { frames := 9, cells := 0, slots := 0, locals := 196 } s m args below meth c Γ A fin.1 (some (.int fin.2)) 0 6 [(0, .ref (ad Γ 901)), (1, .int v1), (2, .int v2)] [] g := by
  intro H locs ls hw hS hl
  unfold fX9_text at hf
  obtain ⟨hx, hb, hml, hr, hown, htw, hlocks, hE⟩ := id C
  have hown : s.vm.findClass RX9 = some m.cls := hown
  refine lv_aload_n hx hb dX9_text_0 rfl (lv_at hl 0 rfl) ?_
  refine va_get (ci := 9) (v := .ref (ad Γ 800)) (C := RX9) (T := TX9) (N := 8) hx hb htw uwX9 hown hE.1 (hw _ _ (wf_901 hE)) 0 rfl rfl 0 (by decide) (htw _ mw433) (fun _ h9 => h9) rfl dX9_text_1 ?_
  refine va_get (ci := 8) (v := .int (gi (g 800) 1)) (C := RX8) (T := TX8) (N := 9) hx hb htw uwX8 hown hE.1 (hw _ _ (wf_800 hE)) 0 rfl rfl 1 (by decide) (htw _ mw246) (fun _ h9 => h9) rfl dX9_text_4 ?_
  refine lv_istore_n (lv' := [(3, .int (gi (g 800) 1)), (0, .ref (ad Γ 901)), (1, .int v1), (2, .int v2)]) hx hb dX9_text_7 rfl hl (by decide) rfl (fun ls hl => ?_)
  refine lv_aload_n hx hb dX9_text_8 rfl (lv_at hl 1 rfl) ?_
  refine va_get (ci := 9) (v := .ref (ad Γ 800)) (C := RX9) (T := TX9) (N := 8) hx hb htw uwX9 hown hE.1 (hw _ _ (wf_901 hE)) 0 rfl rfl 0 (by decide) (htw _ mw433) (fun _ h9 => h9) rfl dX9_text_9 ?_
  refine lv_iconst (v := 0) hx hb dX9_text_12 (by decide) ?_
  obtain ⟨g10, hg10, hf⟩ := bd hf
  have hg10 := Option.some.inj hg10
  refine wo_putG (C := RX8) (T := TX8) (N := 9) (v := .int 0) (ty := .int) hx hb htw uwX8 tyX8 tyX8_ok nmX8 hown hE hw hS (wf_800 hE) rfl rfl 1 (by decide) (htw _ mw246) (fun _ h9 => h9) rfl (tyX8_ok 1 (by decide)) rfl rfl (Nat.le_of_ble_eq_true rfl) (st8_1 rfl) hg10 dX9_text_13 (fun H locs hw hS => ?_)
  refine lv_aload_n hx hb dX9_text_16 rfl (lv_at hl 1 rfl) ?_
  refine va_get (ci := 9) (v := .ref (ad Γ 800)) (C := RX9) (T := TX9) (N := 8) hx hb htw uwX9 hown hE.1 (hw _ _ (wf_901 hE)) 0 rfl rfl 0 (by decide) (htw _ mw433) (fun _ h9 => h9) rfl dX9_text_17 ?_
  refine lv_iconst (v := 0) hx hb dX9_text_20 (by decide) ?_
  obtain ⟨g11, hg11, hf⟩ := bd hf
  have hg11 := Option.some.inj hg11
  refine wo_putG (C := RX8) (T := TX8) (N := 9) (v := .int 0) (ty := .int) hx hb htw uwX8 tyX8 tyX8_ok nmX8 hown hE hw hS (wf_800 hE) rfl rfl 2 (by decide) (htw _ mw248) (fun _ h9 => h9) rfl (tyX8_ok 2 (by decide)) rfl rfl (Nat.le_of_ble_eq_true rfl) (st8_2 rfl) hg11 dX9_text_21 (fun H locs hw hS => ?_)
  refine lv_aload_n hx hb dX9_text_24 rfl (lv_at hl 1 rfl) ?_
  refine va_get (ci := 9) (v := .ref (ad Γ 800)) (C := RX9) (T := TX9) (N := 8) hx hb htw uwX9 hown hE.1 (hw _ _ (wf_901 hE)) 0 rfl rfl 0 (by decide) (htw _ mw433) (fun _ h9 => h9) rfl dX9_text_25 ?_
  refine lv_iconst (v := (-1)) hx hb dX9_text_28 (by decide) ?_
  obtain ⟨g12, hg12, hf⟩ := bd hf
  have hg12 := Option.some.inj hg12
  refine wo_putG (C := RX8) (T := TX8) (N := 9) (v := .int (-1)) (ty := .int) hx hb htw uwX8 tyX8 tyX8_ok nmX8 hown hE hw hS (wf_800 hE) rfl rfl 3 (by decide) (htw _ mw250) (fun _ h9 => h9) rfl (tyX8_ok 3 (by decide)) rfl rfl (Nat.le_of_ble_eq_true rfl) (st8_3 rfl) hg12 dX9_text_29 (fun H locs hw hS => ?_)
  refine lv_iload_n hx hb dX9_text_32 rfl (lv_at hl 2 rfl) ?_
  refine lv_if_lt (tgt := 41) hx hb dX9_text_33 (by decide) (fun c16 => ?_) (fun c16 => ?_)
  · have hf := ifp c16 hf
    refine lv_bipush (v := (-2)) hx hb dX9_text_41 (by decide) ?_
    obtain rfl := Option.some.inj hf
    subst hq
    exact rt_i C hw hS dX9_text_43
  · have hf := ifn c16 hf
    refine lv_iload_n hx hb dX9_text_36 rfl (lv_at hl 2 rfl) ?_
    refine lv_iconst (v := 4) hx hb dX9_text_37 (by decide) ?_
    refine lv_icmp_lt (tgt := 44) hx hb dX9_text_38 (by decide) (fun c15 => ?_) (fun c15 => ?_)
    · have hf := ifp c15 hf
      refine lv_iload_n hx hb dX9_text_44 rfl (lv_at hl 3 rfl) ?_
      refine lv_iconst (v := (-1)) hx hb dX9_text_45 (by decide) ?_
      refine lv_icmp_ne (tgt := 61) hx hb dX9_text_46 (by decide) (fun c14 => ?_) (fun c14 => ?_)
      · have hf := ifn c14 hf
        refine lv_iload_n hx hb dX9_text_61 rfl (lv_at hl 3 rfl) ?_
        exact wX9_text_62 C hf hq H locs ls hw hS (lv_sub hl [1, 2, 3, 0] rfl)
      · have hf := ifp c14 hf
        refine lv_aload_n hx hb dX9_text_49 rfl (lv_at hl 1 rfl) ?_
        refine va_get (ci := 9) (v := .ref (ad Γ 800)) (C := RX9) (T := TX9) (N := 8) hx hb htw uwX9 hown hE.1 (hw _ _ (wf_901 hE)) 0 rfl rfl 0 (by decide) (htw _ mw433) (fun _ h9 => h9) rfl dX9_text_50 ?_
        refine va_get (ci := 8) (v := .ref (aa Γ 800 4)) (C := RX8) (T := TX8) (N := 9) hx hb htw uwX8 hown hE.1 (hw _ _ (wf_800 hE)) 0 rfl rfl 4 (by decide) (htw _ mw252) (fun _ h9 => h9) rfl dX9_text_53 ?_
        refine lv_iload_n hx hb dX9_text_56 rfl (lv_at hl 2 rfl) ?_
        obtain ⟨g13, hf⟩ := gd_some hf
        refine va_iald hx hb hE.1 (hw _ _ (wf_800 hE)) 2 0 rfl rfl (inR_in g13) dX9_text_57 ?_
        refine lv_goto (tgt := 62) hx hb dX9_text_58 (by decide) ?_
        exact wX9_text_62 C hf hq H locs ls hw hS (lv_sub hl [1, 2, 3, 0] rfl)
    · have hf := ifn c15 hf
      refine lv_bipush (v := (-2)) hx hb dX9_text_41 (by decide) ?_
      obtain rfl := Option.some.inj hf
      subst hq
      exact rt_i C hw hS dX9_text_43

theorem kX9_text {l : Launch} {Γ : Gm} {A : Nat → Prop} {g : Gs} {v1 : Int32} {v2 : Int32} {fin : Gs × Int32} (hf : fX9_text g v1 v2 = some fin) : Kt l yX9_text cX9_text 6 (some .int) 9 196 Γ A g fin.1 [.ref (ad Γ 901), .int v1, .int v2] (some (.int fin.2)) :=
  kt_of (by decide) (Nat.le_of_ble_eq_true rfl) (fun p e s m args below meth c C => wX9_text_e C hf rfl)
