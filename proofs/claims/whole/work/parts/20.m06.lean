noncomputable def bX10_part_10 (v0 : Int64) (v2 : Int64) (s0 : Int64) : Option Int64 :=
  (fX10_common v2 v0).bind fun z1 => gd (nzl z1) (some (s0 / z1))
set_option maxRecDepth 100000 in
set_option maxHeartbeats 4000000 in
theorem wX10_part_10 {p : Program} {l : Launch} {e : Env} {s : State} {m : MethodId} {args : Array Value} {below : List Frame} {meth : Method} {c : Code} {Γ : Gm} {A : Nat → Prop} {G : Gs} {v0 : Int64} {v2 : Int64} {s0 : Int64} {q : Int64} {fin : Int64} (C : Cx p s m args meth c yX10_part cX10_part 5 (some .long) Γ A) (hf : bX10_part_10 v0 v2 s0 = some q) (hq : (fun x => x = fin) q) : Wk p l e { frames := 1, cells := 0, slots := 0, locals := 29 } s m args below meth c Γ A G (some (.long fin)) 10 5 [(0, .long v0), (2, .long v2)] [.long s0] G := by
  intro H locs ls hw hS hl
  unfold bX10_part_10 at hf
  obtain ⟨hx, hb, hml, hr, hown, htw, hlocks, hE⟩ := id C
  have hown : s.vm.findClass RX10 = some m.cls := hown
  refine lv_lload_n hx hb dX10_part_10 rfl (lv_at hl 1 rfl) ?_
  refine lv_lload_n hx hb dX10_part_11 rfl (lv_at hl 0 rfl) ?_
  obtain ⟨z1, hz1, hf⟩ := bd hf
  refine cl_Ss (rest := [.long s0]) (kX10_common (l := l) (Γ := Γ) (A := A) (G := G) hz1) ⟨hx, hb, hml, hown, htw⟩ hE hw hS mw1755 mw1756 mw129 mw1757 pdX10_common ⟨Nat.le_of_ble_eq_true rfl, Nat.le_of_ble_eq_true rfl⟩ rfl rfl hl.1 (Nat.le_of_ble_eq_true rfl) dX10_part_12 (fun H locs hw hS => ?_)
  obtain ⟨g2, hf⟩ := gd_some hf
  refine lv_ldiv hx hb dX10_part_15 (nzl_ne g2) ?_
  obtain rfl := Option.some.inj hf
  subst hq
  exact rt_l C hw hS dX10_part_16

noncomputable def fX10_part (v0 : Int64) (v2 : Int64) (v4 : Int32) : Option Int64 :=
  if v4 = 0 then bX10_part_10 v0 v2 v0 else bX10_part_10 v0 v2 v2
set_option maxRecDepth 100000 in
set_option maxHeartbeats 4000000 in
theorem wX10_part_e {p : Program} {l : Launch} {e : Env} {s : State} {m : MethodId} {args : Array Value} {below : List Frame} {meth : Method} {c : Code} {Γ : Gm} {A : Nat → Prop} {G : Gs} {v0 : Int64} {v2 : Int64} {v4 : Int32} {q : Int64} {fin : Int64} (C : Cx p s m args meth c yX10_part cX10_part 5 (some .long) Γ A) (hf : fX10_part v0 v2 v4 = some q) (hq : (fun x => x = fin) q) : Wk p l e { frames := 1, cells := 0, slots := 0, locals := 29 } s m args below meth c Γ A G (some (.long fin)) 0 5 [(0, .long v0), (2, .long v2), (4, .int v4)] [] G := by
  intro H locs ls hw hS hl
  unfold fX10_part at hf
  obtain ⟨hx, hb, hml, hr, hown, htw, hlocks, hE⟩ := id C
  have hown : s.vm.findClass RX10 = some m.cls := hown
  refine lv_iload hx hb dX10_part_0 (lv_at hl 2 rfl) ?_
  refine lv_if_eq (tgt := 9) hx hb dX10_part_2 (by decide) (fun c3 => ?_) (fun c3 => ?_)
  · have hf := ifp c3 hf
    refine lv_lload_n hx hb dX10_part_9 rfl (lv_at hl 0 rfl) ?_
    exact wX10_part_10 C hf hq H locs ls hw hS (lv_sub hl [0, 1] rfl)
  · have hf := ifn c3 hf
    refine lv_lload_n hx hb dX10_part_5 rfl (lv_at hl 1 rfl) ?_
    refine lv_goto (tgt := 10) hx hb dX10_part_6 (by decide) ?_
    exact wX10_part_10 C hf hq H locs ls hw hS (lv_sub hl [0, 1] rfl)

theorem kX10_part {l : Launch} {Γ : Gm} {A : Nat → Prop} {G : Gs} {v0 : Int64} {v2 : Int64} {v4 : Int32} {fin : Int64} (hf : fX10_part v0 v2 v4 = some fin) : Kt l yX10_part cX10_part 5 (some .long) 1 29 Γ A G G [.long v0, .long v2, .int v4] (some (.long fin)) :=
  kt_of (by decide) (Nat.le_of_ble_eq_true rfl) (fun p e s m args below meth c C => wX10_part_e C hf rfl)
noncomputable def bX10_hidden_100 (r : Rec) (v4 : Int32) (v5 : Int64) (v7 : Int64) : Option (Rec × Int64) :=
  (fX10_part v5 v7 v4).bind fun z1 => some ((r, z1))
set_option maxRecDepth 100000 in
set_option maxHeartbeats 4000000 in
theorem wX10_hidden_100 {p : Program} {l : Launch} {e : Env} {s : State} {m : MethodId} {args : Array Value} {below : List Frame} {meth : Method} {c : Code} {Γ : Gm} {A : Nat → Prop} {G : Gs} {o : Nat} {r : Rec} {v4 : Int32} {v5 : Int64} {v7 : Int64} {q : (Rec × Int64)} {fin : Rec × Int64} (C : Cx p s m args meth c yX10_hidden cX10_hidden 10 (some .long) Γ A) (hk : kd Γ o = some 10) (hf : bX10_hidden_100 r v4 v5 v7 = some q) (hq : (fun x => x = fin) q) : Wk p l e { frames := 5, cells := 0, slots := 0, locals := 113 } s m args below meth c Γ A (ug G o fin.1) (some (.long fin.2)) 100 10 [(4, .int v4), (5, .long v5), (7, .long v7)] [] (ug G o r) := by
  intro H locs ls hw hS hl
  unfold bX10_hidden_100 at hf
  obtain ⟨hx, hb, hml, hr, hown, htw, hlocks, hE⟩ := id C
  have hown : s.vm.findClass RX10 = some m.cls := hown
  refine lv_lload hx hb dX10_hidden_100 (lv_at hl 1 rfl) ?_
  refine lv_lload hx hb dX10_hidden_102 (lv_at hl 2 rfl) ?_
  refine lv_iload hx hb dX10_hidden_104 (lv_at hl 0 rfl) ?_
  obtain ⟨z1, hz1, hf⟩ := bd hf
  refine cl_Ss (rest := []) (kX10_part (l := l) (Γ := Γ) (A := A) (G := (ug G o r)) hz1) ⟨hx, hb, hml, hown, htw⟩ hE hw hS mw1752 mw1753 mw129 mw1754 pdX10_part ⟨Nat.le_of_ble_eq_true rfl, Nat.le_of_ble_eq_true rfl⟩ rfl rfl hl.1 (Nat.le_of_ble_eq_true rfl) dX10_hidden_106 (fun H locs hw hS => ?_)
  obtain rfl := Option.some.inj hf
  subst hq
  exact rt_l C hw hS dX10_hidden_109

noncomputable def bX10_hidden_94 (r : Rec) (v2 : Int32) (v3 : Int32) (v4 : Int32) (v5 : Int64) (v7 : Int64) (v9 : Int32) : Option ((Int64 × Int64 × Int32) ⊕ (Rec × Int64)) :=
  some (.inl (v5, v7, v9 + 1))
set_option maxRecDepth 100000 in
set_option maxHeartbeats 4000000 in
theorem wX10_hidden_94 {p : Program} {l : Launch} {e : Env} {s : State} {m : MethodId} {args : Array Value} {below : List Frame} {meth : Method} {c : Code} {Γ : Gm} {A : Nat → Prop} {G : Gs} {o : Nat} {r : Rec} {v2 : Int32} {v3 : Int32} {v4 : Int32} {v5 : Int64} {v7 : Int64} {v9 : Int32} {q : ((Int64 × Int64 × Int32) ⊕ (Rec × Int64))} {fin : Rec × Int64} (C : Cx p s m args meth c yX10_hidden cX10_hidden 10 (some .long) Γ A) (hk : kd Γ o = some 10) (hf : bX10_hidden_94 r v2 v3 v4 v5 v7 v9 = some q) (hq : (KC (fun st : Int64 × Int64 × Int32 => Wk p l e { frames := 5, cells := 0, slots := 0, locals := 113 } s m args below meth c Γ A (ug G o fin.1) (some (.long fin.2)) 46 10 [(0, .ref (ad Γ o)), (2, .int v2), (3, .int v3), (4, .int v4), (5, .long st.1), (7, .long st.2.1), (9, .int st.2.2)] [] (ug G o r)) (fun x => x = fin)) q) : Wk p l e { frames := 5, cells := 0, slots := 0, locals := 113 } s m args below meth c Γ A (ug G o fin.1) (some (.long fin.2)) 94 10 [(0, .ref (ad Γ o)), (2, .int v2), (3, .int v3), (4, .int v4), (5, .long v5), (7, .long v7), (9, .int v9)] [] (ug G o r) := by
  intro H locs ls hw hS hl
  unfold bX10_hidden_94 at hf
  obtain ⟨hx, hb, hml, hr, hown, htw, hlocks, hE⟩ := id C
  have hown : s.vm.findClass RX10 = some m.cls := hown
  refine lv_iinc (v := v9 + 1) (lv' := [(9, .int (v9 + 1)), (0, .ref (ad Γ o)), (2, .int v2), (3, .int v3), (4, .int v4), (5, .long v5), (7, .long v7)]) hx hb dX10_hidden_94 hl (k := 6) rfl (by rfl) (by decide) rfl (fun ls hl => ?_)
  refine lv_goto (tgt := 46) hx hb dX10_hidden_97 (by decide) ?_
  obtain rfl := Option.some.inj hf
  exact hq.1 _ rfl H locs ls hw hS (lv_sub hl [1, 2, 3, 4, 5, 6, 0] rfl)

noncomputable def bX10_hidden_91 (r : Rec) (v2 : Int32) (v3 : Int32) (v4 : Int32) (v7 : Int64) (v9 : Int32) (s0 : Int64) (s1 : Int64) : Option ((Int64 × Int64 × Int32) ⊕ (Rec × Int64)) :=
  bX10_hidden_94 r v2 v3 v4 (s1 + s0) v7 v9
set_option maxRecDepth 100000 in
set_option maxHeartbeats 4000000 in
theorem wX10_hidden_91 {p : Program} {l : Launch} {e : Env} {s : State} {m : MethodId} {args : Array Value} {below : List Frame} {meth : Method} {c : Code} {Γ : Gm} {A : Nat → Prop} {G : Gs} {o : Nat} {r : Rec} {v2 : Int32} {v3 : Int32} {v4 : Int32} {v7 : Int64} {v9 : Int32} {s0 : Int64} {s1 : Int64} {q : ((Int64 × Int64 × Int32) ⊕ (Rec × Int64))} {fin : Rec × Int64} (C : Cx p s m args meth c yX10_hidden cX10_hidden 10 (some .long) Γ A) (hk : kd Γ o = some 10) (hf : bX10_hidden_91 r v2 v3 v4 v7 v9 s0 s1 = some q) (hq : (KC (fun st : Int64 × Int64 × Int32 => Wk p l e { frames := 5, cells := 0, slots := 0, locals := 113 } s m args below meth c Γ A (ug G o fin.1) (some (.long fin.2)) 46 10 [(0, .ref (ad Γ o)), (2, .int v2), (3, .int v3), (4, .int v4), (5, .long st.1), (7, .long st.2.1), (9, .int st.2.2)] [] (ug G o r)) (fun x => x = fin)) q) : Wk p l e { frames := 5, cells := 0, slots := 0, locals := 113 } s m args below meth c Γ A (ug G o fin.1) (some (.long fin.2)) 91 10 [(0, .ref (ad Γ o)), (2, .int v2), (3, .int v3), (4, .int v4), (7, .long v7), (9, .int v9)] [.long s0, .long s1] (ug G o r) := by
  intro H locs ls hw hS hl
  unfold bX10_hidden_91 at hf
  obtain ⟨hx, hb, hml, hr, hown, htw, hlocks, hE⟩ := id C
  have hown : s.vm.findClass RX10 = some m.cls := hown
  refine lv_ladd hx hb dX10_hidden_91 ?_
  refine lv_lstore (lv' := [(5, .long (s1 + s0)), (0, .ref (ad Γ o)), (2, .int v2), (3, .int v3), (4, .int v4), (7, .long v7), (9, .int v9)]) hx hb dX10_hidden_92 hl (by decide) rfl (fun ls hl => ?_)
  exact wX10_hidden_94 C hk hf hq H locs ls hw hS (lv_sub hl [1, 2, 3, 4, 0, 5, 6] rfl)

noncomputable def bX10_hidden_46 (r : Rec) (v2 : Int32) (v3 : Int32) (v4 : Int32) (v5 : Int64) (v7 : Int64) (v9 : Int32) : Option ((Int64 × Int64 × Int32) ⊕ (Rec × Int64)) :=
  (fX10_everything r).bind fun z2 => if z2 < v9 then out1 (bX10_hidden_100 r v4 v5 v7) else (fX10_ones v9).bind fun z4 => if z4 = v3 then (fX10_comesOf r v9 (-1)).bind fun z5 => (fX10_has z5 v2).bind fun z6 => if z6 = 0 then bX10_hidden_91 r v2 v3 v4 (v7 + 1) v9 1 v5 else bX10_hidden_91 r v2 v3 v4 (v7 + 1) v9 0 v5 else bX10_hidden_94 r v2 v3 v4 v5 v7 v9
set_option maxRecDepth 100000 in
set_option maxHeartbeats 4000000 in
theorem wX10_hidden_46 {p : Program} {l : Launch} {e : Env} {s : State} {m : MethodId} {args : Array Value} {below : List Frame} {meth : Method} {c : Code} {Γ : Gm} {A : Nat → Prop} {G : Gs} {o : Nat} {r : Rec} {v2 : Int32} {v3 : Int32} {v4 : Int32} {v5 : Int64} {v7 : Int64} {v9 : Int32} {q : ((Int64 × Int64 × Int32) ⊕ (Rec × Int64))} {fin : Rec × Int64} (C : Cx p s m args meth c yX10_hidden cX10_hidden 10 (some .long) Γ A) (hk : kd Γ o = some 10) (hf : bX10_hidden_46 r v2 v3 v4 v5 v7 v9 = some q) (hq : (KC (fun st : Int64 × Int64 × Int32 => Wk p l e { frames := 5, cells := 0, slots := 0, locals := 113 } s m args below meth c Γ A (ug G o fin.1) (some (.long fin.2)) 46 10 [(0, .ref (ad Γ o)), (2, .int v2), (3, .int v3), (4, .int v4), (5, .long st.1), (7, .long st.2.1), (9, .int st.2.2)] [] (ug G o r)) (fun x => x = fin)) q) : Wk p l e { frames := 5, cells := 0, slots := 0, locals := 113 } s m args below meth c Γ A (ug G o fin.1) (some (.long fin.2)) 46 10 [(0, .ref (ad Γ o)), (2, .int v2), (3, .int v3), (4, .int v4), (5, .long v5), (7, .long v7), (9, .int v9)] [] (ug G o r) := by
  intro H locs ls hw hS hl
  unfold bX10_hidden_46 at hf
  obtain ⟨hx, hb, hml, hr, hown, htw, hlocks, hE⟩ := id C
  have hown : s.vm.findClass RX10 = some m.cls := hown
  refine lv_iload hx hb dX10_hidden_46 (lv_at hl 6 rfl) ?_
  refine lv_aload_n hx hb dX10_hidden_48 rfl (lv_at hl 0 rfl) ?_
  obtain ⟨z2, hz2, hf⟩ := bd hf
  refine cl_Vs (rest := [.int v9]) (kX10_everything (l := l) (Γ := Γ) (A := A) (G := G) (o := o) hk hz2) ⟨hx, hb, hml, hown, htw⟩ hE hw hS (wo_me hw hk) (q0 := 0) rfl rfl mw1692 mw1694 mw95 mw129 mw1695 pdX10_everything ⟨Nat.le_of_ble_eq_true rfl, Nat.le_of_ble_eq_true rfl⟩ rfl rfl hl.1 (Nat.le_of_ble_eq_true rfl) dX10_hidden_49 (fun H locs hw hS => ?_)
  refine lv_icmp_gt (tgt := 100) hx hb dX10_hidden_52 (by decide) (fun c9 => ?_) (fun c9 => ?_)
  · have hf := ifp c9 hf
    obtain ⟨q3, hfq3, eq3⟩ := out1_some hf
    subst eq3
    have hf := hfq3
    have hq := hq.2 _ rfl
    exact wX10_hidden_100 C hk hf hq H locs ls hw hS (lv_sub hl [3, 4, 5] rfl)
  · have hf := ifn c9 hf
    refine lv_iload hx hb dX10_hidden_55 (lv_at hl 6 rfl) ?_
    obtain ⟨z4, hz4, hf⟩ := bd hf
    refine cl_Ss (rest := []) (kX10_ones (l := l) (Γ := Γ) (A := A) (G := (ug G o r)) hz4) ⟨hx, hb, hml, hown, htw⟩ hE hw hS mw1716 mw1717 mw129 mw1718 pdX10_ones ⟨Nat.le_of_ble_eq_true rfl, Nat.le_of_ble_eq_true rfl⟩ rfl rfl hl.1 (Nat.le_of_ble_eq_true rfl) dX10_hidden_57 (fun H locs hw hS => ?_)
    refine lv_iload_n hx hb dX10_hidden_60 rfl (lv_at hl 2 rfl) ?_
    refine lv_icmp_ne (tgt := 94) hx hb dX10_hidden_61 (by decide) (fun c8 => ?_) (fun c8 => ?_)
    · have hf := ifn c8 hf
      exact wX10_hidden_94 C hk hf hq H locs ls hw hS hl
    · have hf := ifp c8 hf
      refine lv_lload hx hb dX10_hidden_64 (lv_at hl 5 rfl) ?_
      refine lv_lconst (v := 1) hx hb dX10_hidden_66 (by decide) ?_
      refine lv_ladd hx hb dX10_hidden_67 ?_
      refine lv_lstore (lv' := [(7, .long (v7 + 1)), (0, .ref (ad Γ o)), (2, .int v2), (3, .int v3), (4, .int v4), (5, .long v5), (9, .int v9)]) hx hb dX10_hidden_68 hl (by decide) rfl (fun ls hl => ?_)
      refine lv_lload hx hb dX10_hidden_70 (lv_at hl 5 rfl) ?_
      refine lv_aload_n hx hb dX10_hidden_72 rfl (lv_at hl 1 rfl) ?_
      refine lv_iload hx hb dX10_hidden_73 (lv_at hl 6 rfl) ?_
      refine lv_iconst (v := (-1)) hx hb dX10_hidden_75 (by decide) ?_
      obtain ⟨z5, hz5, hf⟩ := bd hf
      refine cl_Vs (rest := [.long v5]) (kX10_comesOf (l := l) (Γ := Γ) (A := A) (G := G) (o := o) hk hz5) ⟨hx, hb, hml, hown, htw⟩ hE hw hS (wo_me hw hk) (q0 := 0) rfl rfl mw1696 mw1698 mw96 mw129 mw1699 pdX10_comesOf ⟨Nat.le_of_ble_eq_true rfl, Nat.le_of_ble_eq_true rfl⟩ rfl rfl hl.1 (Nat.le_of_ble_eq_true rfl) dX10_hidden_76 (fun H locs hw hS => ?_)
      refine lv_iload_n hx hb dX10_hidden_79 rfl (lv_at hl 2 rfl) ?_
      obtain ⟨z6, hz6, hf⟩ := bd hf
      refine cl_Ss (rest := [.long v5]) (kX10_has (l := l) (Γ := Γ) (A := A) (G := (ug G o r)) hz6) ⟨hx, hb, hml, hown, htw⟩ hE hw hS mw1561 mw1562 mw129 mw1563 pdX10_has ⟨Nat.le_of_ble_eq_true rfl, Nat.le_of_ble_eq_true rfl⟩ rfl rfl hl.1 (Nat.le_of_ble_eq_true rfl) dX10_hidden_80 (fun H locs hw hS => ?_)
      refine lv_if_eq (tgt := 90) hx hb dX10_hidden_83 (by decide) (fun c7 => ?_) (fun c7 => ?_)
      · have hf := ifp c7 hf
        refine lv_lconst (v := 1) hx hb dX10_hidden_90 (by decide) ?_
        exact wX10_hidden_91 C hk hf hq H locs ls hw hS (lv_sub hl [1, 2, 3, 4, 0, 6] rfl)
      · have hf := ifn c7 hf
        refine lv_lconst (v := 0) hx hb dX10_hidden_86 (by decide) ?_
        refine lv_goto (tgt := 91) hx hb dX10_hidden_87 (by decide) ?_
        exact wX10_hidden_91 C hk hf hq H locs ls hw hS (lv_sub hl [1, 2, 3, 4, 0, 6] rfl)

set_option maxRecDepth 100000 in
set_option maxHeartbeats 4000000 in
theorem lwX10_hidden_46 {p : Program} {l : Launch} {e : Env} {s : State} {m : MethodId} {args : Array Value} {below : List Frame} {meth : Method} {c : Code} {Γ : Gm} {A : Nat → Prop} {G : Gs} {o : Nat} {r : Rec} {v2 : Int32} {v3 : Int32} {v4 : Int32} {v5 : Int64} {v7 : Int64} {v9 : Int32} {q : (Rec × Int64)} {fin : Rec × Int64} (C : Cx p s m args meth c yX10_hidden cX10_hidden 10 (some .long) Γ A) (hk : kd Γ o = some 10) (hf : iter (fun st : Int64 × Int64 × Int32 => bX10_hidden_46 r v2 v3 v4 st.1 st.2.1 st.2.2) (v5, v7, v9) = some q) (hq : (fun x => x = fin) q) : Wk p l e { frames := 5, cells := 0, slots := 0, locals := 113 } s m args below meth c Γ A (ug G o fin.1) (some (.long fin.2)) 46 10 [(0, .ref (ad Γ o)), (2, .int v2), (3, .int v3), (4, .int v4), (5, .long v5), (7, .long v7), (9, .int v9)] [] (ug G o r) := by
  intro H locs ls hw hS hl
  refine iter_walk (P := (fun st : Int64 × Int64 × Int32 => Wk p l e { frames := 5, cells := 0, slots := 0, locals := 113 } s m args below meth c Γ A (ug G o fin.1) (some (.long fin.2)) 46 10 [(0, .ref (ad Γ o)), (2, .int v2), (3, .int v3), (4, .int v4), (5, .long st.1), (7, .long st.2.1), (9, .int st.2.2)] [] (ug G o r))) (K := (fun x => x = fin)) (fun st q hq1 h1 h2 => ?_) hf hq H locs ls hw hS hl
  exact wX10_hidden_46 (v5 := st.1) (v7 := st.2.1) (v9 := st.2.2) C hk hq1 ⟨h1, h2⟩

noncomputable def fX10_hidden (r : Rec) (v1 : Int32) (v2 : Int32) (v3 : Int32) (v4 : Int32) : Option (Rec × Int64) :=
  (some (si r 0 0)).bind fun r10 => (fX10_hand r10 v1).bind fun z11 => if z11.2 = 0 then some ((z11.1, (-1))) else (fX10_isSecret z11.1 v2).bind fun z12 => if z12 = 0 then some ((z11.1, (-1))) else (fX10_in v3 0 (gi z11.1 27)).bind fun z13 => if z13 = 0 then some ((z11.1, (-1))) else iter (fun st : Int64 × Int64 × Int32 => bX10_hidden_46 z11.1 v2 v3 v4 st.1 st.2.1 st.2.2) (0, 0, 0)
set_option maxRecDepth 100000 in
set_option maxHeartbeats 4000000 in
theorem wX10_hidden_e {p : Program} {l : Launch} {e : Env} {s : State} {m : MethodId} {args : Array Value} {below : List Frame} {meth : Method} {c : Code} {Γ : Gm} {A : Nat → Prop} {G : Gs} {o : Nat} {r : Rec} {v1 : Int32} {v2 : Int32} {v3 : Int32} {v4 : Int32} {q : (Rec × Int64)} {fin : Rec × Int64} (C : Cx p s m args meth c yX10_hidden cX10_hidden 10 (some .long) Γ A) (hk : kd Γ o = some 10) (hf : fX10_hidden r v1 v2 v3 v4 = some q) (hq : (fun x => x = fin) q) : Wk p l e { frames := 5, cells := 0, slots := 0, locals := 113 } s m args below meth c Γ A (ug G o fin.1) (some (.long fin.2)) 0 10 [(0, .ref (ad Γ o)), (1, .int v1), (2, .int v2), (3, .int v3), (4, .int v4)] [] (ug G o r) := by
  intro H locs ls hw hS hl
  unfold fX10_hidden at hf
  obtain ⟨hx, hb, hml, hr, hown, htw, hlocks, hE⟩ := id C
  have hown : s.vm.findClass RX10 = some m.cls := hown
  refine lv_aload_n hx hb dX10_hidden_0 rfl (lv_at hl 0 rfl) ?_
  refine lv_iconst (v := 0) hx hb dX10_hidden_1 (by decide) ?_
  obtain ⟨r10, hr10, hf⟩ := bd hf
  have hr10 := Option.some.inj hr10
  refine wo_put (C := RX10) (T := TX10) (N := 49) (v := .int 0) (ty := .int) hx hb htw uwX10 tyX10 tyX10_ok nmX10 hown hE hw hS hk rfl rfl 0 (by decide) (htw _ mw1243) (fun _ h9 => h9) rfl (tyX10_ok 0 (by decide)) rfl rfl (Nat.le_of_ble_eq_true rfl) (st10_0 hr10) dX10_hidden_2 (fun H locs hw hS => ?_)
  refine lv_aload_n hx hb dX10_hidden_5 rfl (lv_at hl 0 rfl) ?_
  refine lv_iload_n hx hb dX10_hidden_6 rfl (lv_at hl 1 rfl) ?_
  obtain ⟨z11, hz11, hf⟩ := bd hf
  refine cl_Vs (rest := []) (kX10_hand (l := l) (Γ := Γ) (A := A) (G := G) (o := o) hk hz11) ⟨hx, hb, hml, hown, htw⟩ hE hw hS (wo_me hw hk) (q0 := 0) rfl rfl mw1537 mw1539 mw65 mw129 mw1540 pdX10_hand ⟨Nat.le_of_ble_eq_true rfl, Nat.le_of_ble_eq_true rfl⟩ rfl rfl hl.1 (Nat.le_of_ble_eq_true rfl) dX10_hidden_7 (fun H locs hw hS => ?_)
  refine lv_if_eq (tgt := 33) hx hb dX10_hidden_10 (by decide) (fun c16 => ?_) (fun c16 => ?_)
  · have hf := ifp c16 hf
    refine lv_ldc2 hx hb hown (htw _ mw1751) dX10_hidden_33 ?_
    obtain rfl := Option.some.inj hf
    subst hq
    exact rt_l C hw hS dX10_hidden_36
  · have hf := ifn c16 hf
    refine lv_aload_n hx hb dX10_hidden_13 rfl (lv_at hl 0 rfl) ?_
    refine lv_iload_n hx hb dX10_hidden_14 rfl (lv_at hl 2 rfl) ?_
    obtain ⟨z12, hz12, hf⟩ := bd hf
    refine cl_Vs (rest := []) (kX10_isSecret (l := l) (Γ := Γ) (A := A) (G := G) (o := o) hk hz12) ⟨hx, hb, hml, hown, htw⟩ hE hw hS (wo_me hw hk) (q0 := 0) rfl rfl mw1549 mw1551 mw67 mw129 mw1552 pdX10_isSecret ⟨Nat.le_of_ble_eq_true rfl, Nat.le_of_ble_eq_true rfl⟩ rfl rfl hl.1 (Nat.le_of_ble_eq_true rfl) dX10_hidden_15 (fun H locs hw hS => ?_)
    refine lv_if_eq (tgt := 33) hx hb dX10_hidden_18 (by decide) (fun c15 => ?_) (fun c15 => ?_)
    · have hf := ifp c15 hf
      refine lv_ldc2 hx hb hown (htw _ mw1751) dX10_hidden_33 ?_
      obtain rfl := Option.some.inj hf
      subst hq
      exact rt_l C hw hS dX10_hidden_36
    · have hf := ifn c15 hf
      refine lv_iload_n hx hb dX10_hidden_21 rfl (lv_at hl 3 rfl) ?_
      refine lv_iconst (v := 0) hx hb dX10_hidden_22 (by decide) ?_
      refine lv_aload_n hx hb dX10_hidden_23 rfl (lv_at hl 0 rfl) ?_
      refine va_get (ci := 10) (v := .int (gi z11.1 27)) (C := RX10) (T := TX10) (N := 49) hx hb htw uwX10 hown hE.1 (wo_me hw hk) 0 rfl rfl 27 (by decide) (htw _ mw1270) (fun _ h9 => h9) rfl dX10_hidden_24 ?_
      obtain ⟨z13, hz13, hf⟩ := bd hf
      refine cl_Ss (rest := []) (kX10_in (l := l) (Γ := Γ) (A := A) (G := (ug G o z11.1)) hz13) ⟨hx, hb, hml, hown, htw⟩ hE hw hS mw1404 mw1405 mw129 mw1406 pdX10_in ⟨Nat.le_of_ble_eq_true rfl, Nat.le_of_ble_eq_true rfl⟩ rfl rfl hl.1 (Nat.le_of_ble_eq_true rfl) dX10_hidden_27 (fun H locs hw hS => ?_)
      refine lv_if_ne (tgt := 37) hx hb dX10_hidden_30 (by decide) (fun c14 => ?_) (fun c14 => ?_)
      · have hf := ifn c14 hf
        refine lv_lconst (v := 0) hx hb dX10_hidden_37 (by decide) ?_
        refine lv_lstore (lv' := [(5, .long 0), (0, .ref (ad Γ o)), (1, .int v1), (2, .int v2), (3, .int v3), (4, .int v4)]) hx hb dX10_hidden_38 hl (by decide) rfl (fun ls hl => ?_)
        refine lv_lconst (v := 0) hx hb dX10_hidden_40 (by decide) ?_
        refine lv_lstore (lv' := [(7, .long 0), (5, .long 0), (0, .ref (ad Γ o)), (1, .int v1), (2, .int v2), (3, .int v3), (4, .int v4)]) hx hb dX10_hidden_41 hl (by decide) rfl (fun ls hl => ?_)
        refine lv_iconst (v := 0) hx hb dX10_hidden_43 (by decide) ?_
        refine lv_istore (lv' := [(9, .int 0), (7, .long 0), (5, .long 0), (0, .ref (ad Γ o)), (1, .int v1), (2, .int v2), (3, .int v3), (4, .int v4)]) hx hb dX10_hidden_44 hl (by decide) rfl (fun ls hl => ?_)
        exact lwX10_hidden_46 C hk hf hq H locs ls hw hS (lv_sub hl [3, 5, 6, 7, 2, 1, 0] rfl)
      · have hf := ifp c14 hf
        refine lv_ldc2 hx hb hown (htw _ mw1751) dX10_hidden_33 ?_
        obtain rfl := Option.some.inj hf
        subst hq
        exact rt_l C hw hS dX10_hidden_36

theorem kX10_hidden {l : Launch} {Γ : Gm} {A : Nat → Prop} {G : Gs} {o : Nat} {r : Rec} {v1 : Int32} {v2 : Int32} {v3 : Int32} {v4 : Int32} {fin : Rec × Int64} (hk : kd Γ o = some 10) (hf : fX10_hidden r v1 v2 v3 v4 = some fin) : Kt l yX10_hidden cX10_hidden 10 (some .long) 5 113 Γ A (ug G o r) (ug G o fin.1) [.ref (ad Γ o), .int v1, .int v2, .int v3, .int v4] (some (.long fin.2)) :=
  kt_of (by decide) (Nat.le_of_ble_eq_true rfl) (fun p e s m args below meth c C => wX10_hidden_e C hk hf rfl)
theorem kgX10_hidden {l : Launch} {Γ : Gm} {A : Nat → Prop} {G : Gs} {o : Nat} {v1 : Int32} {v2 : Int32} {v3 : Int32} {v4 : Int32} {fin : Rec × Int64} (hk : kd Γ o = some 10) (hf : fX10_hidden (G o) v1 v2 v3 v4 = some fin) : Kt l yX10_hidden cX10_hidden 10 (some .long) 5 113 Γ A G (ug G o fin.1) [.ref (ad Γ o), .int v1, .int v2, .int v3, .int v4] (some (.long fin.2)) := by
  have h := kX10_hidden (l := l) (A := A) (G := G) (r := G o) hk hf
  rw [ug_self] at h
  exact h
noncomputable def bX10_heirs_142 (r : Rec) (v2 : Int32) (v3 : Int32) (v4 : Int32) : Option (Rec × Int32) :=
  if v2 = 0 then some ((r, v3)) else some ((r, v4))
set_option maxRecDepth 100000 in
set_option maxHeartbeats 4000000 in
theorem wX10_heirs_142 {p : Program} {l : Launch} {e : Env} {s : State} {m : MethodId} {args : Array Value} {below : List Frame} {meth : Method} {c : Code} {Γ : Gm} {A : Nat → Prop} {G : Gs} {o : Nat} {r : Rec} {v2 : Int32} {v3 : Int32} {v4 : Int32} {q : (Rec × Int32)} {fin : Rec × Int32} (C : Cx p s m args meth c yX10_heirs cX10_heirs 8 (some .int) Γ A) (hk : kd Γ o = some 10) (hf : bX10_heirs_142 r v2 v3 v4 = some q) (hq : (fun x => x = fin) q) : Wk p l e { frames := 3, cells := 0, slots := 0, locals := 66 } s m args below meth c Γ A (ug G o fin.1) (some (.int fin.2)) 142 8 [(2, .int v2), (3, .int v3), (4, .int v4)] [] (ug G o r) := by
  intro H locs ls hw hS hl
  unfold bX10_heirs_142 at hf
  obtain ⟨hx, hb, hml, hr, hown, htw, hlocks, hE⟩ := id C
  have hown : s.vm.findClass RX10 = some m.cls := hown
  refine lv_iload_n hx hb dX10_heirs_142 rfl (lv_at hl 0 rfl) ?_
  refine lv_if_eq (tgt := 151) hx hb dX10_heirs_143 (by decide) (fun c1 => ?_) (fun c1 => ?_)
  · have hf := ifp c1 hf
    refine lv_iload_n hx hb dX10_heirs_151 rfl (lv_at hl 1 rfl) ?_
    obtain rfl := Option.some.inj hf
    subst hq
    exact rt_i C hw hS dX10_heirs_152
  · have hf := ifn c1 hf
    refine lv_iload hx hb dX10_heirs_146 (lv_at hl 2 rfl) ?_
    refine lv_goto (tgt := 152) hx hb dX10_heirs_148 (by decide) ?_
    obtain rfl := Option.some.inj hf
    subst hq
    exact rt_i C hw hS dX10_heirs_152

noncomputable def bX10_heirs_126 (r : Rec) (v2 : Int32) (v4 : Int32) (v5 : Int32) (v6 : Int32) (s0 : Int32) : Option ((Int32 × Int32 × Int32) ⊕ (Rec × Int32)) :=
  (fX10_lesser v4 v6).bind fun z2 => some (.inl (s0, z2, v5 + 1))
set_option maxRecDepth 100000 in
set_option maxHeartbeats 4000000 in
theorem wX10_heirs_126 {p : Program} {l : Launch} {e : Env} {s : State} {m : MethodId} {args : Array Value} {below : List Frame} {meth : Method} {c : Code} {Γ : Gm} {A : Nat → Prop} {G : Gs} {o : Nat} {r : Rec} {v2 : Int32} {v4 : Int32} {v5 : Int32} {v6 : Int32} {s0 : Int32} {q : ((Int32 × Int32 × Int32) ⊕ (Rec × Int32))} {fin : Rec × Int32} (C : Cx p s m args meth c yX10_heirs cX10_heirs 8 (some .int) Γ A) (hk : kd Γ o = some 10) (hf : bX10_heirs_126 r v2 v4 v5 v6 s0 = some q) (hq : (KC (fun st : Int32 × Int32 × Int32 => Wk p l e { frames := 3, cells := 0, slots := 0, locals := 66 } s m args below meth c Γ A (ug G o fin.1) (some (.int fin.2)) 25 8 [(0, .ref (ad Γ o)), (2, .int v2), (3, .int st.1), (4, .int st.2.1), (5, .int st.2.2)] [] (ug G o r)) (fun x => x = fin)) q) : Wk p l e { frames := 3, cells := 0, slots := 0, locals := 66 } s m args below meth c Γ A (ug G o fin.1) (some (.int fin.2)) 126 8 [(0, .ref (ad Γ o)), (2, .int v2), (4, .int v4), (5, .int v5), (6, .int v6)] [.int s0] (ug G o r) := by
  intro H locs ls hw hS hl
  unfold bX10_heirs_126 at hf
  obtain ⟨hx, hb, hml, hr, hown, htw, hlocks, hE⟩ := id C
  have hown : s.vm.findClass RX10 = some m.cls := hown
  refine lv_istore_n (lv' := [(3, .int s0), (0, .ref (ad Γ o)), (2, .int v2), (4, .int v4), (5, .int v5), (6, .int v6)]) hx hb dX10_heirs_126 rfl hl (by decide) rfl (fun ls hl => ?_)
  refine lv_iload hx hb dX10_heirs_127 (lv_at hl 3 rfl) ?_
  refine lv_iload hx hb dX10_heirs_129 (lv_at hl 5 rfl) ?_
  obtain ⟨z2, hz2, hf⟩ := bd hf
  refine cl_Ss (rest := []) (kX10_lesser (l := l) (Γ := Γ) (A := A) (G := (ug G o r)) hz2) ⟨hx, hb, hml, hown, htw⟩ hE hw hS mw1681 mw1682 mw129 mw1683 pdX10_lesser ⟨Nat.le_of_ble_eq_true rfl, Nat.le_of_ble_eq_true rfl⟩ rfl rfl hl.1 (Nat.le_of_ble_eq_true rfl) dX10_heirs_131 (fun H locs hw hS => ?_)
  refine lv_istore (lv' := [(4, .int z2), (3, .int s0), (0, .ref (ad Γ o)), (2, .int v2), (5, .int v5), (6, .int v6)]) hx hb dX10_heirs_134 hl (by decide) rfl (fun ls hl => ?_)
  refine lv_iinc (v := v5 + 1) (lv' := [(5, .int (v5 + 1)), (4, .int z2), (3, .int s0), (0, .ref (ad Γ o)), (2, .int v2), (6, .int v6)]) hx hb dX10_heirs_136 hl (k := 4) rfl (by rfl) (by decide) rfl (fun ls hl => ?_)
  refine lv_goto (tgt := 25) hx hb dX10_heirs_139 (by decide) ?_
  obtain rfl := Option.some.inj hf
  exact hq.1 _ rfl H locs ls hw hS (lv_sub hl [3, 4, 2, 1, 0] rfl)

noncomputable def bX10_heirs_111 (r : Rec) (v2 : Int32) (v3 : Int32) (v4 : Int32) (v5 : Int32) (s0 : Int32) : Option ((Int32 × Int32 × Int32) ⊕ (Rec × Int32)) :=
  if v4 ≤ s0 then bX10_heirs_126 r v2 v4 v5 s0 v3 else bX10_heirs_126 r v2 v4 v5 s0 v5
set_option maxRecDepth 100000 in
set_option maxHeartbeats 4000000 in
theorem wX10_heirs_111 {p : Program} {l : Launch} {e : Env} {s : State} {m : MethodId} {args : Array Value} {below : List Frame} {meth : Method} {c : Code} {Γ : Gm} {A : Nat → Prop} {G : Gs} {o : Nat} {r : Rec} {v2 : Int32} {v3 : Int32} {v4 : Int32} {v5 : Int32} {s0 : Int32} {q : ((Int32 × Int32 × Int32) ⊕ (Rec × Int32))} {fin : Rec × Int32} (C : Cx p s m args meth c yX10_heirs cX10_heirs 8 (some .int) Γ A) (hk : kd Γ o = some 10) (hf : bX10_heirs_111 r v2 v3 v4 v5 s0 = some q) (hq : (KC (fun st : Int32 × Int32 × Int32 => Wk p l e { frames := 3, cells := 0, slots := 0, locals := 66 } s m args below meth c Γ A (ug G o fin.1) (some (.int fin.2)) 25 8 [(0, .ref (ad Γ o)), (2, .int v2), (3, .int st.1), (4, .int st.2.1), (5, .int st.2.2)] [] (ug G o r)) (fun x => x = fin)) q) : Wk p l e { frames := 3, cells := 0, slots := 0, locals := 66 } s m args below meth c Γ A (ug G o fin.1) (some (.int fin.2)) 111 8 [(0, .ref (ad Γ o)), (2, .int v2), (3, .int v3), (4, .int v4), (5, .int v5)] [.int s0] (ug G o r) := by
  intro H locs ls hw hS hl
  unfold bX10_heirs_111 at hf
  obtain ⟨hx, hb, hml, hr, hown, htw, hlocks, hE⟩ := id C
  have hown : s.vm.findClass RX10 = some m.cls := hown
  refine lv_istore (lv' := [(6, .int s0), (0, .ref (ad Γ o)), (2, .int v2), (3, .int v3), (4, .int v4), (5, .int v5)]) hx hb dX10_heirs_111 hl (by decide) rfl (fun ls hl => ?_)
  refine lv_iload hx hb dX10_heirs_113 (lv_at hl 0 rfl) ?_
  refine lv_iload hx hb dX10_heirs_115 (lv_at hl 4 rfl) ?_
  refine lv_icmp_ge (tgt := 125) hx hb dX10_heirs_117 (by decide) (fun c3 => ?_) (fun c3 => ?_)
  · have hf := ifp c3 hf
    refine lv_iload_n hx hb dX10_heirs_125 rfl (lv_at hl 3 rfl) ?_
    exact wX10_heirs_126 C hk hf hq H locs ls hw hS (lv_sub hl [1, 2, 4, 5, 0] rfl)
  · have hf := ifn c3 hf
    refine lv_iload hx hb dX10_heirs_120 (lv_at hl 5 rfl) ?_
    refine lv_goto (tgt := 126) hx hb dX10_heirs_122 (by decide) ?_
    exact wX10_heirs_126 C hk hf hq H locs ls hw hS (lv_sub hl [1, 2, 4, 5, 0] rfl)

noncomputable def bX10_heirs_98 (r : Rec) (v2 : Int32) (v3 : Int32) (v4 : Int32) (v5 : Int32) (v6 : Int32) : Option ((Int32 × Int32 × Int32) ⊕ (Rec × Int32)) :=
  if 0 ≤ v6 then bX10_heirs_111 r v2 v3 v4 v5 v6 else bX10_heirs_111 r v2 v3 v4 v5 (-v6)
set_option maxRecDepth 100000 in
set_option maxHeartbeats 4000000 in
theorem wX10_heirs_98 {p : Program} {l : Launch} {e : Env} {s : State} {m : MethodId} {args : Array Value} {below : List Frame} {meth : Method} {c : Code} {Γ : Gm} {A : Nat → Prop} {G : Gs} {o : Nat} {r : Rec} {v2 : Int32} {v3 : Int32} {v4 : Int32} {v5 : Int32} {v6 : Int32} {q : ((Int32 × Int32 × Int32) ⊕ (Rec × Int32))} {fin : Rec × Int32} (C : Cx p s m args meth c yX10_heirs cX10_heirs 8 (some .int) Γ A) (hk : kd Γ o = some 10) (hf : bX10_heirs_98 r v2 v3 v4 v5 v6 = some q) (hq : (KC (fun st : Int32 × Int32 × Int32 => Wk p l e { frames := 3, cells := 0, slots := 0, locals := 66 } s m args below meth c Γ A (ug G o fin.1) (some (.int fin.2)) 25 8 [(0, .ref (ad Γ o)), (2, .int v2), (3, .int st.1), (4, .int st.2.1), (5, .int st.2.2)] [] (ug G o r)) (fun x => x = fin)) q) : Wk p l e { frames := 3, cells := 0, slots := 0, locals := 66 } s m args below meth c Γ A (ug G o fin.1) (some (.int fin.2)) 98 8 [(0, .ref (ad Γ o)), (2, .int v2), (3, .int v3), (4, .int v4), (5, .int v5), (6, .int v6)] [] (ug G o r) := by
  intro H locs ls hw hS hl
  unfold bX10_heirs_98 at hf
  obtain ⟨hx, hb, hml, hr, hown, htw, hlocks, hE⟩ := id C
  have hown : s.vm.findClass RX10 = some m.cls := hown
  refine lv_iload hx hb dX10_heirs_98 (lv_at hl 5 rfl) ?_
  refine lv_if_ge (tgt := 109) hx hb dX10_heirs_100 (by decide) (fun c4 => ?_) (fun c4 => ?_)
  · have hf := ifp c4 hf
    refine lv_iload hx hb dX10_heirs_109 (lv_at hl 5 rfl) ?_
    exact wX10_heirs_111 C hk hf hq H locs ls hw hS (lv_sub hl [0, 1, 2, 3, 4] rfl)
  · have hf := ifn c4 hf
    refine lv_iload hx hb dX10_heirs_103 (lv_at hl 5 rfl) ?_
    refine lv_ineg hx hb dX10_heirs_105 ?_
    refine lv_goto (tgt := 111) hx hb dX10_heirs_106 (by decide) ?_
    exact wX10_heirs_111 C hk hf hq H locs ls hw hS (lv_sub hl [0, 1, 2, 3, 4] rfl)

noncomputable def bX10_heirs_89 (r : Rec) (v2 : Int32) (v3 : Int32) (v4 : Int32) (v5 : Int32) (v7 : Int32) (s0 : Int32) (s1 : Int32) : Option ((Int32 × Int32) ⊕ ((Int32 × Int32 × Int32) ⊕ (Rec × Int32))) :=
  some (.inl (s1 + s0, v7 + 1))
set_option maxRecDepth 100000 in
set_option maxHeartbeats 4000000 in
theorem wX10_heirs_89 {p : Program} {l : Launch} {e : Env} {s : State} {m : MethodId} {args : Array Value} {below : List Frame} {meth : Method} {c : Code} {Γ : Gm} {A : Nat → Prop} {G : Gs} {o : Nat} {r : Rec} {v2 : Int32} {v3 : Int32} {v4 : Int32} {v5 : Int32} {v7 : Int32} {s0 : Int32} {s1 : Int32} {q : ((Int32 × Int32) ⊕ ((Int32 × Int32 × Int32) ⊕ (Rec × Int32)))} {fin : Rec × Int32} (C : Cx p s m args meth c yX10_heirs cX10_heirs 8 (some .int) Γ A) (hk : kd Γ o = some 10) (hf : bX10_heirs_89 r v2 v3 v4 v5 v7 s0 s1 = some q) (hq : (KC (fun st : Int32 × Int32 => Wk p l e { frames := 3, cells := 0, slots := 0, locals := 66 } s m args below meth c Γ A (ug G o fin.1) (some (.int fin.2)) 42 8 [(0, .ref (ad Γ o)), (2, .int v2), (3, .int v3), (4, .int v4), (5, .int v5), (6, .int st.1), (7, .int st.2)] [] (ug G o r)) (KC (fun st : Int32 × Int32 × Int32 => Wk p l e { frames := 3, cells := 0, slots := 0, locals := 66 } s m args below meth c Γ A (ug G o fin.1) (some (.int fin.2)) 25 8 [(0, .ref (ad Γ o)), (2, .int v2), (3, .int st.1), (4, .int st.2.1), (5, .int st.2.2)] [] (ug G o r)) (fun x => x = fin))) q) : Wk p l e { frames := 3, cells := 0, slots := 0, locals := 66 } s m args below meth c Γ A (ug G o fin.1) (some (.int fin.2)) 89 8 [(0, .ref (ad Γ o)), (2, .int v2), (3, .int v3), (4, .int v4), (5, .int v5), (7, .int v7)] [.int s0, .int s1] (ug G o r) := by
  intro H locs ls hw hS hl
  unfold bX10_heirs_89 at hf
  obtain ⟨hx, hb, hml, hr, hown, htw, hlocks, hE⟩ := id C
  have hown : s.vm.findClass RX10 = some m.cls := hown
  refine lv_iadd hx hb dX10_heirs_89 ?_
  refine lv_istore (lv' := [(6, .int (s1 + s0)), (0, .ref (ad Γ o)), (2, .int v2), (3, .int v3), (4, .int v4), (5, .int v5), (7, .int v7)]) hx hb dX10_heirs_90 hl (by decide) rfl (fun ls hl => ?_)
  refine lv_iinc (v := v7 + 1) (lv' := [(7, .int (v7 + 1)), (6, .int (s1 + s0)), (0, .ref (ad Γ o)), (2, .int v2), (3, .int v3), (4, .int v4), (5, .int v5)]) hx hb dX10_heirs_92 hl (k := 6) rfl (by rfl) (by decide) rfl (fun ls hl => ?_)
  refine lv_goto (tgt := 42) hx hb dX10_heirs_95 (by decide) ?_
  obtain rfl := Option.some.inj hf
  exact hq.1 _ rfl H locs ls hw hS (lv_sub hl [2, 3, 4, 5, 6, 1, 0] rfl)

noncomputable def bX10_heirs_42 (r : Rec) (v2 : Int32) (v3 : Int32) (v4 : Int32) (v5 : Int32) (v6 : Int32) (v7 : Int32) : Option ((Int32 × Int32) ⊕ ((Int32 × Int32 × Int32) ⊕ (Rec × Int32))) :=
  if (gi r 26) ≤ v7 then out1 (bX10_heirs_98 r v2 v3 v4 v5 v6) else (fX10_has v5 v7).bind fun z6 => if z6 = 0 then gd (inR v7 8) ((fX10_weightOf r (ga r 28 (Int32.toNatClampNeg v7))).bind fun z8 => bX10_heirs_89 r v2 v3 v4 v5 v7 (-z8) v6) else gd (inR v7 8) ((fX10_weightOf r (ga r 28 (Int32.toNatClampNeg v7))).bind fun z10 => bX10_heirs_89 r v2 v3 v4 v5 v7 z10 v6)
set_option maxRecDepth 100000 in
set_option maxHeartbeats 4000000 in
theorem wX10_heirs_42 {p : Program} {l : Launch} {e : Env} {s : State} {m : MethodId} {args : Array Value} {below : List Frame} {meth : Method} {c : Code} {Γ : Gm} {A : Nat → Prop} {G : Gs} {o : Nat} {r : Rec} {v2 : Int32} {v3 : Int32} {v4 : Int32} {v5 : Int32} {v6 : Int32} {v7 : Int32} {q : ((Int32 × Int32) ⊕ ((Int32 × Int32 × Int32) ⊕ (Rec × Int32)))} {fin : Rec × Int32} (C : Cx p s m args meth c yX10_heirs cX10_heirs 8 (some .int) Γ A) (hk : kd Γ o = some 10) (hf : bX10_heirs_42 r v2 v3 v4 v5 v6 v7 = some q) (hq : (KC (fun st : Int32 × Int32 => Wk p l e { frames := 3, cells := 0, slots := 0, locals := 66 } s m args below meth c Γ A (ug G o fin.1) (some (.int fin.2)) 42 8 [(0, .ref (ad Γ o)), (2, .int v2), (3, .int v3), (4, .int v4), (5, .int v5), (6, .int st.1), (7, .int st.2)] [] (ug G o r)) (KC (fun st : Int32 × Int32 × Int32 => Wk p l e { frames := 3, cells := 0, slots := 0, locals := 66 } s m args below meth c Γ A (ug G o fin.1) (some (.int fin.2)) 25 8 [(0, .ref (ad Γ o)), (2, .int v2), (3, .int st.1), (4, .int st.2.1), (5, .int st.2.2)] [] (ug G o r)) (fun x => x = fin))) q) : Wk p l e { frames := 3, cells := 0, slots := 0, locals := 66 } s m args below meth c Γ A (ug G o fin.1) (some (.int fin.2)) 42 8 [(0, .ref (ad Γ o)), (2, .int v2), (3, .int v3), (4, .int v4), (5, .int v5), (6, .int v6), (7, .int v7)] [] (ug G o r) := by
  intro H locs ls hw hS hl
  unfold bX10_heirs_42 at hf
  obtain ⟨hx, hb, hml, hr, hown, htw, hlocks, hE⟩ := id C
  have hown : s.vm.findClass RX10 = some m.cls := hown
  refine lv_iload hx hb dX10_heirs_42 (lv_at hl 6 rfl) ?_
  refine lv_aload_n hx hb dX10_heirs_44 rfl (lv_at hl 0 rfl) ?_
  refine va_get (ci := 10) (v := .int (gi r 26)) (C := RX10) (T := TX10) (N := 49) hx hb htw uwX10 hown hE.1 (wo_me hw hk) 0 rfl rfl 26 (by decide) (htw _ mw1269) (fun _ h9 => h9) rfl dX10_heirs_45 ?_
  refine lv_icmp_ge (tgt := 98) hx hb dX10_heirs_48 (by decide) (fun c12 => ?_) (fun c12 => ?_)
  · have hf := ifp c12 hf
    obtain ⟨q5, hfq5, eq5⟩ := out1_some hf
    subst eq5
    have hf := hfq5
    have hq := hq.2 _ rfl
    exact wX10_heirs_98 C hk hf hq H locs ls hw hS (lv_sub hl [0, 1, 2, 3, 4, 5] rfl)
  · have hf := ifn c12 hf
    refine lv_iload hx hb dX10_heirs_51 (lv_at hl 5 rfl) ?_
    refine lv_iload hx hb dX10_heirs_53 (lv_at hl 4 rfl) ?_
    refine lv_iload hx hb dX10_heirs_55 (lv_at hl 6 rfl) ?_
    obtain ⟨z6, hz6, hf⟩ := bd hf
    refine cl_Ss (rest := [.int v6]) (kX10_has (l := l) (Γ := Γ) (A := A) (G := (ug G o r)) hz6) ⟨hx, hb, hml, hown, htw⟩ hE hw hS mw1561 mw1562 mw129 mw1563 pdX10_has ⟨Nat.le_of_ble_eq_true rfl, Nat.le_of_ble_eq_true rfl⟩ rfl rfl hl.1 (Nat.le_of_ble_eq_true rfl) dX10_heirs_57 (fun H locs hw hS => ?_)
    refine lv_if_eq (tgt := 77) hx hb dX10_heirs_60 (by decide) (fun c11 => ?_) (fun c11 => ?_)
    · have hf := ifp c11 hf
      refine lv_aload_n hx hb dX10_heirs_77 rfl (lv_at hl 0 rfl) ?_
      refine lv_aload_n hx hb dX10_heirs_78 rfl (lv_at hl 0 rfl) ?_
      refine va_get (ci := 10) (v := .ref (aa Γ o 28)) (C := RX10) (T := TX10) (N := 49) hx hb htw uwX10 hown hE.1 (wo_me hw hk) 0 rfl rfl 28 (by decide) (htw _ mw1271) (fun _ h9 => h9) rfl dX10_heirs_79 ?_
      refine lv_iload hx hb dX10_heirs_82 (lv_at hl 6 rfl) ?_
      obtain ⟨g7, hf⟩ := gd_some hf
      refine va_iald hx hb hE.1 (wo_me hw hk) 12 0 rfl rfl (inR_in g7) dX10_heirs_84 ?_
      obtain ⟨z8, hz8, hf⟩ := bd hf
      refine cl_Vs (rest := [.int v6]) (kX10_weightOf (l := l) (Γ := Γ) (A := A) (G := G) (o := o) hk hz8) ⟨hx, hb, hml, hown, htw⟩ hE hw hS (wo_me hw hk) (q0 := 0) rfl rfl mw1727 mw1729 mw101 mw129 mw1730 pdX10_weightOf ⟨Nat.le_of_ble_eq_true rfl, Nat.le_of_ble_eq_true rfl⟩ rfl rfl hl.1 (Nat.le_of_ble_eq_true rfl) dX10_heirs_85 (fun H locs hw hS => ?_)
      refine lv_ineg hx hb dX10_heirs_88 ?_
      exact wX10_heirs_89 C hk hf hq H locs ls hw hS (lv_sub hl [0, 1, 2, 3, 4, 6] rfl)
    · have hf := ifn c11 hf
      refine lv_aload_n hx hb dX10_heirs_63 rfl (lv_at hl 0 rfl) ?_
      refine lv_aload_n hx hb dX10_heirs_64 rfl (lv_at hl 0 rfl) ?_
      refine va_get (ci := 10) (v := .ref (aa Γ o 28)) (C := RX10) (T := TX10) (N := 49) hx hb htw uwX10 hown hE.1 (wo_me hw hk) 0 rfl rfl 28 (by decide) (htw _ mw1271) (fun _ h9 => h9) rfl dX10_heirs_65 ?_
      refine lv_iload hx hb dX10_heirs_68 (lv_at hl 6 rfl) ?_
      obtain ⟨g9, hf⟩ := gd_some hf
      refine va_iald hx hb hE.1 (wo_me hw hk) 12 0 rfl rfl (inR_in g9) dX10_heirs_70 ?_
      obtain ⟨z10, hz10, hf⟩ := bd hf
      refine cl_Vs (rest := [.int v6]) (kX10_weightOf (l := l) (Γ := Γ) (A := A) (G := G) (o := o) hk hz10) ⟨hx, hb, hml, hown, htw⟩ hE hw hS (wo_me hw hk) (q0 := 0) rfl rfl mw1727 mw1729 mw101 mw129 mw1730 pdX10_weightOf ⟨Nat.le_of_ble_eq_true rfl, Nat.le_of_ble_eq_true rfl⟩ rfl rfl hl.1 (Nat.le_of_ble_eq_true rfl) dX10_heirs_71 (fun H locs hw hS => ?_)
      refine lv_goto (tgt := 89) hx hb dX10_heirs_74 (by decide) ?_
      exact wX10_heirs_89 C hk hf hq H locs ls hw hS (lv_sub hl [0, 1, 2, 3, 4, 6] rfl)

set_option maxRecDepth 100000 in
set_option maxHeartbeats 4000000 in
theorem lwX10_heirs_42 {p : Program} {l : Launch} {e : Env} {s : State} {m : MethodId} {args : Array Value} {below : List Frame} {meth : Method} {c : Code} {Γ : Gm} {A : Nat → Prop} {G : Gs} {o : Nat} {r : Rec} {v2 : Int32} {v3 : Int32} {v4 : Int32} {v5 : Int32} {v6 : Int32} {v7 : Int32} {q : ((Int32 × Int32 × Int32) ⊕ (Rec × Int32))} {fin : Rec × Int32} (C : Cx p s m args meth c yX10_heirs cX10_heirs 8 (some .int) Γ A) (hk : kd Γ o = some 10) (hf : iter (fun st : Int32 × Int32 => bX10_heirs_42 r v2 v3 v4 v5 st.1 st.2) (v6, v7) = some q) (hq : (KC (fun st : Int32 × Int32 × Int32 => Wk p l e { frames := 3, cells := 0, slots := 0, locals := 66 } s m args below meth c Γ A (ug G o fin.1) (some (.int fin.2)) 25 8 [(0, .ref (ad Γ o)), (2, .int v2), (3, .int st.1), (4, .int st.2.1), (5, .int st.2.2)] [] (ug G o r)) (fun x => x = fin)) q) : Wk p l e { frames := 3, cells := 0, slots := 0, locals := 66 } s m args below meth c Γ A (ug G o fin.1) (some (.int fin.2)) 42 8 [(0, .ref (ad Γ o)), (2, .int v2), (3, .int v3), (4, .int v4), (5, .int v5), (6, .int v6), (7, .int v7)] [] (ug G o r) := by
  intro H locs ls hw hS hl
  refine iter_walk (P := (fun st : Int32 × Int32 => Wk p l e { frames := 3, cells := 0, slots := 0, locals := 66 } s m args below meth c Γ A (ug G o fin.1) (some (.int fin.2)) 42 8 [(0, .ref (ad Γ o)), (2, .int v2), (3, .int v3), (4, .int v4), (5, .int v5), (6, .int st.1), (7, .int st.2)] [] (ug G o r))) (K := (KC (fun st : Int32 × Int32 × Int32 => Wk p l e { frames := 3, cells := 0, slots := 0, locals := 66 } s m args below meth c Γ A (ug G o fin.1) (some (.int fin.2)) 25 8 [(0, .ref (ad Γ o)), (2, .int v2), (3, .int st.1), (4, .int st.2.1), (5, .int st.2.2)] [] (ug G o r)) (fun x => x = fin))) (fun st q hq1 h1 h2 => ?_) hf hq H locs ls hw hS hl
  exact wX10_heirs_42 (v6 := st.1) (v7 := st.2) C hk hq1 ⟨h1, h2⟩

noncomputable def bX10_heirs_25 (r : Rec) (v2 : Int32) (v3 : Int32) (v4 : Int32) (v5 : Int32) : Option ((Int32 × Int32 × Int32) ⊕ (Rec × Int32)) :=
  if ((1 : Int32) <<< ((gi r 26) &&& 31)) ≤ v5 then out1 (bX10_heirs_142 r v2 v3 v4) else iter (fun st : Int32 × Int32 => bX10_heirs_42 r v2 v3 v4 v5 st.1 st.2) (0, 0)
set_option maxRecDepth 100000 in
set_option maxHeartbeats 4000000 in
theorem wX10_heirs_25 {p : Program} {l : Launch} {e : Env} {s : State} {m : MethodId} {args : Array Value} {below : List Frame} {meth : Method} {c : Code} {Γ : Gm} {A : Nat → Prop} {G : Gs} {o : Nat} {r : Rec} {v2 : Int32} {v3 : Int32} {v4 : Int32} {v5 : Int32} {q : ((Int32 × Int32 × Int32) ⊕ (Rec × Int32))} {fin : Rec × Int32} (C : Cx p s m args meth c yX10_heirs cX10_heirs 8 (some .int) Γ A) (hk : kd Γ o = some 10) (hf : bX10_heirs_25 r v2 v3 v4 v5 = some q) (hq : (KC (fun st : Int32 × Int32 × Int32 => Wk p l e { frames := 3, cells := 0, slots := 0, locals := 66 } s m args below meth c Γ A (ug G o fin.1) (some (.int fin.2)) 25 8 [(0, .ref (ad Γ o)), (2, .int v2), (3, .int st.1), (4, .int st.2.1), (5, .int st.2.2)] [] (ug G o r)) (fun x => x = fin)) q) : Wk p l e { frames := 3, cells := 0, slots := 0, locals := 66 } s m args below meth c Γ A (ug G o fin.1) (some (.int fin.2)) 25 8 [(0, .ref (ad Γ o)), (2, .int v2), (3, .int v3), (4, .int v4), (5, .int v5)] [] (ug G o r) := by
  intro H locs ls hw hS hl
  unfold bX10_heirs_25 at hf
  obtain ⟨hx, hb, hml, hr, hown, htw, hlocks, hE⟩ := id C
  have hown : s.vm.findClass RX10 = some m.cls := hown
  refine lv_iload hx hb dX10_heirs_25 (lv_at hl 4 rfl) ?_
  refine lv_iconst (v := 1) hx hb dX10_heirs_27 (by decide) ?_
  refine lv_aload_n hx hb dX10_heirs_28 rfl (lv_at hl 0 rfl) ?_
  refine va_get (ci := 10) (v := .int (gi r 26)) (C := RX10) (T := TX10) (N := 49) hx hb htw uwX10 hown hE.1 (wo_me hw hk) 0 rfl rfl 26 (by decide) (htw _ mw1269) (fun _ h9 => h9) rfl dX10_heirs_29 ?_
  refine lv_ishl hx hb dX10_heirs_32 ?_
  refine lv_icmp_ge (tgt := 142) hx hb dX10_heirs_33 (by decide) (fun c14 => ?_) (fun c14 => ?_)
  · have hf := ifp c14 hf
    obtain ⟨q13, hfq13, eq13⟩ := out1_some hf
    subst eq13
    have hf := hfq13
    have hq := hq.2 _ rfl
    exact wX10_heirs_142 C hk hf hq H locs ls hw hS (lv_sub hl [1, 2, 3] rfl)
  · have hf := ifn c14 hf
    refine lv_iconst (v := 0) hx hb dX10_heirs_36 (by decide) ?_
    refine lv_istore (lv' := [(6, .int 0), (0, .ref (ad Γ o)), (2, .int v2), (3, .int v3), (4, .int v4), (5, .int v5)]) hx hb dX10_heirs_37 hl (by decide) rfl (fun ls hl => ?_)
    refine lv_iconst (v := 0) hx hb dX10_heirs_39 (by decide) ?_
    refine lv_istore (lv' := [(7, .int 0), (6, .int 0), (0, .ref (ad Γ o)), (2, .int v2), (3, .int v3), (4, .int v4), (5, .int v5)]) hx hb dX10_heirs_40 hl (by decide) rfl (fun ls hl => ?_)
    exact lwX10_heirs_42 C hk hf hq H locs ls hw hS (lv_sub hl [2, 3, 4, 5, 6, 1, 0] rfl)

set_option maxRecDepth 100000 in
set_option maxHeartbeats 4000000 in
theorem lwX10_heirs_25 {p : Program} {l : Launch} {e : Env} {s : State} {m : MethodId} {args : Array Value} {below : List Frame} {meth : Method} {c : Code} {Γ : Gm} {A : Nat → Prop} {G : Gs} {o : Nat} {r : Rec} {v2 : Int32} {v3 : Int32} {v4 : Int32} {v5 : Int32} {q : (Rec × Int32)} {fin : Rec × Int32} (C : Cx p s m args meth c yX10_heirs cX10_heirs 8 (some .int) Γ A) (hk : kd Γ o = some 10) (hf : iter (fun st : Int32 × Int32 × Int32 => bX10_heirs_25 r v2 st.1 st.2.1 st.2.2) (v3, v4, v5) = some q) (hq : (fun x => x = fin) q) : Wk p l e { frames := 3, cells := 0, slots := 0, locals := 66 } s m args below meth c Γ A (ug G o fin.1) (some (.int fin.2)) 25 8 [(0, .ref (ad Γ o)), (2, .int v2), (3, .int v3), (4, .int v4), (5, .int v5)] [] (ug G o r) := by
  intro H locs ls hw hS hl
  refine iter_walk (P := (fun st : Int32 × Int32 × Int32 => Wk p l e { frames := 3, cells := 0, slots := 0, locals := 66 } s m args below meth c Γ A (ug G o fin.1) (some (.int fin.2)) 25 8 [(0, .ref (ad Γ o)), (2, .int v2), (3, .int st.1), (4, .int st.2.1), (5, .int st.2.2)] [] (ug G o r))) (K := (fun x => x = fin)) (fun st q hq1 h1 h2 => ?_) hf hq H locs ls hw hS hl
  exact wX10_heirs_25 (v3 := st.1) (v4 := st.2.1) (v5 := st.2.2) C hk hq1 ⟨h1, h2⟩

noncomputable def fX10_heirs (r : Rec) (v1 : Int32) (v2 : Int32) : Option (Rec × Int32) :=
  (some (si r 0 0)).bind fun r15 => (fX10_hand r15 v1).bind fun z16 => if z16.2 = 0 then some ((z16.1, (-1))) else iter (fun st : Int32 × Int32 × Int32 => bX10_heirs_25 z16.1 v2 st.1 st.2.1 st.2.2) ((-1), 1000000, 0)
set_option maxRecDepth 100000 in
set_option maxHeartbeats 4000000 in
theorem wX10_heirs_e {p : Program} {l : Launch} {e : Env} {s : State} {m : MethodId} {args : Array Value} {below : List Frame} {meth : Method} {c : Code} {Γ : Gm} {A : Nat → Prop} {G : Gs} {o : Nat} {r : Rec} {v1 : Int32} {v2 : Int32} {q : (Rec × Int32)} {fin : Rec × Int32} (C : Cx p s m args meth c yX10_heirs cX10_heirs 8 (some .int) Γ A) (hk : kd Γ o = some 10) (hf : fX10_heirs r v1 v2 = some q) (hq : (fun x => x = fin) q) : Wk p l e { frames := 3, cells := 0, slots := 0, locals := 66 } s m args below meth c Γ A (ug G o fin.1) (some (.int fin.2)) 0 8 [(0, .ref (ad Γ o)), (1, .int v1), (2, .int v2)] [] (ug G o r) := by
  intro H locs ls hw hS hl
  unfold fX10_heirs at hf
  obtain ⟨hx, hb, hml, hr, hown, htw, hlocks, hE⟩ := id C
  have hown : s.vm.findClass RX10 = some m.cls := hown
  refine lv_aload_n hx hb dX10_heirs_0 rfl (lv_at hl 0 rfl) ?_
  refine lv_iconst (v := 0) hx hb dX10_heirs_1 (by decide) ?_
  obtain ⟨r15, hr15, hf⟩ := bd hf
  have hr15 := Option.some.inj hr15
  refine wo_put (C := RX10) (T := TX10) (N := 49) (v := .int 0) (ty := .int) hx hb htw uwX10 tyX10 tyX10_ok nmX10 hown hE hw hS hk rfl rfl 0 (by decide) (htw _ mw1243) (fun _ h9 => h9) rfl (tyX10_ok 0 (by decide)) rfl rfl (Nat.le_of_ble_eq_true rfl) (st10_0 hr15) dX10_heirs_2 (fun H locs hw hS => ?_)
  refine lv_aload_n hx hb dX10_heirs_5 rfl (lv_at hl 0 rfl) ?_
  refine lv_iload_n hx hb dX10_heirs_6 rfl (lv_at hl 1 rfl) ?_
  obtain ⟨z16, hz16, hf⟩ := bd hf
  refine cl_Vs (rest := []) (kX10_hand (l := l) (Γ := Γ) (A := A) (G := G) (o := o) hk hz16) ⟨hx, hb, hml, hown, htw⟩ hE hw hS (wo_me hw hk) (q0 := 0) rfl rfl mw1537 mw1539 mw65 mw129 mw1540 pdX10_hand ⟨Nat.le_of_ble_eq_true rfl, Nat.le_of_ble_eq_true rfl⟩ rfl rfl hl.1 (Nat.le_of_ble_eq_true rfl) dX10_heirs_7 (fun H locs hw hS => ?_)
  refine lv_if_ne (tgt := 15) hx hb dX10_heirs_10 (by decide) (fun c17 => ?_) (fun c17 => ?_)
  · have hf := ifn c17 hf
    refine lv_iconst (v := (-1)) hx hb dX10_heirs_15 (by decide) ?_
    refine lv_istore_n (lv' := [(3, .int (-1)), (0, .ref (ad Γ o)), (1, .int v1), (2, .int v2)]) hx hb dX10_heirs_16 rfl hl (by decide) rfl (fun ls hl => ?_)
    refine lv_ldcw hx hb hown (htw _ mw1676) dX10_heirs_17 ?_
    refine lv_istore (lv' := [(4, .int 1000000), (3, .int (-1)), (0, .ref (ad Γ o)), (1, .int v1), (2, .int v2)]) hx hb dX10_heirs_20 hl (by decide) rfl (fun ls hl => ?_)
    refine lv_iconst (v := 0) hx hb dX10_heirs_22 (by decide) ?_
    refine lv_istore (lv' := [(5, .int 0), (4, .int 1000000), (3, .int (-1)), (0, .ref (ad Γ o)), (1, .int v1), (2, .int v2)]) hx hb dX10_heirs_23 hl (by decide) rfl (fun ls hl => ?_)
    exact lwX10_heirs_25 C hk hf hq H locs ls hw hS (lv_sub hl [3, 5, 2, 1, 0] rfl)
  · have hf := ifp c17 hf
    refine lv_iconst (v := (-1)) hx hb dX10_heirs_13 (by decide) ?_
    obtain rfl := Option.some.inj hf
    subst hq
    exact rt_i C hw hS dX10_heirs_14

theorem kX10_heirs {l : Launch} {Γ : Gm} {A : Nat → Prop} {G : Gs} {o : Nat} {r : Rec} {v1 : Int32} {v2 : Int32} {fin : Rec × Int32} (hk : kd Γ o = some 10) (hf : fX10_heirs r v1 v2 = some fin) : Kt l yX10_heirs cX10_heirs 8 (some .int) 3 66 Γ A (ug G o r) (ug G o fin.1) [.ref (ad Γ o), .int v1, .int v2] (some (.int fin.2)) :=
  kt_of (by decide) (Nat.le_of_ble_eq_true rfl) (fun p e s m args below meth c C => wX10_heirs_e C hk hf rfl)
theorem kgX10_heirs {l : Launch} {Γ : Gm} {A : Nat → Prop} {G : Gs} {o : Nat} {v1 : Int32} {v2 : Int32} {fin : Rec × Int32} (hk : kd Γ o = some 10) (hf : fX10_heirs (G o) v1 v2 = some fin) : Kt l yX10_heirs cX10_heirs 8 (some .int) 3 66 Γ A G (ug G o fin.1) [.ref (ad Γ o), .int v1, .int v2] (some (.int fin.2)) := by
  have h := kX10_heirs (l := l) (A := A) (G := G) (r := G o) hk hf
  rw [ug_self] at h
  exact h
noncomputable def fX10_factOf (r : Rec) (v1 : Int32) (v2 : Int32) : Option Int32 :=
  (some ((((17 * (gi r 41)) + 1) + (2 * v1)) + v2)).bind fun x1 => gd (inR x1 136) (some (ga r 9 (Int32.toNatClampNeg x1)))
set_option maxRecDepth 100000 in
set_option maxHeartbeats 4000000 in
theorem wX10_factOf_e {p : Program} {l : Launch} {e : Env} {s : State} {m : MethodId} {args : Array Value} {below : List Frame} {meth : Method} {c : Code} {Γ : Gm} {A : Nat → Prop} {G : Gs} {o : Nat} {r : Rec} {v1 : Int32} {v2 : Int32} {q : Int32} {fin : Int32} (C : Cx p s m args meth c yX10_factOf cX10_factOf 3 (some .int) Γ A) (hk : kd Γ o = some 10) (hf : fX10_factOf r v1 v2 = some q) (hq : (fun x => x = fin) q) : Wk p l e { frames := 0, cells := 0, slots := 0, locals := 0 } s m args below meth c Γ A (ug G o r) (some (.int fin)) 0 3 [(0, .ref (ad Γ o)), (1, .int v1), (2, .int v2)] [] (ug G o r) := by
  intro H locs ls hw hS hl
  unfold fX10_factOf at hf
  obtain ⟨hx, hb, hml, hr, hown, htw, hlocks, hE⟩ := id C
  have hown : s.vm.findClass RX10 = some m.cls := hown
  refine lv_aload_n hx hb dX10_factOf_0 rfl (lv_at hl 0 rfl) ?_
  refine va_get (ci := 10) (v := .ref (aa Γ o 9)) (C := RX10) (T := TX10) (N := 49) hx hb htw uwX10 hown hE.1 (wo_me hw hk) 0 rfl rfl 9 (by decide) (htw _ mw1252) (fun _ h9 => h9) rfl dX10_factOf_1 ?_
  refine lv_bipush (v := 17) hx hb dX10_factOf_4 (by decide) ?_
  refine lv_aload_n hx hb dX10_factOf_6 rfl (lv_at hl 0 rfl) ?_
  refine va_get (ci := 10) (v := .int (gi r 41)) (C := RX10) (T := TX10) (N := 49) hx hb htw uwX10 hown hE.1 (wo_me hw hk) 0 rfl rfl 41 (by decide) (htw _ mw1284) (fun _ h9 => h9) rfl dX10_factOf_7 ?_
  refine lv_imul hx hb dX10_factOf_10 ?_
  refine lv_iconst (v := 1) hx hb dX10_factOf_11 (by decide) ?_
  refine lv_iadd hx hb dX10_factOf_12 ?_
  refine lv_iconst (v := 2) hx hb dX10_factOf_13 (by decide) ?_
  refine lv_iload_n hx hb dX10_factOf_14 rfl (lv_at hl 1 rfl) ?_
  refine lv_imul hx hb dX10_factOf_15 ?_
  refine lv_iadd hx hb dX10_factOf_16 ?_
  refine lv_iload_n hx hb dX10_factOf_17 rfl (lv_at hl 2 rfl) ?_
  refine lv_iadd hx hb dX10_factOf_18 ?_
  obtain ⟨x1, hx1, hf⟩ := bd hf
  have hx1 := Option.some.inj hx1
  refine tp1i hx1 ?_
  obtain ⟨g2, hf⟩ := gd_some hf
  refine va_iald hx hb hE.1 (wo_me hw hk) 9 0 rfl rfl (inR_in g2) dX10_factOf_19 ?_
  obtain rfl := Option.some.inj hf
  subst hq
  exact rt_i C hw hS dX10_factOf_20

theorem kX10_factOf {l : Launch} {Γ : Gm} {A : Nat → Prop} {G : Gs} {o : Nat} {r : Rec} {v1 : Int32} {v2 : Int32} {fin : Int32} (hk : kd Γ o = some 10) (hf : fX10_factOf r v1 v2 = some fin) : Kt l yX10_factOf cX10_factOf 3 (some .int) 0 0 Γ A (ug G o r) (ug G o r) [.ref (ad Γ o), .int v1, .int v2] (some (.int fin)) :=
  kt_of (by decide) (Nat.le_of_ble_eq_true rfl) (fun p e s m args below meth c C => wX10_factOf_e C hk hf rfl)
theorem kgX10_factOf {l : Launch} {Γ : Gm} {A : Nat → Prop} {G : Gs} {o : Nat} {v1 : Int32} {v2 : Int32} {fin : Int32} (hk : kd Γ o = some 10) (hf : fX10_factOf (G o) v1 v2 = some fin) : Kt l yX10_factOf cX10_factOf 3 (some .int) 0 0 Γ A G G [.ref (ad Γ o), .int v1, .int v2] (some (.int fin)) := by
  have h := kX10_factOf (l := l) (A := A) (G := G) (r := G o) hk hf
  rw [ug_self] at h
  exact h
noncomputable def fX10_hasLog (r : Rec) (v1 : Int32) : Option (Rec × Int32) :=
  (some (si r 41 v1)).bind fun r1 => (fX10_is r1 3 v1).bind fun z2 => gd (isB z2) (some ((r1, z2)))
set_option maxRecDepth 100000 in
set_option maxHeartbeats 4000000 in
theorem wX10_hasLog_e {p : Program} {l : Launch} {e : Env} {s : State} {m : MethodId} {args : Array Value} {below : List Frame} {meth : Method} {c : Code} {Γ : Gm} {A : Nat → Prop} {G : Gs} {o : Nat} {r : Rec} {v1 : Int32} {q : (Rec × Int32)} {fin : Rec × Int32} (C : Cx p s m args meth c yX10_hasLog cX10_hasLog 2 (some .boolean) Γ A) (hk : kd Γ o = some 10) (hf : fX10_hasLog r v1 = some q) (hq : (fun x => x = fin) q) : Wk p l e { frames := 2, cells := 0, slots := 0, locals := 44 } s m args below meth c Γ A (ug G o fin.1) (some (.int fin.2)) 0 2 [(0, .ref (ad Γ o)), (1, .int v1)] [] (ug G o r) := by
  intro H locs ls hw hS hl
  unfold fX10_hasLog at hf
  obtain ⟨hx, hb, hml, hr, hown, htw, hlocks, hE⟩ := id C
  have hown : s.vm.findClass RX10 = some m.cls := hown
  refine lv_aload_n hx hb dX10_hasLog_0 rfl (lv_at hl 0 rfl) ?_
  refine lv_iload_n hx hb dX10_hasLog_1 rfl (lv_at hl 1 rfl) ?_
  obtain ⟨r1, hr1, hf⟩ := bd hf
  have hr1 := Option.some.inj hr1
  refine wo_put (C := RX10) (T := TX10) (N := 49) (v := .int v1) (ty := .int) hx hb htw uwX10 tyX10 tyX10_ok nmX10 hown hE hw hS hk rfl rfl 41 (by decide) (htw _ mw1284) (fun _ h9 => h9) rfl (tyX10_ok 41 (by decide)) rfl rfl (Nat.le_of_ble_eq_true rfl) (st10_41 hr1) dX10_hasLog_2 (fun H locs hw hS => ?_)
  refine lv_aload_n hx hb dX10_hasLog_5 rfl (lv_at hl 0 rfl) ?_
  refine lv_iconst (v := 3) hx hb dX10_hasLog_6 (by decide) ?_
  refine lv_iload_n hx hb dX10_hasLog_7 rfl (lv_at hl 1 rfl) ?_
  obtain ⟨z2, hz2, hf⟩ := bd hf
  refine cl_Vs (rest := []) (kX10_is (l := l) (Γ := Γ) (A := A) (G := G) (o := o) hk hz2) ⟨hx, hb, hml, hown, htw⟩ hE hw hS (wo_me hw hk) (q0 := 0) rfl rfl mw1411 mw1413 mw41 mw129 mw1414 pdX10_is ⟨Nat.le_of_ble_eq_true rfl, Nat.le_of_ble_eq_true rfl⟩ rfl rfl hl.1 (Nat.le_of_ble_eq_true rfl) dX10_hasLog_8 (fun H locs hw hS => ?_)
  obtain ⟨g3, hf⟩ := gd_some hf
  obtain rfl := Option.some.inj hf
  subst hq
  exact rt_z C (isB_or g3) hw hS dX10_hasLog_11

theorem kX10_hasLog {l : Launch} {Γ : Gm} {A : Nat → Prop} {G : Gs} {o : Nat} {r : Rec} {v1 : Int32} {fin : Rec × Int32} (hk : kd Γ o = some 10) (hf : fX10_hasLog r v1 = some fin) : Kt l yX10_hasLog cX10_hasLog 2 (some .boolean) 2 44 Γ A (ug G o r) (ug G o fin.1) [.ref (ad Γ o), .int v1] (some (.int fin.2)) :=
  kt_of (by decide) (Nat.le_of_ble_eq_true rfl) (fun p e s m args below meth c C => wX10_hasLog_e C hk hf rfl)
theorem kgX10_hasLog {l : Launch} {Γ : Gm} {A : Nat → Prop} {G : Gs} {o : Nat} {v1 : Int32} {fin : Rec × Int32} (hk : kd Γ o = some 10) (hf : fX10_hasLog (G o) v1 = some fin) : Kt l yX10_hasLog cX10_hasLog 2 (some .boolean) 2 44 Γ A G (ug G o fin.1) [.ref (ad Γ o), .int v1] (some (.int fin.2)) := by
  have h := kX10_hasLog (l := l) (A := A) (G := G) (r := G o) hk hf
  rw [ug_self] at h
  exact h
noncomputable def fX10_fact (r : Rec) (v1 : Int32) (v2 : Int32) (v3 : Int32) : Option (Rec × Int32) :=
  (some (si r 0 0)).bind fun r1 => (fX10_hasLog r1 v1).bind fun z2 => if z2.2 = 0 then some ((z2.1, (-2))) else if v2 = (-1) then if v3 = 0 then gd (inR (17 * v1) 136) (some ((z2.1, ga z2.1 9 (Int32.toNatClampNeg (17 * v1))))) else some ((z2.1, (-2))) else gd (inR (17 * v1) 136) ((fX10_in v2 0 ((ga z2.1 9 (Int32.toNatClampNeg (17 * v1))) - 1)).bind fun z4 => if z4 = 0 then some ((z2.1, (-2))) else (fX10_in v3 0 1).bind fun z5 => if z5 = 0 then some ((z2.1, (-2))) else (fX10_factOf z2.1 v2 v3).bind fun z6 => some ((z2.1, z6)))
set_option maxRecDepth 100000 in
set_option maxHeartbeats 4000000 in
theorem wX10_fact_e {p : Program} {l : Launch} {e : Env} {s : State} {m : MethodId} {args : Array Value} {below : List Frame} {meth : Method} {c : Code} {Γ : Gm} {A : Nat → Prop} {G : Gs} {o : Nat} {r : Rec} {v1 : Int32} {v2 : Int32} {v3 : Int32} {q : (Rec × Int32)} {fin : Rec × Int32} (C : Cx p s m args meth c yX10_fact cX10_fact 4 (some .int) Γ A) (hk : kd Γ o = some 10) (hf : fX10_fact r v1 v2 v3 = some q) (hq : (fun x => x = fin) q) : Wk p l e { frames := 3, cells := 0, slots := 0, locals := 65 } s m args below meth c Γ A (ug G o fin.1) (some (.int fin.2)) 0 4 [(0, .ref (ad Γ o)), (1, .int v1), (2, .int v2), (3, .int v3)] [] (ug G o r) := by
  intro H locs ls hw hS hl
  unfold fX10_fact at hf
  obtain ⟨hx, hb, hml, hr, hown, htw, hlocks, hE⟩ := id C
  have hown : s.vm.findClass RX10 = some m.cls := hown
  refine lv_aload_n hx hb dX10_fact_0 rfl (lv_at hl 0 rfl) ?_
  refine lv_iconst (v := 0) hx hb dX10_fact_1 (by decide) ?_
  obtain ⟨r1, hr1, hf⟩ := bd hf
  have hr1 := Option.some.inj hr1
  refine wo_put (C := RX10) (T := TX10) (N := 49) (v := .int 0) (ty := .int) hx hb htw uwX10 tyX10 tyX10_ok nmX10 hown hE hw hS hk rfl rfl 0 (by decide) (htw _ mw1243) (fun _ h9 => h9) rfl (tyX10_ok 0 (by decide)) rfl rfl (Nat.le_of_ble_eq_true rfl) (st10_0 hr1) dX10_fact_2 (fun H locs hw hS => ?_)
  refine lv_aload_n hx hb dX10_fact_5 rfl (lv_at hl 0 rfl) ?_
  refine lv_iload_n hx hb dX10_fact_6 rfl (lv_at hl 1 rfl) ?_
  obtain ⟨z2, hz2, hf⟩ := bd hf
  refine cl_Vs (rest := []) (kX10_hasLog (l := l) (Γ := Γ) (A := A) (G := G) (o := o) hk hz2) ⟨hx, hb, hml, hown, htw⟩ hE hw hS (wo_me hw hk) (q0 := 0) rfl rfl mw1766 mw1768 mw105 mw129 mw1769 pdX10_hasLog ⟨Nat.le_of_ble_eq_true rfl, Nat.le_of_ble_eq_true rfl⟩ rfl rfl hl.1 (Nat.le_of_ble_eq_true rfl) dX10_fact_7 (fun H locs hw hS => ?_)
  refine lv_if_ne (tgt := 16) hx hb dX10_fact_10 (by decide) (fun c12 => ?_) (fun c12 => ?_)
  · have hf := ifn c12 hf
    refine lv_iload_n hx hb dX10_fact_16 rfl (lv_at hl 2 rfl) ?_
    refine lv_iconst (v := (-1)) hx hb dX10_fact_17 (by decide) ?_
    refine lv_icmp_ne (tgt := 40) hx hb dX10_fact_18 (by decide) (fun c11 => ?_) (fun c11 => ?_)
    · have hf := ifn c11 hf
      refine lv_iload_n hx hb dX10_fact_40 rfl (lv_at hl 2 rfl) ?_
      refine lv_iconst (v := 0) hx hb dX10_fact_41 (by decide) ?_
      refine lv_aload_n hx hb dX10_fact_42 rfl (lv_at hl 0 rfl) ?_
      refine va_get (ci := 10) (v := .ref (aa Γ o 9)) (C := RX10) (T := TX10) (N := 49) hx hb htw uwX10 hown hE.1 (wo_me hw hk) 0 rfl rfl 9 (by decide) (htw _ mw1252) (fun _ h9 => h9) rfl dX10_fact_43 ?_
      refine lv_bipush (v := 17) hx hb dX10_fact_46 (by decide) ?_
      refine lv_iload_n hx hb dX10_fact_48 rfl (lv_at hl 1 rfl) ?_
      refine lv_imul hx hb dX10_fact_49 ?_
      obtain ⟨g3, hf⟩ := gd_some hf
      refine va_iald hx hb hE.1 (wo_me hw hk) 9 0 rfl rfl (inR_in g3) dX10_fact_50 ?_
      refine lv_iconst (v := 1) hx hb dX10_fact_51 (by decide) ?_
      refine lv_isub hx hb dX10_fact_52 ?_
      obtain ⟨z4, hz4, hf⟩ := bd hf
      refine cl_Ss (rest := []) (kX10_in (l := l) (Γ := Γ) (A := A) (G := (ug G o z2.1)) hz4) ⟨hx, hb, hml, hown, htw⟩ hE hw hS mw1404 mw1405 mw129 mw1406 pdX10_in ⟨Nat.le_of_ble_eq_true rfl, Nat.le_of_ble_eq_true rfl⟩ rfl rfl hl.1 (Nat.le_of_ble_eq_true rfl) dX10_fact_53 (fun H locs hw hS => ?_)
      refine lv_if_eq (tgt := 77) hx hb dX10_fact_56 (by decide) (fun c8 => ?_) (fun c8 => ?_)
      · have hf := ifp c8 hf
        refine lv_bipush (v := (-2)) hx hb dX10_fact_77 (by decide) ?_
        obtain rfl := Option.some.inj hf
        subst hq
        exact rt_i C hw hS dX10_fact_79
      · have hf := ifn c8 hf
        refine lv_iload_n hx hb dX10_fact_59 rfl (lv_at hl 3 rfl) ?_
        refine lv_iconst (v := 0) hx hb dX10_fact_60 (by decide) ?_
        refine lv_iconst (v := 1) hx hb dX10_fact_61 (by decide) ?_
        obtain ⟨z5, hz5, hf⟩ := bd hf
        refine cl_Ss (rest := []) (kX10_in (l := l) (Γ := Γ) (A := A) (G := (ug G o z2.1)) hz5) ⟨hx, hb, hml, hown, htw⟩ hE hw hS mw1404 mw1405 mw129 mw1406 pdX10_in ⟨Nat.le_of_ble_eq_true rfl, Nat.le_of_ble_eq_true rfl⟩ rfl rfl hl.1 (Nat.le_of_ble_eq_true rfl) dX10_fact_62 (fun H locs hw hS => ?_)
        refine lv_if_eq (tgt := 77) hx hb dX10_fact_65 (by decide) (fun c7 => ?_) (fun c7 => ?_)
        · have hf := ifp c7 hf
          refine lv_bipush (v := (-2)) hx hb dX10_fact_77 (by decide) ?_
          obtain rfl := Option.some.inj hf
          subst hq
          exact rt_i C hw hS dX10_fact_79
        · have hf := ifn c7 hf
          refine lv_aload_n hx hb dX10_fact_68 rfl (lv_at hl 0 rfl) ?_
          refine lv_iload_n hx hb dX10_fact_69 rfl (lv_at hl 2 rfl) ?_
          refine lv_iload_n hx hb dX10_fact_70 rfl (lv_at hl 3 rfl) ?_
          obtain ⟨z6, hz6, hf⟩ := bd hf
          refine cl_Vs (rest := []) (kX10_factOf (l := l) (Γ := Γ) (A := A) (G := G) (o := o) hk hz6) ⟨hx, hb, hml, hown, htw⟩ hE hw hS (wo_me hw hk) (q0 := 0) rfl rfl mw1770 mw1772 mw106 mw129 mw1773 pdX10_factOf ⟨Nat.le_of_ble_eq_true rfl, Nat.le_of_ble_eq_true rfl⟩ rfl rfl hl.1 (Nat.le_of_ble_eq_true rfl) dX10_fact_71 (fun H locs hw hS => ?_)
          refine lv_goto (tgt := 79) hx hb dX10_fact_74 (by decide) ?_
          obtain rfl := Option.some.inj hf
          subst hq
          exact rt_i C hw hS dX10_fact_79
    · have hf := ifp c11 hf
      refine lv_iload_n hx hb dX10_fact_21 rfl (lv_at hl 3 rfl) ?_
      refine lv_if_ne (tgt := 37) hx hb dX10_fact_22 (by decide) (fun c10 => ?_) (fun c10 => ?_)
      · have hf := ifn c10 hf
        refine lv_bipush (v := (-2)) hx hb dX10_fact_37 (by decide) ?_
        obtain rfl := Option.some.inj hf
        subst hq
        exact rt_i C hw hS dX10_fact_39
      · have hf := ifp c10 hf
        refine lv_aload_n hx hb dX10_fact_25 rfl (lv_at hl 0 rfl) ?_
        refine va_get (ci := 10) (v := .ref (aa Γ o 9)) (C := RX10) (T := TX10) (N := 49) hx hb htw uwX10 hown hE.1 (wo_me hw hk) 0 rfl rfl 9 (by decide) (htw _ mw1252) (fun _ h9 => h9) rfl dX10_fact_26 ?_
        refine lv_bipush (v := 17) hx hb dX10_fact_29 (by decide) ?_
        refine lv_iload_n hx hb dX10_fact_31 rfl (lv_at hl 1 rfl) ?_
        refine lv_imul hx hb dX10_fact_32 ?_
        obtain ⟨g9, hf⟩ := gd_some hf
        refine va_iald hx hb hE.1 (wo_me hw hk) 9 0 rfl rfl (inR_in g9) dX10_fact_33 ?_
        refine lv_goto (tgt := 39) hx hb dX10_fact_34 (by decide) ?_
        obtain rfl := Option.some.inj hf
        subst hq
        exact rt_i C hw hS dX10_fact_39
  · have hf := ifp c12 hf
    refine lv_bipush (v := (-2)) hx hb dX10_fact_13 (by decide) ?_
    obtain rfl := Option.some.inj hf
    subst hq
    exact rt_i C hw hS dX10_fact_15

theorem kX10_fact {l : Launch} {Γ : Gm} {A : Nat → Prop} {G : Gs} {o : Nat} {r : Rec} {v1 : Int32} {v2 : Int32} {v3 : Int32} {fin : Rec × Int32} (hk : kd Γ o = some 10) (hf : fX10_fact r v1 v2 v3 = some fin) : Kt l yX10_fact cX10_fact 4 (some .int) 3 65 Γ A (ug G o r) (ug G o fin.1) [.ref (ad Γ o), .int v1, .int v2, .int v3] (some (.int fin.2)) :=
  kt_of (by decide) (Nat.le_of_ble_eq_true rfl) (fun p e s m args below meth c C => wX10_fact_e C hk hf rfl)
theorem kgX10_fact {l : Launch} {Γ : Gm} {A : Nat → Prop} {G : Gs} {o : Nat} {v1 : Int32} {v2 : Int32} {v3 : Int32} {fin : Rec × Int32} (hk : kd Γ o = some 10) (hf : fX10_fact (G o) v1 v2 v3 = some fin) : Kt l yX10_fact cX10_fact 4 (some .int) 3 65 Γ A G (ug G o fin.1) [.ref (ad Γ o), .int v1, .int v2, .int v3] (some (.int fin.2)) := by
  have h := kX10_fact (l := l) (A := A) (G := G) (r := G o) hk hf
  rw [ug_self] at h
  exact h
noncomputable def bX10_shinesBy_26 (r : Rec) (v2 : Int32) (s0 : Int32) (s1 : Int32) : Option Int32 :=
  (fX10_wear r v2).bind fun z1 => (fX10_lastsFor (s1 * s0) z1).bind fun z2 => some (z2)
set_option maxRecDepth 100000 in
set_option maxHeartbeats 4000000 in
theorem wX10_shinesBy_26 {p : Program} {l : Launch} {e : Env} {s : State} {m : MethodId} {args : Array Value} {below : List Frame} {meth : Method} {c : Code} {Γ : Gm} {A : Nat → Prop} {G : Gs} {o : Nat} {r : Rec} {v2 : Int32} {s0 : Int32} {s1 : Int32} {q : Int32} {fin : Int32} (C : Cx p s m args meth c yX10_shinesBy cX10_shinesBy 3 (some .int) Γ A) (hk : kd Γ o = some 10) (hf : bX10_shinesBy_26 r v2 s0 s1 = some q) (hq : (fun x => x = fin) q) : Wk p l e { frames := 2, cells := 0, slots := 0, locals := 43 } s m args below meth c Γ A (ug G o r) (some (.int fin)) 26 3 [(0, .ref (ad Γ o)), (2, .int v2)] [.int s0, .int s1, .ref (ad Γ o)] (ug G o r) := by
  intro H locs ls hw hS hl
  unfold bX10_shinesBy_26 at hf
  obtain ⟨hx, hb, hml, hr, hown, htw, hlocks, hE⟩ := id C
  have hown : s.vm.findClass RX10 = some m.cls := hown
  refine lv_imul hx hb dX10_shinesBy_26 ?_
  refine lv_aload_n hx hb dX10_shinesBy_27 rfl (lv_at hl 0 rfl) ?_
  refine lv_iload_n hx hb dX10_shinesBy_28 rfl (lv_at hl 1 rfl) ?_
  obtain ⟨z1, hz1, hf⟩ := bd hf
  refine cl_Vs (rest := [.int (s1 * s0), .ref (ad Γ o)]) (kX10_wear (l := l) (Γ := Γ) (A := A) (G := G) (o := o) hk hz1) ⟨hx, hb, hml, hown, htw⟩ hE hw hS (wo_me hw hk) (q0 := 0) rfl rfl mw1628 mw1630 mw84 mw129 mw1631 pdX10_wear ⟨Nat.le_of_ble_eq_true rfl, Nat.le_of_ble_eq_true rfl⟩ rfl rfl hl.1 (Nat.le_of_ble_eq_true rfl) dX10_shinesBy_29 (fun H locs hw hS => ?_)
  obtain ⟨z2, hz2, hf⟩ := bd hf
  refine cl_Vs (rest := []) (kX10_lastsFor (l := l) (Γ := Γ) (A := A) (G := G) (o := o) (r := r) hk hz2) ⟨hx, hb, hml, hown, htw⟩ hE hw hS (wo_me hw hk) (q0 := 0) rfl rfl mw1786 mw1788 mw109 mw129 mw1789 pdX10_lastsFor ⟨Nat.le_of_ble_eq_true rfl, Nat.le_of_ble_eq_true rfl⟩ rfl rfl hl.1 (Nat.le_of_ble_eq_true rfl) dX10_shinesBy_32 (fun H locs hw hS => ?_)
  obtain rfl := Option.some.inj hf
  subst hq
  exact rt_i C hw hS dX10_shinesBy_35

noncomputable def fX10_shinesBy (r : Rec) (v1 : Int32) (v2 : Int32) : Option Int32 :=
  (fX10_of r (3 + v2)).bind fun z3 => if (v1 / 30) = z3 then bX10_shinesBy_26 r v2 2 ((v1 - v1 / 30 * 30) + 1) else bX10_shinesBy_26 r v2 1 ((v1 - v1 / 30 * 30) + 1)
set_option maxRecDepth 100000 in
set_option maxHeartbeats 4000000 in
theorem wX10_shinesBy_e {p : Program} {l : Launch} {e : Env} {s : State} {m : MethodId} {args : Array Value} {below : List Frame} {meth : Method} {c : Code} {Γ : Gm} {A : Nat → Prop} {G : Gs} {o : Nat} {r : Rec} {v1 : Int32} {v2 : Int32} {q : Int32} {fin : Int32} (C : Cx p s m args meth c yX10_shinesBy cX10_shinesBy 3 (some .int) Γ A) (hk : kd Γ o = some 10) (hf : fX10_shinesBy r v1 v2 = some q) (hq : (fun x => x = fin) q) : Wk p l e { frames := 2, cells := 0, slots := 0, locals := 43 } s m args below meth c Γ A (ug G o r) (some (.int fin)) 0 3 [(0, .ref (ad Γ o)), (1, .int v1), (2, .int v2)] [] (ug G o r) := by
  intro H locs ls hw hS hl
  unfold fX10_shinesBy at hf
  obtain ⟨hx, hb, hml, hr, hown, htw, hlocks, hE⟩ := id C
  have hown : s.vm.findClass RX10 = some m.cls := hown
  refine lv_aload_n hx hb dX10_shinesBy_0 rfl (lv_at hl 0 rfl) ?_
  refine lv_iload_n hx hb dX10_shinesBy_1 rfl (lv_at hl 1 rfl) ?_
  refine lv_bipush (v := 30) hx hb dX10_shinesBy_2 (by decide) ?_
  refine lv_irem hx hb dX10_shinesBy_4 (by decide) ?_
  refine lv_iconst (v := 1) hx hb dX10_shinesBy_5 (by decide) ?_
  refine lv_iadd hx hb dX10_shinesBy_6 ?_
  refine lv_iload_n hx hb dX10_shinesBy_7 rfl (lv_at hl 1 rfl) ?_
  refine lv_bipush (v := 30) hx hb dX10_shinesBy_8 (by decide) ?_
  refine lv_idiv hx hb dX10_shinesBy_10 (by decide) ?_
  refine lv_aload_n hx hb dX10_shinesBy_11 rfl (lv_at hl 0 rfl) ?_
  refine lv_iconst (v := 3) hx hb dX10_shinesBy_12 (by decide) ?_
  refine lv_iload_n hx hb dX10_shinesBy_13 rfl (lv_at hl 2 rfl) ?_
  refine lv_iadd hx hb dX10_shinesBy_14 ?_
  obtain ⟨z3, hz3, hf⟩ := bd hf
  refine cl_Vs (rest := [.int (v1 / 30), .int ((v1 - v1 / 30 * 30) + 1), .ref (ad Γ o)]) (kX10_of (l := l) (Γ := Γ) (A := A) (G := G) (o := o) hk hz3) ⟨hx, hb, hml, hown, htw⟩ hE hw hS (wo_me hw hk) (q0 := 0) rfl rfl mw1541 mw1543 mw66 mw129 mw1544 pdX10_of ⟨Nat.le_of_ble_eq_true rfl, Nat.le_of_ble_eq_true rfl⟩ rfl rfl hl.1 (Nat.le_of_ble_eq_true rfl) dX10_shinesBy_15 (fun H locs hw hS => ?_)
  refine lv_icmp_ne (tgt := 25) hx hb dX10_shinesBy_18 (by decide) (fun c4 => ?_) (fun c4 => ?_)
  · have hf := ifn c4 hf
    refine lv_iconst (v := 1) hx hb dX10_shinesBy_25 (by decide) ?_
    exact wX10_shinesBy_26 C hk hf hq H locs ls hw hS (lv_sub hl [0, 2] rfl)
  · have hf := ifp c4 hf
    refine lv_iconst (v := 2) hx hb dX10_shinesBy_21 (by decide) ?_
    refine lv_goto (tgt := 26) hx hb dX10_shinesBy_22 (by decide) ?_
    exact wX10_shinesBy_26 C hk hf hq H locs ls hw hS (lv_sub hl [0, 2] rfl)

theorem kX10_shinesBy {l : Launch} {Γ : Gm} {A : Nat → Prop} {G : Gs} {o : Nat} {r : Rec} {v1 : Int32} {v2 : Int32} {fin : Int32} (hk : kd Γ o = some 10) (hf : fX10_shinesBy r v1 v2 = some fin) : Kt l yX10_shinesBy cX10_shinesBy 3 (some .int) 2 43 Γ A (ug G o r) (ug G o r) [.ref (ad Γ o), .int v1, .int v2] (some (.int fin)) :=
  kt_of (by decide) (Nat.le_of_ble_eq_true rfl) (fun p e s m args below meth c C => wX10_shinesBy_e C hk hf rfl)
theorem kgX10_shinesBy {l : Launch} {Γ : Gm} {A : Nat → Prop} {G : Gs} {o : Nat} {v1 : Int32} {v2 : Int32} {fin : Int32} (hk : kd Γ o = some 10) (hf : fX10_shinesBy (G o) v1 v2 = some fin) : Kt l yX10_shinesBy cX10_shinesBy 3 (some .int) 2 43 Γ A G G [.ref (ad Γ o), .int v1, .int v2] (some (.int fin)) := by
  have h := kX10_shinesBy (l := l) (A := A) (G := G) (r := G o) hk hf
  rw [ug_self] at h
  exact h
noncomputable def bX10_layLog_167 (r : Rec) (v3 : Int32) (s0 : Int32) (s1 : Int32) : Option ((Int32 × Rec) ⊕ (Rec × Int32)) :=
  (some (si r 43 (s1 + s0))).bind fun r1 => some (.inl (v3 + 1, r1))
set_option maxRecDepth 100000 in
set_option maxHeartbeats 4000000 in
theorem wX10_layLog_167 {p : Program} {l : Launch} {e : Env} {s : State} {m : MethodId} {args : Array Value} {below : List Frame} {meth : Method} {c : Code} {Γ : Gm} {A : Nat → Prop} {G : Gs} {o : Nat} {r : Rec} {v3 : Int32} {s0 : Int32} {s1 : Int32} {q : ((Int32 × Rec) ⊕ (Rec × Int32))} {fin : Rec × Int32} (C : Cx p s m args meth c yX10_layLog cX10_layLog 6 (some .boolean) Γ A) (hk : kd Γ o = some 10) (hf : bX10_layLog_167 r v3 s0 s1 = some q) (hq : (KC (fun st : Int32 × Rec => Wk p l e { frames := 3, cells := 0, slots := 0, locals := 66 } s m args below meth c Γ A (ug G o fin.1) (some (.int fin.2)) 64 6 [(0, .ref (ad Γ o)), (3, .int st.1)] [] (ug G o st.2)) (fun x => x = fin)) q) : Wk p l e { frames := 3, cells := 0, slots := 0, locals := 66 } s m args below meth c Γ A (ug G o fin.1) (some (.int fin.2)) 167 6 [(0, .ref (ad Γ o)), (3, .int v3)] [.int s0, .int s1, .ref (ad Γ o)] (ug G o r) := by
  intro H locs ls hw hS hl
  unfold bX10_layLog_167 at hf
  obtain ⟨hx, hb, hml, hr, hown, htw, hlocks, hE⟩ := id C
  have hown : s.vm.findClass RX10 = some m.cls := hown
  refine lv_iadd hx hb dX10_layLog_167 ?_
  obtain ⟨r1, hr1, hf⟩ := bd hf
  have hr1 := Option.some.inj hr1
  refine wo_put (C := RX10) (T := TX10) (N := 49) (v := .int (s1 + s0)) (ty := .int) hx hb htw uwX10 tyX10 tyX10_ok nmX10 hown hE hw hS hk rfl rfl 43 (by decide) (htw _ mw1286) (fun _ h9 => h9) rfl (tyX10_ok 43 (by decide)) rfl rfl (Nat.le_of_ble_eq_true rfl) (st10_43 hr1) dX10_layLog_168 (fun H locs hw hS => ?_)
  refine lv_iinc (v := v3 + 1) (lv' := [(3, .int (v3 + 1)), (0, .ref (ad Γ o))]) hx hb dX10_layLog_171 hl (k := 1) rfl (by rfl) (by decide) rfl (fun ls hl => ?_)
  refine lv_goto (tgt := 64) hx hb dX10_layLog_174 (by decide) ?_
  obtain rfl := Option.some.inj hf
  exact hq.1 _ rfl H locs ls hw hS (lv_sub hl [1, 0] rfl)

noncomputable def bX10_layLog_151 (r : Rec) (v3 : Int32) (v4 : Int32) (s0 : Int32) (s1 : Int32) : Option ((Int32 × Rec) ⊕ (Rec × Int32)) :=
  gd (inR s1 120) ((some (sa r 42 (upd (ga r 42) (Int32.toNatClampNeg s1) s0))).bind fun r3 => if v4 = 0 then bX10_layLog_167 r3 v3 0 (gi r3 43) else bX10_layLog_167 r3 v3 1 (gi r3 43))
set_option maxRecDepth 100000 in
set_option maxHeartbeats 4000000 in
theorem wX10_layLog_151 {p : Program} {l : Launch} {e : Env} {s : State} {m : MethodId} {args : Array Value} {below : List Frame} {meth : Method} {c : Code} {Γ : Gm} {A : Nat → Prop} {G : Gs} {o : Nat} {r : Rec} {v3 : Int32} {v4 : Int32} {s0 : Int32} {s1 : Int32} {q : ((Int32 × Rec) ⊕ (Rec × Int32))} {fin : Rec × Int32} (C : Cx p s m args meth c yX10_layLog cX10_layLog 6 (some .boolean) Γ A) (hk : kd Γ o = some 10) (hf : bX10_layLog_151 r v3 v4 s0 s1 = some q) (hq : (KC (fun st : Int32 × Rec => Wk p l e { frames := 3, cells := 0, slots := 0, locals := 66 } s m args below meth c Γ A (ug G o fin.1) (some (.int fin.2)) 64 6 [(0, .ref (ad Γ o)), (3, .int st.1)] [] (ug G o st.2)) (fun x => x = fin)) q) : Wk p l e { frames := 3, cells := 0, slots := 0, locals := 66 } s m args below meth c Γ A (ug G o fin.1) (some (.int fin.2)) 151 6 [(0, .ref (ad Γ o)), (3, .int v3), (4, .int v4)] [.int s0, .int s1, .ref (aa Γ o 42)] (ug G o r) := by
  intro H locs ls hw hS hl
  unfold bX10_layLog_151 at hf
  obtain ⟨hx, hb, hml, hr, hown, htw, hlocks, hE⟩ := id C
  have hown : s.vm.findClass RX10 = some m.cls := hown
  obtain ⟨g2, hf⟩ := gd_some hf
  obtain ⟨r3, hr3, hf⟩ := bd hf
  have hr3 := Option.some.inj hr3
  refine wo_iast hx hb hE hw hS hk (q0 := 20) rfl (inR_in g2) (sa10_42 hr3) dX10_layLog_151 (fun H locs hw hS => ?_)
  refine lv_aload_n hx hb dX10_layLog_152 rfl (lv_at hl 0 rfl) ?_
  refine lv_dup hx hb dX10_layLog_153 rfl ?_
  refine va_get (ci := 10) (v := .int (gi r3 43)) (C := RX10) (T := TX10) (N := 49) hx hb htw uwX10 hown hE.1 (wo_me hw hk) 0 rfl rfl 43 (by decide) (htw _ mw1286) (fun _ h9 => h9) rfl dX10_layLog_154 ?_
  refine lv_iload hx hb dX10_layLog_157 (lv_at hl 2 rfl) ?_
  refine lv_if_eq (tgt := 166) hx hb dX10_layLog_159 (by decide) (fun c4 => ?_) (fun c4 => ?_)
  · have hf := ifp c4 hf
    refine lv_iconst (v := 0) hx hb dX10_layLog_166 (by decide) ?_
    exact wX10_layLog_167 C hk hf hq H locs ls hw hS (lv_sub hl [0, 1] rfl)
  · have hf := ifn c4 hf
    refine lv_iconst (v := 1) hx hb dX10_layLog_162 (by decide) ?_
    refine lv_goto (tgt := 167) hx hb dX10_layLog_163 (by decide) ?_
    exact wX10_layLog_167 C hk hf hq H locs ls hw hS (lv_sub hl [0, 1] rfl)

noncomputable def bX10_layLog_133 (r : Rec) (v3 : Int32) (v4 : Int32) : Option ((Int32 × Rec) ⊕ (Rec × Int32)) :=
  if v4 = 0 then bX10_layLog_151 r v3 v4 0 (gi r 43) else bX10_layLog_151 r v3 v4 v3 (gi r 43)
set_option maxRecDepth 100000 in
set_option maxHeartbeats 4000000 in
theorem wX10_layLog_133 {p : Program} {l : Launch} {e : Env} {s : State} {m : MethodId} {args : Array Value} {below : List Frame} {meth : Method} {c : Code} {Γ : Gm} {A : Nat → Prop} {G : Gs} {o : Nat} {r : Rec} {v3 : Int32} {v4 : Int32} {q : ((Int32 × Rec) ⊕ (Rec × Int32))} {fin : Rec × Int32} (C : Cx p s m args meth c yX10_layLog cX10_layLog 6 (some .boolean) Γ A) (hk : kd Γ o = some 10) (hf : bX10_layLog_133 r v3 v4 = some q) (hq : (KC (fun st : Int32 × Rec => Wk p l e { frames := 3, cells := 0, slots := 0, locals := 66 } s m args below meth c Γ A (ug G o fin.1) (some (.int fin.2)) 64 6 [(0, .ref (ad Γ o)), (3, .int st.1)] [] (ug G o st.2)) (fun x => x = fin)) q) : Wk p l e { frames := 3, cells := 0, slots := 0, locals := 66 } s m args below meth c Γ A (ug G o fin.1) (some (.int fin.2)) 133 6 [(0, .ref (ad Γ o)), (3, .int v3), (4, .int v4)] [] (ug G o r) := by
  intro H locs ls hw hS hl
  unfold bX10_layLog_133 at hf
  obtain ⟨hx, hb, hml, hr, hown, htw, hlocks, hE⟩ := id C
  have hown : s.vm.findClass RX10 = some m.cls := hown
  refine lv_aload_n hx hb dX10_layLog_133 rfl (lv_at hl 0 rfl) ?_
  refine va_get (ci := 10) (v := .ref (aa Γ o 42)) (C := RX10) (T := TX10) (N := 49) hx hb htw uwX10 hown hE.1 (wo_me hw hk) 0 rfl rfl 42 (by decide) (htw _ mw1285) (fun _ h9 => h9) rfl dX10_layLog_134 ?_
  refine lv_aload_n hx hb dX10_layLog_137 rfl (lv_at hl 0 rfl) ?_
  refine va_get (ci := 10) (v := .int (gi r 43)) (C := RX10) (T := TX10) (N := 49) hx hb htw uwX10 hown hE.1 (wo_me hw hk) 0 rfl rfl 43 (by decide) (htw _ mw1286) (fun _ h9 => h9) rfl dX10_layLog_138 ?_
  refine lv_iload hx hb dX10_layLog_141 (lv_at hl 2 rfl) ?_
  refine lv_if_eq (tgt := 150) hx hb dX10_layLog_143 (by decide) (fun c5 => ?_) (fun c5 => ?_)
  · have hf := ifp c5 hf
    refine lv_iconst (v := 0) hx hb dX10_layLog_150 (by decide) ?_
    exact wX10_layLog_151 C hk hf hq H locs ls hw hS hl
  · have hf := ifn c5 hf
    refine lv_iload_n hx hb dX10_layLog_146 rfl (lv_at hl 1 rfl) ?_
    refine lv_goto (tgt := 151) hx hb dX10_layLog_147 (by decide) ?_
    exact wX10_layLog_151 C hk hf hq H locs ls hw hS hl

noncomputable def bX10_layLog_125 (r : Rec) (v3 : Int32) (v5 : Int32) (s0 : Int32) : Option ((Int32 × Int32) ⊕ ((Int32 × Rec) ⊕ (Rec × Int32))) :=
  some (.inl (s0, v5 + 1))
set_option maxRecDepth 100000 in
set_option maxHeartbeats 4000000 in
theorem wX10_layLog_125 {p : Program} {l : Launch} {e : Env} {s : State} {m : MethodId} {args : Array Value} {below : List Frame} {meth : Method} {c : Code} {Γ : Gm} {A : Nat → Prop} {G : Gs} {o : Nat} {r : Rec} {v3 : Int32} {v5 : Int32} {s0 : Int32} {q : ((Int32 × Int32) ⊕ ((Int32 × Rec) ⊕ (Rec × Int32)))} {fin : Rec × Int32} (C : Cx p s m args meth c yX10_layLog cX10_layLog 6 (some .boolean) Γ A) (hk : kd Γ o = some 10) (hf : bX10_layLog_125 r v3 v5 s0 = some q) (hq : (KC (fun st : Int32 × Int32 => Wk p l e { frames := 3, cells := 0, slots := 0, locals := 66 } s m args below meth c Γ A (ug G o fin.1) (some (.int fin.2)) 76 6 [(0, .ref (ad Γ o)), (3, .int v3), (4, .int st.1), (5, .int st.2)] [] (ug G o r)) (KC (fun st : Int32 × Rec => Wk p l e { frames := 3, cells := 0, slots := 0, locals := 66 } s m args below meth c Γ A (ug G o fin.1) (some (.int fin.2)) 64 6 [(0, .ref (ad Γ o)), (3, .int st.1)] [] (ug G o st.2)) (fun x => x = fin))) q) : Wk p l e { frames := 3, cells := 0, slots := 0, locals := 66 } s m args below meth c Γ A (ug G o fin.1) (some (.int fin.2)) 125 6 [(0, .ref (ad Γ o)), (3, .int v3), (5, .int v5)] [.int s0] (ug G o r) := by
  intro H locs ls hw hS hl
  unfold bX10_layLog_125 at hf
  obtain ⟨hx, hb, hml, hr, hown, htw, hlocks, hE⟩ := id C
  have hown : s.vm.findClass RX10 = some m.cls := hown
  refine lv_istore (lv' := [(4, .int s0), (0, .ref (ad Γ o)), (3, .int v3), (5, .int v5)]) hx hb dX10_layLog_125 hl (by decide) rfl (fun ls hl => ?_)
  refine lv_iinc (v := v5 + 1) (lv' := [(5, .int (v5 + 1)), (4, .int s0), (0, .ref (ad Γ o)), (3, .int v3)]) hx hb dX10_layLog_127 hl (k := 3) rfl (by rfl) (by decide) rfl (fun ls hl => ?_)
  refine lv_goto (tgt := 76) hx hb dX10_layLog_130 (by decide) ?_
  obtain rfl := Option.some.inj hf
  exact hq.1 _ rfl H locs ls hw hS (lv_sub hl [2, 3, 1, 0] rfl)

noncomputable def bX10_layLog_124 (r : Rec) (v3 : Int32) (v5 : Int32) : Option ((Int32 × Int32) ⊕ ((Int32 × Rec) ⊕ (Rec × Int32))) :=
  bX10_layLog_125 r v3 v5 0
set_option maxRecDepth 100000 in
set_option maxHeartbeats 4000000 in
theorem wX10_layLog_124 {p : Program} {l : Launch} {e : Env} {s : State} {m : MethodId} {args : Array Value} {below : List Frame} {meth : Method} {c : Code} {Γ : Gm} {A : Nat → Prop} {G : Gs} {o : Nat} {r : Rec} {v3 : Int32} {v5 : Int32} {q : ((Int32 × Int32) ⊕ ((Int32 × Rec) ⊕ (Rec × Int32)))} {fin : Rec × Int32} (C : Cx p s m args meth c yX10_layLog cX10_layLog 6 (some .boolean) Γ A) (hk : kd Γ o = some 10) (hf : bX10_layLog_124 r v3 v5 = some q) (hq : (KC (fun st : Int32 × Int32 => Wk p l e { frames := 3, cells := 0, slots := 0, locals := 66 } s m args below meth c Γ A (ug G o fin.1) (some (.int fin.2)) 76 6 [(0, .ref (ad Γ o)), (3, .int v3), (4, .int st.1), (5, .int st.2)] [] (ug G o r)) (KC (fun st : Int32 × Rec => Wk p l e { frames := 3, cells := 0, slots := 0, locals := 66 } s m args below meth c Γ A (ug G o fin.1) (some (.int fin.2)) 64 6 [(0, .ref (ad Γ o)), (3, .int st.1)] [] (ug G o st.2)) (fun x => x = fin))) q) : Wk p l e { frames := 3, cells := 0, slots := 0, locals := 66 } s m args below meth c Γ A (ug G o fin.1) (some (.int fin.2)) 124 6 [(0, .ref (ad Γ o)), (3, .int v3), (5, .int v5)] [] (ug G o r) := by
  intro H locs ls hw hS hl
  unfold bX10_layLog_124 at hf
  obtain ⟨hx, hb, hml, hr, hown, htw, hlocks, hE⟩ := id C
  have hown : s.vm.findClass RX10 = some m.cls := hown
  refine lv_iconst (v := 0) hx hb dX10_layLog_124 (by decide) ?_
  exact wX10_layLog_125 C hk hf hq H locs ls hw hS hl

noncomputable def bX10_layLog_76 (r : Rec) (v3 : Int32) (v4 : Int32) (v5 : Int32) : Option ((Int32 × Int32) ⊕ ((Int32 × Rec) ⊕ (Rec × Int32))) :=
  gd (inR (17 * (gi r 41)) 136) (if (ga r 9 (Int32.toNatClampNeg (17 * (gi r 41)))) ≤ v5 then out1 (bX10_layLog_133 r v3 v4) else if v4 = 0 then bX10_layLog_124 r v3 v5 else (fX10_factOf r v5 0).bind fun z8 => (fX10_shinesBy r v3 z8).bind fun z9 => (fX10_factOf r v5 1).bind fun z10 => if z9 = z10 then bX10_layLog_125 r v3 v5 1 else bX10_layLog_124 r v3 v5)
set_option maxRecDepth 100000 in
set_option maxHeartbeats 4000000 in
theorem wX10_layLog_76 {p : Program} {l : Launch} {e : Env} {s : State} {m : MethodId} {args : Array Value} {below : List Frame} {meth : Method} {c : Code} {Γ : Gm} {A : Nat → Prop} {G : Gs} {o : Nat} {r : Rec} {v3 : Int32} {v4 : Int32} {v5 : Int32} {q : ((Int32 × Int32) ⊕ ((Int32 × Rec) ⊕ (Rec × Int32)))} {fin : Rec × Int32} (C : Cx p s m args meth c yX10_layLog cX10_layLog 6 (some .boolean) Γ A) (hk : kd Γ o = some 10) (hf : bX10_layLog_76 r v3 v4 v5 = some q) (hq : (KC (fun st : Int32 × Int32 => Wk p l e { frames := 3, cells := 0, slots := 0, locals := 66 } s m args below meth c Γ A (ug G o fin.1) (some (.int fin.2)) 76 6 [(0, .ref (ad Γ o)), (3, .int v3), (4, .int st.1), (5, .int st.2)] [] (ug G o r)) (KC (fun st : Int32 × Rec => Wk p l e { frames := 3, cells := 0, slots := 0, locals := 66 } s m args below meth c Γ A (ug G o fin.1) (some (.int fin.2)) 64 6 [(0, .ref (ad Γ o)), (3, .int st.1)] [] (ug G o st.2)) (fun x => x = fin))) q) : Wk p l e { frames := 3, cells := 0, slots := 0, locals := 66 } s m args below meth c Γ A (ug G o fin.1) (some (.int fin.2)) 76 6 [(0, .ref (ad Γ o)), (3, .int v3), (4, .int v4), (5, .int v5)] [] (ug G o r) := by
  intro H locs ls hw hS hl
  unfold bX10_layLog_76 at hf
  obtain ⟨hx, hb, hml, hr, hown, htw, hlocks, hE⟩ := id C
  have hown : s.vm.findClass RX10 = some m.cls := hown
  refine lv_iload hx hb dX10_layLog_76 (lv_at hl 3 rfl) ?_
  refine lv_aload_n hx hb dX10_layLog_78 rfl (lv_at hl 0 rfl) ?_
  refine va_get (ci := 10) (v := .ref (aa Γ o 9)) (C := RX10) (T := TX10) (N := 49) hx hb htw uwX10 hown hE.1 (wo_me hw hk) 0 rfl rfl 9 (by decide) (htw _ mw1252) (fun _ h9 => h9) rfl dX10_layLog_79 ?_
  refine lv_bipush (v := 17) hx hb dX10_layLog_82 (by decide) ?_
  refine lv_aload_n hx hb dX10_layLog_84 rfl (lv_at hl 0 rfl) ?_
  refine va_get (ci := 10) (v := .int (gi r 41)) (C := RX10) (T := TX10) (N := 49) hx hb htw uwX10 hown hE.1 (wo_me hw hk) 0 rfl rfl 41 (by decide) (htw _ mw1284) (fun _ h9 => h9) rfl dX10_layLog_85 ?_
  refine lv_imul hx hb dX10_layLog_88 ?_
  obtain ⟨g6, hf⟩ := gd_some hf
  refine va_iald hx hb hE.1 (wo_me hw hk) 9 0 rfl rfl (inR_in g6) dX10_layLog_89 ?_
  refine lv_icmp_ge (tgt := 133) hx hb dX10_layLog_90 (by decide) (fun c13 => ?_) (fun c13 => ?_)
  · have hf := ifp c13 hf
    obtain ⟨q7, hfq7, eq7⟩ := out1_some hf
    subst eq7
    have hf := hfq7
    have hq := hq.2 _ rfl
    exact wX10_layLog_133 C hk hf hq H locs ls hw hS (lv_sub hl [0, 1, 2] rfl)
  · have hf := ifn c13 hf
    refine lv_iload hx hb dX10_layLog_93 (lv_at hl 2 rfl) ?_
    refine lv_if_eq (tgt := 124) hx hb dX10_layLog_95 (by decide) (fun c12 => ?_) (fun c12 => ?_)
    · have hf := ifp c12 hf
      exact wX10_layLog_124 C hk hf hq H locs ls hw hS (lv_sub hl [0, 1, 3] rfl)
    · have hf := ifn c12 hf
      refine lv_aload_n hx hb dX10_layLog_98 rfl (lv_at hl 0 rfl) ?_
      refine lv_iload_n hx hb dX10_layLog_99 rfl (lv_at hl 1 rfl) ?_
      refine lv_aload_n hx hb dX10_layLog_100 rfl (lv_at hl 0 rfl) ?_
      refine lv_iload hx hb dX10_layLog_101 (lv_at hl 3 rfl) ?_
      refine lv_iconst (v := 0) hx hb dX10_layLog_103 (by decide) ?_
      obtain ⟨z8, hz8, hf⟩ := bd hf
      refine cl_Vs (rest := [.int v3, .ref (ad Γ o)]) (kX10_factOf (l := l) (Γ := Γ) (A := A) (G := G) (o := o) hk hz8) ⟨hx, hb, hml, hown, htw⟩ hE hw hS (wo_me hw hk) (q0 := 0) rfl rfl mw1770 mw1772 mw106 mw129 mw1773 pdX10_factOf ⟨Nat.le_of_ble_eq_true rfl, Nat.le_of_ble_eq_true rfl⟩ rfl rfl hl.1 (Nat.le_of_ble_eq_true rfl) dX10_layLog_104 (fun H locs hw hS => ?_)
      obtain ⟨z9, hz9, hf⟩ := bd hf
      refine cl_Vs (rest := []) (kX10_shinesBy (l := l) (Γ := Γ) (A := A) (G := G) (o := o) hk hz9) ⟨hx, hb, hml, hown, htw⟩ hE hw hS (wo_me hw hk) (q0 := 0) rfl rfl mw1782 mw1784 mw108 mw129 mw1785 pdX10_shinesBy ⟨Nat.le_of_ble_eq_true rfl, Nat.le_of_ble_eq_true rfl⟩ rfl rfl hl.1 (Nat.le_of_ble_eq_true rfl) dX10_layLog_107 (fun H locs hw hS => ?_)
      refine lv_aload_n hx hb dX10_layLog_110 rfl (lv_at hl 0 rfl) ?_
      refine lv_iload hx hb dX10_layLog_111 (lv_at hl 3 rfl) ?_
      refine lv_iconst (v := 1) hx hb dX10_layLog_113 (by decide) ?_
      obtain ⟨z10, hz10, hf⟩ := bd hf
      refine cl_Vs (rest := [.int z9]) (kX10_factOf (l := l) (Γ := Γ) (A := A) (G := G) (o := o) hk hz10) ⟨hx, hb, hml, hown, htw⟩ hE hw hS (wo_me hw hk) (q0 := 0) rfl rfl mw1770 mw1772 mw106 mw129 mw1773 pdX10_factOf ⟨Nat.le_of_ble_eq_true rfl, Nat.le_of_ble_eq_true rfl⟩ rfl rfl hl.1 (Nat.le_of_ble_eq_true rfl) dX10_layLog_114 (fun H locs hw hS => ?_)
      refine lv_icmp_ne (tgt := 124) hx hb dX10_layLog_117 (by decide) (fun c11 => ?_) (fun c11 => ?_)
      · have hf := ifn c11 hf
        exact wX10_layLog_124 C hk hf hq H locs ls hw hS (lv_sub hl [0, 1, 3] rfl)
      · have hf := ifp c11 hf
        refine lv_iconst (v := 1) hx hb dX10_layLog_120 (by decide) ?_
        refine lv_goto (tgt := 125) hx hb dX10_layLog_121 (by decide) ?_
        exact wX10_layLog_125 C hk hf hq H locs ls hw hS (lv_sub hl [0, 1, 3] rfl)

set_option maxRecDepth 100000 in
set_option maxHeartbeats 4000000 in
theorem lwX10_layLog_76 {p : Program} {l : Launch} {e : Env} {s : State} {m : MethodId} {args : Array Value} {below : List Frame} {meth : Method} {c : Code} {Γ : Gm} {A : Nat → Prop} {G : Gs} {o : Nat} {r : Rec} {v3 : Int32} {v4 : Int32} {v5 : Int32} {q : ((Int32 × Rec) ⊕ (Rec × Int32))} {fin : Rec × Int32} (C : Cx p s m args meth c yX10_layLog cX10_layLog 6 (some .boolean) Γ A) (hk : kd Γ o = some 10) (hf : iter (fun st : Int32 × Int32 => bX10_layLog_76 r v3 st.1 st.2) (v4, v5) = some q) (hq : (KC (fun st : Int32 × Rec => Wk p l e { frames := 3, cells := 0, slots := 0, locals := 66 } s m args below meth c Γ A (ug G o fin.1) (some (.int fin.2)) 64 6 [(0, .ref (ad Γ o)), (3, .int st.1)] [] (ug G o st.2)) (fun x => x = fin)) q) : Wk p l e { frames := 3, cells := 0, slots := 0, locals := 66 } s m args below meth c Γ A (ug G o fin.1) (some (.int fin.2)) 76 6 [(0, .ref (ad Γ o)), (3, .int v3), (4, .int v4), (5, .int v5)] [] (ug G o r) := by
  intro H locs ls hw hS hl
  refine iter_walk (P := (fun st : Int32 × Int32 => Wk p l e { frames := 3, cells := 0, slots := 0, locals := 66 } s m args below meth c Γ A (ug G o fin.1) (some (.int fin.2)) 76 6 [(0, .ref (ad Γ o)), (3, .int v3), (4, .int st.1), (5, .int st.2)] [] (ug G o r))) (K := (KC (fun st : Int32 × Rec => Wk p l e { frames := 3, cells := 0, slots := 0, locals := 66 } s m args below meth c Γ A (ug G o fin.1) (some (.int fin.2)) 64 6 [(0, .ref (ad Γ o)), (3, .int st.1)] [] (ug G o st.2)) (fun x => x = fin))) (fun st q hq1 h1 h2 => ?_) hf hq H locs ls hw hS hl
  exact wX10_layLog_76 (v4 := st.1) (v5 := st.2) C hk hq1 ⟨h1, h2⟩

noncomputable def bX10_layLog_64 (r : Rec) (v3 : Int32) : Option ((Int32 × Rec) ⊕ (Rec × Int32)) :=
  if 120 ≤ v3 then some (.inr ((r, 1))) else iter (fun st : Int32 × Int32 => bX10_layLog_76 r v3 st.1 st.2) (1, 0)
set_option maxRecDepth 100000 in
set_option maxHeartbeats 4000000 in
theorem wX10_layLog_64 {p : Program} {l : Launch} {e : Env} {s : State} {m : MethodId} {args : Array Value} {below : List Frame} {meth : Method} {c : Code} {Γ : Gm} {A : Nat → Prop} {G : Gs} {o : Nat} {r : Rec} {v3 : Int32} {q : ((Int32 × Rec) ⊕ (Rec × Int32))} {fin : Rec × Int32} (C : Cx p s m args meth c yX10_layLog cX10_layLog 6 (some .boolean) Γ A) (hk : kd Γ o = some 10) (hf : bX10_layLog_64 r v3 = some q) (hq : (KC (fun st : Int32 × Rec => Wk p l e { frames := 3, cells := 0, slots := 0, locals := 66 } s m args below meth c Γ A (ug G o fin.1) (some (.int fin.2)) 64 6 [(0, .ref (ad Γ o)), (3, .int st.1)] [] (ug G o st.2)) (fun x => x = fin)) q) : Wk p l e { frames := 3, cells := 0, slots := 0, locals := 66 } s m args below meth c Γ A (ug G o fin.1) (some (.int fin.2)) 64 6 [(0, .ref (ad Γ o)), (3, .int v3)] [] (ug G o r) := by
  intro H locs ls hw hS hl
  unfold bX10_layLog_64 at hf
  obtain ⟨hx, hb, hml, hr, hown, htw, hlocks, hE⟩ := id C
  have hown : s.vm.findClass RX10 = some m.cls := hown
  refine lv_iload_n hx hb dX10_layLog_64 rfl (lv_at hl 1 rfl) ?_
  refine lv_bipush (v := 120) hx hb dX10_layLog_65 (by decide) ?_
  refine lv_icmp_ge (tgt := 177) hx hb dX10_layLog_67 (by decide) (fun c14 => ?_) (fun c14 => ?_)
  · have hf := ifp c14 hf
    refine lv_iconst (v := 1) hx hb dX10_layLog_177 (by decide) ?_
    obtain rfl := Option.some.inj hf
    have hq := hq.2 _ rfl
    subst hq
    exact rt_z C (Or.inr rfl) hw hS dX10_layLog_178
  · have hf := ifn c14 hf
    refine lv_iconst (v := 1) hx hb dX10_layLog_70 (by decide) ?_
    refine lv_istore (lv' := [(4, .int 1), (0, .ref (ad Γ o)), (3, .int v3)]) hx hb dX10_layLog_71 hl (by decide) rfl (fun ls hl => ?_)
    refine lv_iconst (v := 0) hx hb dX10_layLog_73 (by decide) ?_
    refine lv_istore (lv' := [(5, .int 0), (4, .int 1), (0, .ref (ad Γ o)), (3, .int v3)]) hx hb dX10_layLog_74 hl (by decide) rfl (fun ls hl => ?_)
    exact lwX10_layLog_76 C hk hf hq H locs ls hw hS (lv_sub hl [2, 3, 1, 0] rfl)

set_option maxRecDepth 100000 in
set_option maxHeartbeats 4000000 in
theorem lwX10_layLog_64 {p : Program} {l : Launch} {e : Env} {s : State} {m : MethodId} {args : Array Value} {below : List Frame} {meth : Method} {c : Code} {Γ : Gm} {A : Nat → Prop} {G : Gs} {o : Nat} {r : Rec} {v3 : Int32} {q : (Rec × Int32)} {fin : Rec × Int32} (C : Cx p s m args meth c yX10_layLog cX10_layLog 6 (some .boolean) Γ A) (hk : kd Γ o = some 10) (hf : iter (fun st : Int32 × Rec => bX10_layLog_64 st.2 st.1) (v3, r) = some q) (hq : (fun x => x = fin) q) : Wk p l e { frames := 3, cells := 0, slots := 0, locals := 66 } s m args below meth c Γ A (ug G o fin.1) (some (.int fin.2)) 64 6 [(0, .ref (ad Γ o)), (3, .int v3)] [] (ug G o r) := by
  intro H locs ls hw hS hl
  refine iter_walk (P := (fun st : Int32 × Rec => Wk p l e { frames := 3, cells := 0, slots := 0, locals := 66 } s m args below meth c Γ A (ug G o fin.1) (some (.int fin.2)) 64 6 [(0, .ref (ad Γ o)), (3, .int st.1)] [] (ug G o st.2))) (K := (fun x => x = fin)) (fun st q hq1 h1 h2 => ?_) hf hq H locs ls hw hS hl
  exact wX10_layLog_64 (r := st.2) (v3 := st.1) C hk hq1 ⟨h1, h2⟩

noncomputable def bX10_layLog_62 (r : Rec) : Option (Rec × Int32) :=
  iter (fun st : Int32 × Rec => bX10_layLog_64 st.2 st.1) (0, r)
set_option maxRecDepth 100000 in
set_option maxHeartbeats 4000000 in
theorem wX10_layLog_62 {p : Program} {l : Launch} {e : Env} {s : State} {m : MethodId} {args : Array Value} {below : List Frame} {meth : Method} {c : Code} {Γ : Gm} {A : Nat → Prop} {G : Gs} {o : Nat} {r : Rec} {q : (Rec × Int32)} {fin : Rec × Int32} (C : Cx p s m args meth c yX10_layLog cX10_layLog 6 (some .boolean) Γ A) (hk : kd Γ o = some 10) (hf : bX10_layLog_62 r = some q) (hq : (fun x => x = fin) q) : Wk p l e { frames := 3, cells := 0, slots := 0, locals := 66 } s m args below meth c Γ A (ug G o fin.1) (some (.int fin.2)) 62 6 [(0, .ref (ad Γ o))] [] (ug G o r) := by
  intro H locs ls hw hS hl
  unfold bX10_layLog_62 at hf
  obtain ⟨hx, hb, hml, hr, hown, htw, hlocks, hE⟩ := id C
  have hown : s.vm.findClass RX10 = some m.cls := hown
  refine lv_iconst (v := 0) hx hb dX10_layLog_62 (by decide) ?_
  refine lv_istore_n (lv' := [(3, .int 0), (0, .ref (ad Γ o))]) hx hb dX10_layLog_63 rfl hl (by decide) rfl (fun ls hl => ?_)
  exact lwX10_layLog_64 C hk hf hq H locs ls hw hS (lv_sub hl [1, 0] rfl)

noncomputable def bX10_layLog_25 (r : Rec) (v3 : Int32) : Option (Int32 ⊕ (Rec × Int32)) :=
  gd (inR (17 * (gi r 41)) 136) (if (ga r 9 (Int32.toNatClampNeg (17 * (gi r 41)))) ≤ v3 then out1 (bX10_layLog_62 r) else (fX10_factOf r v3 0).bind fun z17 => (fX10_isPiece r z17).bind fun z18 => if z18 = 0 then some (.inr ((r, 0))) else some (.inl (v3 + 1)))
set_option maxRecDepth 100000 in
set_option maxHeartbeats 4000000 in
theorem wX10_layLog_25 {p : Program} {l : Launch} {e : Env} {s : State} {m : MethodId} {args : Array Value} {below : List Frame} {meth : Method} {c : Code} {Γ : Gm} {A : Nat → Prop} {G : Gs} {o : Nat} {r : Rec} {v3 : Int32} {q : (Int32 ⊕ (Rec × Int32))} {fin : Rec × Int32} (C : Cx p s m args meth c yX10_layLog cX10_layLog 6 (some .boolean) Γ A) (hk : kd Γ o = some 10) (hf : bX10_layLog_25 r v3 = some q) (hq : (KC (fun st : Int32 => Wk p l e { frames := 3, cells := 0, slots := 0, locals := 66 } s m args below meth c Γ A (ug G o fin.1) (some (.int fin.2)) 25 6 [(0, .ref (ad Γ o)), (3, .int st)] [] (ug G o r)) (fun x => x = fin)) q) : Wk p l e { frames := 3, cells := 0, slots := 0, locals := 66 } s m args below meth c Γ A (ug G o fin.1) (some (.int fin.2)) 25 6 [(0, .ref (ad Γ o)), (3, .int v3)] [] (ug G o r) := by
  intro H locs ls hw hS hl
  unfold bX10_layLog_25 at hf
  obtain ⟨hx, hb, hml, hr, hown, htw, hlocks, hE⟩ := id C
  have hown : s.vm.findClass RX10 = some m.cls := hown
  refine lv_iload_n hx hb dX10_layLog_25 rfl (lv_at hl 1 rfl) ?_
  refine lv_aload_n hx hb dX10_layLog_26 rfl (lv_at hl 0 rfl) ?_
  refine va_get (ci := 10) (v := .ref (aa Γ o 9)) (C := RX10) (T := TX10) (N := 49) hx hb htw uwX10 hown hE.1 (wo_me hw hk) 0 rfl rfl 9 (by decide) (htw _ mw1252) (fun _ h9 => h9) rfl dX10_layLog_27 ?_
  refine lv_bipush (v := 17) hx hb dX10_layLog_30 (by decide) ?_
  refine lv_aload_n hx hb dX10_layLog_32 rfl (lv_at hl 0 rfl) ?_
  refine va_get (ci := 10) (v := .int (gi r 41)) (C := RX10) (T := TX10) (N := 49) hx hb htw uwX10 hown hE.1 (wo_me hw hk) 0 rfl rfl 41 (by decide) (htw _ mw1284) (fun _ h9 => h9) rfl dX10_layLog_33 ?_
  refine lv_imul hx hb dX10_layLog_36 ?_
  obtain ⟨g15, hf⟩ := gd_some hf
  refine va_iald hx hb hE.1 (wo_me hw hk) 9 0 rfl rfl (inR_in g15) dX10_layLog_37 ?_
  refine lv_icmp_ge (tgt := 62) hx hb dX10_layLog_38 (by decide) (fun c20 => ?_) (fun c20 => ?_)
  · have hf := ifp c20 hf
    obtain ⟨q16, hfq16, eq16⟩ := out1_some hf
    subst eq16
    have hf := hfq16
    have hq := hq.2 _ rfl
    exact wX10_layLog_62 C hk hf hq H locs ls hw hS (lv_sub hl [0] rfl)
  · have hf := ifn c20 hf
    refine lv_aload_n hx hb dX10_layLog_41 rfl (lv_at hl 0 rfl) ?_
    refine lv_aload_n hx hb dX10_layLog_42 rfl (lv_at hl 0 rfl) ?_
    refine lv_iload_n hx hb dX10_layLog_43 rfl (lv_at hl 1 rfl) ?_
    refine lv_iconst (v := 0) hx hb dX10_layLog_44 (by decide) ?_
    obtain ⟨z17, hz17, hf⟩ := bd hf
    refine cl_Vs (rest := [.ref (ad Γ o)]) (kX10_factOf (l := l) (Γ := Γ) (A := A) (G := G) (o := o) hk hz17) ⟨hx, hb, hml, hown, htw⟩ hE hw hS (wo_me hw hk) (q0 := 0) rfl rfl mw1770 mw1772 mw106 mw129 mw1773 pdX10_factOf ⟨Nat.le_of_ble_eq_true rfl, Nat.le_of_ble_eq_true rfl⟩ rfl rfl hl.1 (Nat.le_of_ble_eq_true rfl) dX10_layLog_45 (fun H locs hw hS => ?_)
    obtain ⟨z18, hz18, hf⟩ := bd hf
    refine cl_Vs (rest := []) (kX10_isPiece (l := l) (Γ := Γ) (A := A) (G := G) (o := o) hk hz18) ⟨hx, hb, hml, hown, htw⟩ hE hw hS (wo_me hw hk) (q0 := 0) rfl rfl mw1553 mw1555 mw68 mw129 mw1556 pdX10_isPiece ⟨Nat.le_of_ble_eq_true rfl, Nat.le_of_ble_eq_true rfl⟩ rfl rfl hl.1 (Nat.le_of_ble_eq_true rfl) dX10_layLog_48 (fun H locs hw hS => ?_)
    refine lv_if_ne (tgt := 56) hx hb dX10_layLog_51 (by decide) (fun c19 => ?_) (fun c19 => ?_)
    · have hf := ifn c19 hf
      refine lv_iinc (v := v3 + 1) (lv' := [(3, .int (v3 + 1)), (0, .ref (ad Γ o))]) hx hb dX10_layLog_56 hl (k := 1) rfl (by rfl) (by decide) rfl (fun ls hl => ?_)
      refine lv_goto (tgt := 25) hx hb dX10_layLog_59 (by decide) ?_
      obtain rfl := Option.some.inj hf
      exact hq.1 _ rfl H locs ls hw hS (lv_sub hl [1, 0] rfl)
    · have hf := ifp c19 hf
      refine lv_iconst (v := 0) hx hb dX10_layLog_54 (by decide) ?_
      obtain rfl := Option.some.inj hf
      have hq := hq.2 _ rfl
      subst hq
      exact rt_z C (Or.inl rfl) hw hS dX10_layLog_55

set_option maxRecDepth 100000 in
set_option maxHeartbeats 4000000 in
theorem lwX10_layLog_25 {p : Program} {l : Launch} {e : Env} {s : State} {m : MethodId} {args : Array Value} {below : List Frame} {meth : Method} {c : Code} {Γ : Gm} {A : Nat → Prop} {G : Gs} {o : Nat} {r : Rec} {v3 : Int32} {q : (Rec × Int32)} {fin : Rec × Int32} (C : Cx p s m args meth c yX10_layLog cX10_layLog 6 (some .boolean) Γ A) (hk : kd Γ o = some 10) (hf : iter (fun st : Int32 => bX10_layLog_25 r st) v3 = some q) (hq : (fun x => x = fin) q) : Wk p l e { frames := 3, cells := 0, slots := 0, locals := 66 } s m args below meth c Γ A (ug G o fin.1) (some (.int fin.2)) 25 6 [(0, .ref (ad Γ o)), (3, .int v3)] [] (ug G o r) := by
  intro H locs ls hw hS hl
  refine iter_walk (P := (fun st : Int32 => Wk p l e { frames := 3, cells := 0, slots := 0, locals := 66 } s m args below meth c Γ A (ug G o fin.1) (some (.int fin.2)) 25 6 [(0, .ref (ad Γ o)), (3, .int st)] [] (ug G o r))) (K := (fun x => x = fin)) (fun st q hq1 h1 h2 => ?_) hf hq H locs ls hw hS hl
  exact wX10_layLog_25 (v3 := st) C hk hq1 ⟨h1, h2⟩

noncomputable def fX10_layLog (r : Rec) (v1 : Int32) (v2 : Int32) : Option (Rec × Int32) :=
  (fX10_hasLog r v2).bind fun z21 => if z21.2 = 0 then some ((z21.1, 0)) else (fX10_hand z21.1 v1).bind fun z22 => if z22.2 = 0 then some ((z22.1, 0)) else (some (si z22.1 43 0)).bind fun r23 => iter (fun st : Int32 => bX10_layLog_25 r23 st) 0
set_option maxRecDepth 100000 in
set_option maxHeartbeats 4000000 in
theorem wX10_layLog_e {p : Program} {l : Launch} {e : Env} {s : State} {m : MethodId} {args : Array Value} {below : List Frame} {meth : Method} {c : Code} {Γ : Gm} {A : Nat → Prop} {G : Gs} {o : Nat} {r : Rec} {v1 : Int32} {v2 : Int32} {q : (Rec × Int32)} {fin : Rec × Int32} (C : Cx p s m args meth c yX10_layLog cX10_layLog 6 (some .boolean) Γ A) (hk : kd Γ o = some 10) (hf : fX10_layLog r v1 v2 = some q) (hq : (fun x => x = fin) q) : Wk p l e { frames := 3, cells := 0, slots := 0, locals := 66 } s m args below meth c Γ A (ug G o fin.1) (some (.int fin.2)) 0 6 [(0, .ref (ad Γ o)), (1, .int v1), (2, .int v2)] [] (ug G o r) := by
  intro H locs ls hw hS hl
  unfold fX10_layLog at hf
  obtain ⟨hx, hb, hml, hr, hown, htw, hlocks, hE⟩ := id C
  have hown : s.vm.findClass RX10 = some m.cls := hown
  refine lv_aload_n hx hb dX10_layLog_0 rfl (lv_at hl 0 rfl) ?_
  refine lv_iload_n hx hb dX10_layLog_1 rfl (lv_at hl 2 rfl) ?_
  obtain ⟨z21, hz21, hf⟩ := bd hf
  refine cl_Vs (rest := []) (kX10_hasLog (l := l) (Γ := Γ) (A := A) (G := G) (o := o) hk hz21) ⟨hx, hb, hml, hown, htw⟩ hE hw hS (wo_me hw hk) (q0 := 0) rfl rfl mw1766 mw1768 mw105 mw129 mw1769 pdX10_hasLog ⟨Nat.le_of_ble_eq_true rfl, Nat.le_of_ble_eq_true rfl⟩ rfl rfl hl.1 (Nat.le_of_ble_eq_true rfl) dX10_layLog_2 (fun H locs hw hS => ?_)
  refine lv_if_eq (tgt := 16) hx hb dX10_layLog_5 (by decide) (fun c25 => ?_) (fun c25 => ?_)
  · have hf := ifp c25 hf
    refine lv_iconst (v := 0) hx hb dX10_layLog_16 (by decide) ?_
    obtain rfl := Option.some.inj hf
    subst hq
    exact rt_z C (Or.inl rfl) hw hS dX10_layLog_17
  · have hf := ifn c25 hf
    refine lv_aload_n hx hb dX10_layLog_8 rfl (lv_at hl 0 rfl) ?_
    refine lv_iload_n hx hb dX10_layLog_9 rfl (lv_at hl 1 rfl) ?_
    obtain ⟨z22, hz22, hf⟩ := bd hf
    refine cl_Vs (rest := []) (kX10_hand (l := l) (Γ := Γ) (A := A) (G := G) (o := o) hk hz22) ⟨hx, hb, hml, hown, htw⟩ hE hw hS (wo_me hw hk) (q0 := 0) rfl rfl mw1537 mw1539 mw65 mw129 mw1540 pdX10_hand ⟨Nat.le_of_ble_eq_true rfl, Nat.le_of_ble_eq_true rfl⟩ rfl rfl hl.1 (Nat.le_of_ble_eq_true rfl) dX10_layLog_10 (fun H locs hw hS => ?_)
    refine lv_if_ne (tgt := 18) hx hb dX10_layLog_13 (by decide) (fun c24 => ?_) (fun c24 => ?_)
    · have hf := ifn c24 hf
      refine lv_aload_n hx hb dX10_layLog_18 rfl (lv_at hl 0 rfl) ?_
      refine lv_iconst (v := 0) hx hb dX10_layLog_19 (by decide) ?_
      obtain ⟨r23, hr23, hf⟩ := bd hf
      have hr23 := Option.some.inj hr23
      refine wo_put (C := RX10) (T := TX10) (N := 49) (v := .int 0) (ty := .int) hx hb htw uwX10 tyX10 tyX10_ok nmX10 hown hE hw hS hk rfl rfl 43 (by decide) (htw _ mw1286) (fun _ h9 => h9) rfl (tyX10_ok 43 (by decide)) rfl rfl (Nat.le_of_ble_eq_true rfl) (st10_43 hr23) dX10_layLog_20 (fun H locs hw hS => ?_)
      refine lv_iconst (v := 0) hx hb dX10_layLog_23 (by decide) ?_
      refine lv_istore_n (lv' := [(3, .int 0), (0, .ref (ad Γ o)), (1, .int v1), (2, .int v2)]) hx hb dX10_layLog_24 rfl hl (by decide) rfl (fun ls hl => ?_)
      exact lwX10_layLog_25 C hk hf hq H locs ls hw hS (lv_sub hl [1, 0] rfl)
    · have hf := ifp c24 hf
      refine lv_iconst (v := 0) hx hb dX10_layLog_16 (by decide) ?_
      obtain rfl := Option.some.inj hf
      subst hq
      exact rt_z C (Or.inl rfl) hw hS dX10_layLog_17

theorem kX10_layLog {l : Launch} {Γ : Gm} {A : Nat → Prop} {G : Gs} {o : Nat} {r : Rec} {v1 : Int32} {v2 : Int32} {fin : Rec × Int32} (hk : kd Γ o = some 10) (hf : fX10_layLog r v1 v2 = some fin) : Kt l yX10_layLog cX10_layLog 6 (some .boolean) 3 66 Γ A (ug G o r) (ug G o fin.1) [.ref (ad Γ o), .int v1, .int v2] (some (.int fin.2)) :=
  kt_of (by decide) (Nat.le_of_ble_eq_true rfl) (fun p e s m args below meth c C => wX10_layLog_e C hk hf rfl)
theorem kgX10_layLog {l : Launch} {Γ : Gm} {A : Nat → Prop} {G : Gs} {o : Nat} {v1 : Int32} {v2 : Int32} {fin : Rec × Int32} (hk : kd Γ o = some 10) (hf : fX10_layLog (G o) v1 v2 = some fin) : Kt l yX10_layLog cX10_layLog 6 (some .boolean) 3 66 Γ A G (ug G o fin.1) [.ref (ad Γ o), .int v1, .int v2] (some (.int fin.2)) := by
  have h := kX10_layLog (l := l) (A := A) (G := G) (r := G o) hk hf
  rw [ug_self] at h
  exact h
noncomputable def bX10_sureOf_85 (r : Rec) (v1 : Int32) (v3 : Int32) (s0 : Int32) : Option ((Int32 × Int32) ⊕ Int32) :=
  some (.inl (s0, v3 + 1))
set_option maxRecDepth 100000 in
set_option maxHeartbeats 4000000 in
theorem wX10_sureOf_85 {p : Program} {l : Launch} {e : Env} {s : State} {m : MethodId} {args : Array Value} {below : List Frame} {meth : Method} {c : Code} {Γ : Gm} {A : Nat → Prop} {G : Gs} {o : Nat} {r : Rec} {v1 : Int32} {v3 : Int32} {s0 : Int32} {q : ((Int32 × Int32) ⊕ Int32)} {fin : Int32} (C : Cx p s m args meth c yX10_sureOf cX10_sureOf 4 (some .int) Γ A) (hk : kd Γ o = some 10) (hf : bX10_sureOf_85 r v1 v3 s0 = some q) (hq : (KC (fun st : Int32 × Int32 => Wk p l e { frames := 0, cells := 0, slots := 0, locals := 0 } s m args below meth c Γ A (ug G o r) (some (.int fin)) 41 4 [(0, .ref (ad Γ o)), (1, .int v1), (2, .int st.1), (3, .int st.2)] [] (ug G o r)) (fun x => x = fin)) q) : Wk p l e { frames := 0, cells := 0, slots := 0, locals := 0 } s m args below meth c Γ A (ug G o r) (some (.int fin)) 85 4 [(0, .ref (ad Γ o)), (1, .int v1), (3, .int v3)] [.int s0] (ug G o r) := by
  intro H locs ls hw hS hl
  unfold bX10_sureOf_85 at hf
  obtain ⟨hx, hb, hml, hr, hown, htw, hlocks, hE⟩ := id C
  have hown : s.vm.findClass RX10 = some m.cls := hown
  refine lv_istore_n (lv' := [(2, .int s0), (0, .ref (ad Γ o)), (1, .int v1), (3, .int v3)]) hx hb dX10_sureOf_85 rfl hl (by decide) rfl (fun ls hl => ?_)
  refine lv_iinc (v := v3 + 1) (lv' := [(3, .int (v3 + 1)), (2, .int s0), (0, .ref (ad Γ o)), (1, .int v1)]) hx hb dX10_sureOf_86 hl (k := 3) rfl (by rfl) (by decide) rfl (fun ls hl => ?_)
  refine lv_goto (tgt := 41) hx hb dX10_sureOf_89 (by decide) ?_
  obtain rfl := Option.some.inj hf
  exact hq.1 _ rfl H locs ls hw hS (lv_sub hl [2, 3, 1, 0] rfl)

noncomputable def bX10_sureOf_76 (r : Rec) (v1 : Int32) (v2 : Int32) (v3 : Int32) (s0 : Int32) : Option ((Int32 × Int32) ⊕ Int32) :=
  if s0 = v2 then bX10_sureOf_85 r v1 v3 v2 else bX10_sureOf_85 r v1 v3 (-1)
set_option maxRecDepth 100000 in
set_option maxHeartbeats 4000000 in
theorem wX10_sureOf_76 {p : Program} {l : Launch} {e : Env} {s : State} {m : MethodId} {args : Array Value} {below : List Frame} {meth : Method} {c : Code} {Γ : Gm} {A : Nat → Prop} {G : Gs} {o : Nat} {r : Rec} {v1 : Int32} {v2 : Int32} {v3 : Int32} {s0 : Int32} {q : ((Int32 × Int32) ⊕ Int32)} {fin : Int32} (C : Cx p s m args meth c yX10_sureOf cX10_sureOf 4 (some .int) Γ A) (hk : kd Γ o = some 10) (hf : bX10_sureOf_76 r v1 v2 v3 s0 = some q) (hq : (KC (fun st : Int32 × Int32 => Wk p l e { frames := 0, cells := 0, slots := 0, locals := 0 } s m args below meth c Γ A (ug G o r) (some (.int fin)) 41 4 [(0, .ref (ad Γ o)), (1, .int v1), (2, .int st.1), (3, .int st.2)] [] (ug G o r)) (fun x => x = fin)) q) : Wk p l e { frames := 0, cells := 0, slots := 0, locals := 0 } s m args below meth c Γ A (ug G o r) (some (.int fin)) 76 4 [(0, .ref (ad Γ o)), (1, .int v1), (2, .int v2), (3, .int v3)] [.int s0] (ug G o r) := by
  intro H locs ls hw hS hl
  unfold bX10_sureOf_76 at hf
  obtain ⟨hx, hb, hml, hr, hown, htw, hlocks, hE⟩ := id C
  have hown : s.vm.findClass RX10 = some m.cls := hown
  refine lv_iload_n hx hb dX10_sureOf_76 rfl (lv_at hl 2 rfl) ?_
  refine lv_icmp_ne (tgt := 84) hx hb dX10_sureOf_77 (by decide) (fun c1 => ?_) (fun c1 => ?_)
  · have hf := ifn c1 hf
    refine lv_iconst (v := (-1)) hx hb dX10_sureOf_84 (by decide) ?_
    exact wX10_sureOf_85 C hk hf hq H locs ls hw hS (lv_sub hl [0, 1, 3] rfl)
  · have hf := ifp c1 hf
    refine lv_iload_n hx hb dX10_sureOf_80 rfl (lv_at hl 2 rfl) ?_
    refine lv_goto (tgt := 85) hx hb dX10_sureOf_81 (by decide) ?_
    exact wX10_sureOf_85 C hk hf hq H locs ls hw hS (lv_sub hl [0, 1, 3] rfl)

noncomputable def bX10_sureOf_41 (r : Rec) (v1 : Int32) (v2 : Int32) (v3 : Int32) : Option ((Int32 × Int32) ⊕ Int32) :=
  if (gi r 43) ≤ v3 then some (.inr (v2)) else if v1 = 0 then gd (inR v3 120) ((some (ga r 42 (Int32.toNatClampNeg v3))).bind fun x3 => bX10_sureOf_76 r v1 v2 v3 ((x3 - x3 / 30 * 30) + 1)) else gd (inR v3 120) (bX10_sureOf_76 r v1 v2 v3 ((ga r 42 (Int32.toNatClampNeg v3)) / 30))
set_option maxRecDepth 100000 in
set_option maxHeartbeats 4000000 in
theorem wX10_sureOf_41 {p : Program} {l : Launch} {e : Env} {s : State} {m : MethodId} {args : Array Value} {below : List Frame} {meth : Method} {c : Code} {Γ : Gm} {A : Nat → Prop} {G : Gs} {o : Nat} {r : Rec} {v1 : Int32} {v2 : Int32} {v3 : Int32} {q : ((Int32 × Int32) ⊕ Int32)} {fin : Int32} (C : Cx p s m args meth c yX10_sureOf cX10_sureOf 4 (some .int) Γ A) (hk : kd Γ o = some 10) (hf : bX10_sureOf_41 r v1 v2 v3 = some q) (hq : (KC (fun st : Int32 × Int32 => Wk p l e { frames := 0, cells := 0, slots := 0, locals := 0 } s m args below meth c Γ A (ug G o r) (some (.int fin)) 41 4 [(0, .ref (ad Γ o)), (1, .int v1), (2, .int st.1), (3, .int st.2)] [] (ug G o r)) (fun x => x = fin)) q) : Wk p l e { frames := 0, cells := 0, slots := 0, locals := 0 } s m args below meth c Γ A (ug G o r) (some (.int fin)) 41 4 [(0, .ref (ad Γ o)), (1, .int v1), (2, .int v2), (3, .int v3)] [] (ug G o r) := by
  intro H locs ls hw hS hl
  unfold bX10_sureOf_41 at hf
  obtain ⟨hx, hb, hml, hr, hown, htw, hlocks, hE⟩ := id C
  have hown : s.vm.findClass RX10 = some m.cls := hown
  refine lv_iload_n hx hb dX10_sureOf_41 rfl (lv_at hl 3 rfl) ?_
  refine lv_aload_n hx hb dX10_sureOf_42 rfl (lv_at hl 0 rfl) ?_
  refine va_get (ci := 10) (v := .int (gi r 43)) (C := RX10) (T := TX10) (N := 49) hx hb htw uwX10 hown hE.1 (wo_me hw hk) 0 rfl rfl 43 (by decide) (htw _ mw1286) (fun _ h9 => h9) rfl dX10_sureOf_43 ?_
  refine lv_icmp_ge (tgt := 92) hx hb dX10_sureOf_46 (by decide) (fun c6 => ?_) (fun c6 => ?_)
  · have hf := ifp c6 hf
    refine lv_iload_n hx hb dX10_sureOf_92 rfl (lv_at hl 2 rfl) ?_
    obtain rfl := Option.some.inj hf
    have hq := hq.2 _ rfl
    subst hq
    exact rt_i C hw hS dX10_sureOf_93
  · have hf := ifn c6 hf
    refine lv_iload_n hx hb dX10_sureOf_49 rfl (lv_at hl 1 rfl) ?_
    refine lv_if_eq (tgt := 65) hx hb dX10_sureOf_50 (by decide) (fun c5 => ?_) (fun c5 => ?_)
    · have hf := ifp c5 hf
      refine lv_aload_n hx hb dX10_sureOf_65 rfl (lv_at hl 0 rfl) ?_
      refine va_get (ci := 10) (v := .ref (aa Γ o 42)) (C := RX10) (T := TX10) (N := 49) hx hb htw uwX10 hown hE.1 (wo_me hw hk) 0 rfl rfl 42 (by decide) (htw _ mw1285) (fun _ h9 => h9) rfl dX10_sureOf_66 ?_
      refine lv_iload_n hx hb dX10_sureOf_69 rfl (lv_at hl 3 rfl) ?_
      obtain ⟨g2, hf⟩ := gd_some hf
      refine va_iald hx hb hE.1 (wo_me hw hk) 20 0 rfl rfl (inR_in g2) dX10_sureOf_70 ?_
      refine lv_bipush (v := 30) hx hb dX10_sureOf_71 (by decide) ?_
      obtain ⟨x3, hx3, hf⟩ := bd hf
      have hx3 := Option.some.inj hx3
      refine tp2i hx3 ?_
      refine lv_irem hx hb dX10_sureOf_73 (by decide) ?_
      refine lv_iconst (v := 1) hx hb dX10_sureOf_74 (by decide) ?_
      refine lv_iadd hx hb dX10_sureOf_75 ?_
      exact wX10_sureOf_76 C hk hf hq H locs ls hw hS hl
    · have hf := ifn c5 hf
      refine lv_aload_n hx hb dX10_sureOf_53 rfl (lv_at hl 0 rfl) ?_
      refine va_get (ci := 10) (v := .ref (aa Γ o 42)) (C := RX10) (T := TX10) (N := 49) hx hb htw uwX10 hown hE.1 (wo_me hw hk) 0 rfl rfl 42 (by decide) (htw _ mw1285) (fun _ h9 => h9) rfl dX10_sureOf_54 ?_
      refine lv_iload_n hx hb dX10_sureOf_57 rfl (lv_at hl 3 rfl) ?_
      obtain ⟨g4, hf⟩ := gd_some hf
      refine va_iald hx hb hE.1 (wo_me hw hk) 20 0 rfl rfl (inR_in g4) dX10_sureOf_58 ?_
      refine lv_bipush (v := 30) hx hb dX10_sureOf_59 (by decide) ?_
      refine lv_idiv hx hb dX10_sureOf_61 (by decide) ?_
      refine lv_goto (tgt := 76) hx hb dX10_sureOf_62 (by decide) ?_
      exact wX10_sureOf_76 C hk hf hq H locs ls hw hS hl

set_option maxRecDepth 100000 in
set_option maxHeartbeats 4000000 in
theorem lwX10_sureOf_41 {p : Program} {l : Launch} {e : Env} {s : State} {m : MethodId} {args : Array Value} {below : List Frame} {meth : Method} {c : Code} {Γ : Gm} {A : Nat → Prop} {G : Gs} {o : Nat} {r : Rec} {v1 : Int32} {v2 : Int32} {v3 : Int32} {q : Int32} {fin : Int32} (C : Cx p s m args meth c yX10_sureOf cX10_sureOf 4 (some .int) Γ A) (hk : kd Γ o = some 10) (hf : iter (fun st : Int32 × Int32 => bX10_sureOf_41 r v1 st.1 st.2) (v2, v3) = some q) (hq : (fun x => x = fin) q) : Wk p l e { frames := 0, cells := 0, slots := 0, locals := 0 } s m args below meth c Γ A (ug G o r) (some (.int fin)) 41 4 [(0, .ref (ad Γ o)), (1, .int v1), (2, .int v2), (3, .int v3)] [] (ug G o r) := by
  intro H locs ls hw hS hl
  refine iter_walk (P := (fun st : Int32 × Int32 => Wk p l e { frames := 0, cells := 0, slots := 0, locals := 0 } s m args below meth c Γ A (ug G o r) (some (.int fin)) 41 4 [(0, .ref (ad Γ o)), (1, .int v1), (2, .int st.1), (3, .int st.2)] [] (ug G o r))) (K := (fun x => x = fin)) (fun st q hq1 h1 h2 => ?_) hf hq H locs ls hw hS hl
  exact wX10_sureOf_41 (v2 := st.1) (v3 := st.2) C hk hq1 ⟨h1, h2⟩

noncomputable def bX10_sureOf_38 (r : Rec) (v1 : Int32) (s0 : Int32) : Option Int32 :=
  iter (fun st : Int32 × Int32 => bX10_sureOf_41 r v1 st.1 st.2) (s0, 1)
set_option maxRecDepth 100000 in
set_option maxHeartbeats 4000000 in
theorem wX10_sureOf_38 {p : Program} {l : Launch} {e : Env} {s : State} {m : MethodId} {args : Array Value} {below : List Frame} {meth : Method} {c : Code} {Γ : Gm} {A : Nat → Prop} {G : Gs} {o : Nat} {r : Rec} {v1 : Int32} {s0 : Int32} {q : Int32} {fin : Int32} (C : Cx p s m args meth c yX10_sureOf cX10_sureOf 4 (some .int) Γ A) (hk : kd Γ o = some 10) (hf : bX10_sureOf_38 r v1 s0 = some q) (hq : (fun x => x = fin) q) : Wk p l e { frames := 0, cells := 0, slots := 0, locals := 0 } s m args below meth c Γ A (ug G o r) (some (.int fin)) 38 4 [(0, .ref (ad Γ o)), (1, .int v1)] [.int s0] (ug G o r) := by
  intro H locs ls hw hS hl
  unfold bX10_sureOf_38 at hf
  obtain ⟨hx, hb, hml, hr, hown, htw, hlocks, hE⟩ := id C
  have hown : s.vm.findClass RX10 = some m.cls := hown
  refine lv_istore_n (lv' := [(2, .int s0), (0, .ref (ad Γ o)), (1, .int v1)]) hx hb dX10_sureOf_38 rfl hl (by decide) rfl (fun ls hl => ?_)
  refine lv_iconst (v := 1) hx hb dX10_sureOf_39 (by decide) ?_
  refine lv_istore_n (lv' := [(3, .int 1), (2, .int s0), (0, .ref (ad Γ o)), (1, .int v1)]) hx hb dX10_sureOf_40 rfl hl (by decide) rfl (fun ls hl => ?_)
  exact lwX10_sureOf_41 C hk hf hq H locs ls hw hS (lv_sub hl [2, 3, 1, 0] rfl)

noncomputable def fX10_sureOf (r : Rec) (v1 : Int32) : Option Int32 :=
  if (gi r 43) = 0 then bX10_sureOf_38 r v1 (-1) else if v1 = 0 then (some (ga r 42 (Int32.toNatClampNeg 0))).bind fun x7 => bX10_sureOf_38 r v1 ((x7 - x7 / 30 * 30) + 1) else bX10_sureOf_38 r v1 ((ga r 42 (Int32.toNatClampNeg 0)) / 30)
set_option maxRecDepth 100000 in
set_option maxHeartbeats 4000000 in
theorem wX10_sureOf_e {p : Program} {l : Launch} {e : Env} {s : State} {m : MethodId} {args : Array Value} {below : List Frame} {meth : Method} {c : Code} {Γ : Gm} {A : Nat → Prop} {G : Gs} {o : Nat} {r : Rec} {v1 : Int32} {q : Int32} {fin : Int32} (C : Cx p s m args meth c yX10_sureOf cX10_sureOf 4 (some .int) Γ A) (hk : kd Γ o = some 10) (hf : fX10_sureOf r v1 = some q) (hq : (fun x => x = fin) q) : Wk p l e { frames := 0, cells := 0, slots := 0, locals := 0 } s m args below meth c Γ A (ug G o r) (some (.int fin)) 0 4 [(0, .ref (ad Γ o)), (1, .int v1)] [] (ug G o r) := by
  intro H locs ls hw hS hl
  unfold fX10_sureOf at hf
  obtain ⟨hx, hb, hml, hr, hown, htw, hlocks, hE⟩ := id C
  have hown : s.vm.findClass RX10 = some m.cls := hown
  refine lv_aload_n hx hb dX10_sureOf_0 rfl (lv_at hl 0 rfl) ?_
  refine va_get (ci := 10) (v := .int (gi r 43)) (C := RX10) (T := TX10) (N := 49) hx hb htw uwX10 hown hE.1 (wo_me hw hk) 0 rfl rfl 43 (by decide) (htw _ mw1286) (fun _ h9 => h9) rfl dX10_sureOf_1 ?_
  refine lv_if_ne (tgt := 11) hx hb dX10_sureOf_4 (by decide) (fun c9 => ?_) (fun c9 => ?_)
  · have hf := ifn c9 hf
    refine lv_iload_n hx hb dX10_sureOf_11 rfl (lv_at hl 1 rfl) ?_
    refine lv_if_eq (tgt := 27) hx hb dX10_sureOf_12 (by decide) (fun c8 => ?_) (fun c8 => ?_)
    · have hf := ifp c8 hf
      refine lv_aload_n hx hb dX10_sureOf_27 rfl (lv_at hl 0 rfl) ?_
      refine va_get (ci := 10) (v := .ref (aa Γ o 42)) (C := RX10) (T := TX10) (N := 49) hx hb htw uwX10 hown hE.1 (wo_me hw hk) 0 rfl rfl 42 (by decide) (htw _ mw1285) (fun _ h9 => h9) rfl dX10_sureOf_28 ?_
      refine lv_iconst (v := 0) hx hb dX10_sureOf_31 (by decide) ?_
      refine va_iald hx hb hE.1 (wo_me hw hk) 20 0 rfl rfl (inR_in (i := 0) (n := 120) (by decide)) dX10_sureOf_32 ?_
      refine lv_bipush (v := 30) hx hb dX10_sureOf_33 (by decide) ?_
      obtain ⟨x7, hx7, hf⟩ := bd hf
      have hx7 := Option.some.inj hx7
      refine tp2i hx7 ?_
      refine lv_irem hx hb dX10_sureOf_35 (by decide) ?_
      refine lv_iconst (v := 1) hx hb dX10_sureOf_36 (by decide) ?_
      refine lv_iadd hx hb dX10_sureOf_37 ?_
      exact wX10_sureOf_38 C hk hf hq H locs ls hw hS hl
    · have hf := ifn c8 hf
      refine lv_aload_n hx hb dX10_sureOf_15 rfl (lv_at hl 0 rfl) ?_
      refine va_get (ci := 10) (v := .ref (aa Γ o 42)) (C := RX10) (T := TX10) (N := 49) hx hb htw uwX10 hown hE.1 (wo_me hw hk) 0 rfl rfl 42 (by decide) (htw _ mw1285) (fun _ h9 => h9) rfl dX10_sureOf_16 ?_
      refine lv_iconst (v := 0) hx hb dX10_sureOf_19 (by decide) ?_
      refine va_iald hx hb hE.1 (wo_me hw hk) 20 0 rfl rfl (inR_in (i := 0) (n := 120) (by decide)) dX10_sureOf_20 ?_
      refine lv_bipush (v := 30) hx hb dX10_sureOf_21 (by decide) ?_
      refine lv_idiv hx hb dX10_sureOf_23 (by decide) ?_
      refine lv_goto (tgt := 38) hx hb dX10_sureOf_24 (by decide) ?_
      exact wX10_sureOf_38 C hk hf hq H locs ls hw hS hl
  · have hf := ifp c9 hf
    refine lv_iconst (v := (-1)) hx hb dX10_sureOf_7 (by decide) ?_
    refine lv_goto (tgt := 38) hx hb dX10_sureOf_8 (by decide) ?_
    exact wX10_sureOf_38 C hk hf hq H locs ls hw hS hl

theorem kX10_sureOf {l : Launch} {Γ : Gm} {A : Nat → Prop} {G : Gs} {o : Nat} {r : Rec} {v1 : Int32} {fin : Int32} (hk : kd Γ o = some 10) (hf : fX10_sureOf r v1 = some fin) : Kt l yX10_sureOf cX10_sureOf 4 (some .int) 0 0 Γ A (ug G o r) (ug G o r) [.ref (ad Γ o), .int v1] (some (.int fin)) :=
  kt_of (by decide) (Nat.le_of_ble_eq_true rfl) (fun p e s m args below meth c C => wX10_sureOf_e C hk hf rfl)
theorem kgX10_sureOf {l : Launch} {Γ : Gm} {A : Nat → Prop} {G : Gs} {o : Nat} {v1 : Int32} {fin : Int32} (hk : kd Γ o = some 10) (hf : fX10_sureOf (G o) v1 = some fin) : Kt l yX10_sureOf cX10_sureOf 4 (some .int) 0 0 Γ A G G [.ref (ad Γ o), .int v1] (some (.int fin)) := by
  have h := kX10_sureOf (l := l) (A := A) (G := G) (r := G o) hk hf
  rw [ug_self] at h
  exact h
noncomputable def bX10_which_69 (r : Rec) (v1 : Int32) (v2 : Int32) : Option ((Int32 × Int32) ⊕ Int32) :=
  some (.inl (v1, v2 + 1))
set_option maxRecDepth 100000 in
set_option maxHeartbeats 4000000 in
theorem wX10_which_69 {p : Program} {l : Launch} {e : Env} {s : State} {m : MethodId} {args : Array Value} {below : List Frame} {meth : Method} {c : Code} {Γ : Gm} {A : Nat → Prop} {G : Gs} {o : Nat} {r : Rec} {v1 : Int32} {v2 : Int32} {q : ((Int32 × Int32) ⊕ Int32)} {fin : Int32} (C : Cx p s m args meth c yX10_which cX10_which 4 (some .int) Γ A) (hk : kd Γ o = some 10) (hf : bX10_which_69 r v1 v2 = some q) (hq : (KC (fun st : Int32 × Int32 => Wk p l e { frames := 1, cells := 0, slots := 0, locals := 21 } s m args below meth c Γ A (ug G o r) (some (.int fin)) 4 4 [(0, .ref (ad Γ o)), (1, .int st.1), (2, .int st.2)] [] (ug G o r)) (fun x => x = fin)) q) : Wk p l e { frames := 1, cells := 0, slots := 0, locals := 21 } s m args below meth c Γ A (ug G o r) (some (.int fin)) 69 4 [(0, .ref (ad Γ o)), (1, .int v1), (2, .int v2)] [] (ug G o r) := by
  intro H locs ls hw hS hl
  unfold bX10_which_69 at hf
  obtain ⟨hx, hb, hml, hr, hown, htw, hlocks, hE⟩ := id C
  have hown : s.vm.findClass RX10 = some m.cls := hown
  refine lv_iinc (v := v2 + 1) (lv' := [(2, .int (v2 + 1)), (0, .ref (ad Γ o)), (1, .int v1)]) hx hb dX10_which_69 hl (k := 2) rfl (by rfl) (by decide) rfl (fun ls hl => ?_)
  refine lv_goto (tgt := 4) hx hb dX10_which_72 (by decide) ?_
  obtain rfl := Option.some.inj hf
  exact hq.1 _ rfl H locs ls hw hS (lv_sub hl [1, 2, 0] rfl)

noncomputable def bX10_which_61 (r : Rec) (v2 : Int32) (v3 : Int32) (s0 : Int32) (s1 : Int32) : Option ((Int32 × Int32) ⊕ ((Int32 × Int32) ⊕ Int32)) :=
  some (.inl (s1 ||| s0, v3 + 1))
set_option maxRecDepth 100000 in
set_option maxHeartbeats 4000000 in
theorem wX10_which_61 {p : Program} {l : Launch} {e : Env} {s : State} {m : MethodId} {args : Array Value} {below : List Frame} {meth : Method} {c : Code} {Γ : Gm} {A : Nat → Prop} {G : Gs} {o : Nat} {r : Rec} {v2 : Int32} {v3 : Int32} {s0 : Int32} {s1 : Int32} {q : ((Int32 × Int32) ⊕ ((Int32 × Int32) ⊕ Int32))} {fin : Int32} (C : Cx p s m args meth c yX10_which cX10_which 4 (some .int) Γ A) (hk : kd Γ o = some 10) (hf : bX10_which_61 r v2 v3 s0 s1 = some q) (hq : (KC (fun st : Int32 × Int32 => Wk p l e { frames := 1, cells := 0, slots := 0, locals := 21 } s m args below meth c Γ A (ug G o r) (some (.int fin)) 14 4 [(0, .ref (ad Γ o)), (1, .int st.1), (2, .int v2), (3, .int st.2)] [] (ug G o r)) (KC (fun st : Int32 × Int32 => Wk p l e { frames := 1, cells := 0, slots := 0, locals := 21 } s m args below meth c Γ A (ug G o r) (some (.int fin)) 4 4 [(0, .ref (ad Γ o)), (1, .int st.1), (2, .int st.2)] [] (ug G o r)) (fun x => x = fin))) q) : Wk p l e { frames := 1, cells := 0, slots := 0, locals := 21 } s m args below meth c Γ A (ug G o r) (some (.int fin)) 61 4 [(0, .ref (ad Γ o)), (2, .int v2), (3, .int v3)] [.int s0, .int s1] (ug G o r) := by
  intro H locs ls hw hS hl
  unfold bX10_which_61 at hf
  obtain ⟨hx, hb, hml, hr, hown, htw, hlocks, hE⟩ := id C
  have hown : s.vm.findClass RX10 = some m.cls := hown
  refine lv_ior hx hb dX10_which_61 ?_
  refine lv_istore_n (lv' := [(1, .int (s1 ||| s0)), (0, .ref (ad Γ o)), (2, .int v2), (3, .int v3)]) hx hb dX10_which_62 rfl hl (by decide) rfl (fun ls hl => ?_)
  refine lv_iinc (v := v3 + 1) (lv' := [(3, .int (v3 + 1)), (1, .int (s1 ||| s0)), (0, .ref (ad Γ o)), (2, .int v2)]) hx hb dX10_which_63 hl (k := 3) rfl (by rfl) (by decide) rfl (fun ls hl => ?_)
  refine lv_goto (tgt := 14) hx hb dX10_which_66 (by decide) ?_
  obtain rfl := Option.some.inj hf
  exact hq.1 _ rfl H locs ls hw hS (lv_sub hl [2, 1, 3, 0] rfl)

noncomputable def bX10_which_14 (r : Rec) (v1 : Int32) (v2 : Int32) (v3 : Int32) : Option ((Int32 × Int32) ⊕ ((Int32 × Int32) ⊕ Int32)) :=
  if (gi r 43) ≤ v3 then out1 (bX10_which_69 r v1 v2) else gd (inR v3 120) ((fX10_of r (27 + v2)).bind fun z3 => (fX10_of r (37 + v2)).bind fun z4 => if (ga r 42 (Int32.toNatClampNeg v3)) = (((30 * z3) + z4) - 1) then bX10_which_61 r v2 v3 ((1 : Int32) <<< (v2 &&& 31)) v1 else bX10_which_61 r v2 v3 0 v1)
set_option maxRecDepth 100000 in
set_option maxHeartbeats 4000000 in
theorem wX10_which_14 {p : Program} {l : Launch} {e : Env} {s : State} {m : MethodId} {args : Array Value} {below : List Frame} {meth : Method} {c : Code} {Γ : Gm} {A : Nat → Prop} {G : Gs} {o : Nat} {r : Rec} {v1 : Int32} {v2 : Int32} {v3 : Int32} {q : ((Int32 × Int32) ⊕ ((Int32 × Int32) ⊕ Int32))} {fin : Int32} (C : Cx p s m args meth c yX10_which cX10_which 4 (some .int) Γ A) (hk : kd Γ o = some 10) (hf : bX10_which_14 r v1 v2 v3 = some q) (hq : (KC (fun st : Int32 × Int32 => Wk p l e { frames := 1, cells := 0, slots := 0, locals := 21 } s m args below meth c Γ A (ug G o r) (some (.int fin)) 14 4 [(0, .ref (ad Γ o)), (1, .int st.1), (2, .int v2), (3, .int st.2)] [] (ug G o r)) (KC (fun st : Int32 × Int32 => Wk p l e { frames := 1, cells := 0, slots := 0, locals := 21 } s m args below meth c Γ A (ug G o r) (some (.int fin)) 4 4 [(0, .ref (ad Γ o)), (1, .int st.1), (2, .int st.2)] [] (ug G o r)) (fun x => x = fin))) q) : Wk p l e { frames := 1, cells := 0, slots := 0, locals := 21 } s m args below meth c Γ A (ug G o r) (some (.int fin)) 14 4 [(0, .ref (ad Γ o)), (1, .int v1), (2, .int v2), (3, .int v3)] [] (ug G o r) := by
  intro H locs ls hw hS hl
  unfold bX10_which_14 at hf
  obtain ⟨hx, hb, hml, hr, hown, htw, hlocks, hE⟩ := id C
  have hown : s.vm.findClass RX10 = some m.cls := hown
  refine lv_iload_n hx hb dX10_which_14 rfl (lv_at hl 3 rfl) ?_
  refine lv_aload_n hx hb dX10_which_15 rfl (lv_at hl 0 rfl) ?_
  refine va_get (ci := 10) (v := .int (gi r 43)) (C := RX10) (T := TX10) (N := 49) hx hb htw uwX10 hown hE.1 (wo_me hw hk) 0 rfl rfl 43 (by decide) (htw _ mw1286) (fun _ h9 => h9) rfl dX10_which_16 ?_
  refine lv_icmp_ge (tgt := 69) hx hb dX10_which_19 (by decide) (fun c6 => ?_) (fun c6 => ?_)
  · have hf := ifp c6 hf
    obtain ⟨q1, hfq1, eq1⟩ := out1_some hf
    subst eq1
    have hf := hfq1
    have hq := hq.2 _ rfl
    exact wX10_which_69 C hk hf hq H locs ls hw hS (lv_sub hl [0, 1, 2] rfl)
  · have hf := ifn c6 hf
    refine lv_iload_n hx hb dX10_which_22 rfl (lv_at hl 1 rfl) ?_
    refine lv_aload_n hx hb dX10_which_23 rfl (lv_at hl 0 rfl) ?_
    refine va_get (ci := 10) (v := .ref (aa Γ o 42)) (C := RX10) (T := TX10) (N := 49) hx hb htw uwX10 hown hE.1 (wo_me hw hk) 0 rfl rfl 42 (by decide) (htw _ mw1285) (fun _ h9 => h9) rfl dX10_which_24 ?_
    refine lv_iload_n hx hb dX10_which_27 rfl (lv_at hl 3 rfl) ?_
    obtain ⟨g2, hf⟩ := gd_some hf
    refine va_iald hx hb hE.1 (wo_me hw hk) 20 0 rfl rfl (inR_in g2) dX10_which_28 ?_
    refine lv_bipush (v := 30) hx hb dX10_which_29 (by decide) ?_
    refine lv_aload_n hx hb dX10_which_31 rfl (lv_at hl 0 rfl) ?_
    refine lv_bipush (v := 27) hx hb dX10_which_32 (by decide) ?_
    refine lv_iload_n hx hb dX10_which_34 rfl (lv_at hl 2 rfl) ?_
    refine lv_iadd hx hb dX10_which_35 ?_
    obtain ⟨z3, hz3, hf⟩ := bd hf
    refine cl_Vs (rest := [.int 30, .int (ga r 42 (Int32.toNatClampNeg v3)), .int v1]) (kX10_of (l := l) (Γ := Γ) (A := A) (G := G) (o := o) hk hz3) ⟨hx, hb, hml, hown, htw⟩ hE hw hS (wo_me hw hk) (q0 := 0) rfl rfl mw1541 mw1543 mw66 mw129 mw1544 pdX10_of ⟨Nat.le_of_ble_eq_true rfl, Nat.le_of_ble_eq_true rfl⟩ rfl rfl hl.1 (Nat.le_of_ble_eq_true rfl) dX10_which_36 (fun H locs hw hS => ?_)
    refine lv_imul hx hb dX10_which_39 ?_
    refine lv_aload_n hx hb dX10_which_40 rfl (lv_at hl 0 rfl) ?_
    refine lv_bipush (v := 37) hx hb dX10_which_41 (by decide) ?_
    refine lv_iload_n hx hb dX10_which_43 rfl (lv_at hl 2 rfl) ?_
    refine lv_iadd hx hb dX10_which_44 ?_
    obtain ⟨z4, hz4, hf⟩ := bd hf
    refine cl_Vs (rest := [.int (30 * z3), .int (ga r 42 (Int32.toNatClampNeg v3)), .int v1]) (kX10_of (l := l) (Γ := Γ) (A := A) (G := G) (o := o) hk hz4) ⟨hx, hb, hml, hown, htw⟩ hE hw hS (wo_me hw hk) (q0 := 0) rfl rfl mw1541 mw1543 mw66 mw129 mw1544 pdX10_of ⟨Nat.le_of_ble_eq_true rfl, Nat.le_of_ble_eq_true rfl⟩ rfl rfl hl.1 (Nat.le_of_ble_eq_true rfl) dX10_which_45 (fun H locs hw hS => ?_)
    refine lv_iadd hx hb dX10_which_48 ?_
    refine lv_iconst (v := 1) hx hb dX10_which_49 (by decide) ?_
    refine lv_isub hx hb dX10_which_50 ?_
    refine lv_icmp_ne (tgt := 60) hx hb dX10_which_51 (by decide) (fun c5 => ?_) (fun c5 => ?_)
    · have hf := ifn c5 hf
      refine lv_iconst (v := 0) hx hb dX10_which_60 (by decide) ?_
      exact wX10_which_61 C hk hf hq H locs ls hw hS (lv_sub hl [0, 2, 3] rfl)
    · have hf := ifp c5 hf
      refine lv_iconst (v := 1) hx hb dX10_which_54 (by decide) ?_
      refine lv_iload_n hx hb dX10_which_55 rfl (lv_at hl 2 rfl) ?_
      refine lv_ishl hx hb dX10_which_56 ?_
      refine lv_goto (tgt := 61) hx hb dX10_which_57 (by decide) ?_
      exact wX10_which_61 C hk hf hq H locs ls hw hS (lv_sub hl [0, 2, 3] rfl)

set_option maxRecDepth 100000 in
set_option maxHeartbeats 4000000 in
theorem lwX10_which_14 {p : Program} {l : Launch} {e : Env} {s : State} {m : MethodId} {args : Array Value} {below : List Frame} {meth : Method} {c : Code} {Γ : Gm} {A : Nat → Prop} {G : Gs} {o : Nat} {r : Rec} {v1 : Int32} {v2 : Int32} {v3 : Int32} {q : ((Int32 × Int32) ⊕ Int32)} {fin : Int32} (C : Cx p s m args meth c yX10_which cX10_which 4 (some .int) Γ A) (hk : kd Γ o = some 10) (hf : iter (fun st : Int32 × Int32 => bX10_which_14 r st.1 v2 st.2) (v1, v3) = some q) (hq : (KC (fun st : Int32 × Int32 => Wk p l e { frames := 1, cells := 0, slots := 0, locals := 21 } s m args below meth c Γ A (ug G o r) (some (.int fin)) 4 4 [(0, .ref (ad Γ o)), (1, .int st.1), (2, .int st.2)] [] (ug G o r)) (fun x => x = fin)) q) : Wk p l e { frames := 1, cells := 0, slots := 0, locals := 21 } s m args below meth c Γ A (ug G o r) (some (.int fin)) 14 4 [(0, .ref (ad Γ o)), (1, .int v1), (2, .int v2), (3, .int v3)] [] (ug G o r) := by
  intro H locs ls hw hS hl
  refine iter_walk (P := (fun st : Int32 × Int32 => Wk p l e { frames := 1, cells := 0, slots := 0, locals := 21 } s m args below meth c Γ A (ug G o r) (some (.int fin)) 14 4 [(0, .ref (ad Γ o)), (1, .int st.1), (2, .int v2), (3, .int st.2)] [] (ug G o r))) (K := (KC (fun st : Int32 × Int32 => Wk p l e { frames := 1, cells := 0, slots := 0, locals := 21 } s m args below meth c Γ A (ug G o r) (some (.int fin)) 4 4 [(0, .ref (ad Γ o)), (1, .int st.1), (2, .int st.2)] [] (ug G o r)) (fun x => x = fin))) (fun st q hq1 h1 h2 => ?_) hf hq H locs ls hw hS hl
  exact wX10_which_14 (v1 := st.1) (v3 := st.2) C hk hq1 ⟨h1, h2⟩

noncomputable def bX10_which_4 (r : Rec) (v1 : Int32) (v2 : Int32) : Option ((Int32 × Int32) ⊕ Int32) :=
  if (gi r 27) ≤ v2 then some (.inr (v1)) else iter (fun st : Int32 × Int32 => bX10_which_14 r st.1 v2 st.2) (v1, 0)
set_option maxRecDepth 100000 in
set_option maxHeartbeats 4000000 in
theorem wX10_which_4 {p : Program} {l : Launch} {e : Env} {s : State} {m : MethodId} {args : Array Value} {below : List Frame} {meth : Method} {c : Code} {Γ : Gm} {A : Nat → Prop} {G : Gs} {o : Nat} {r : Rec} {v1 : Int32} {v2 : Int32} {q : ((Int32 × Int32) ⊕ Int32)} {fin : Int32} (C : Cx p s m args meth c yX10_which cX10_which 4 (some .int) Γ A) (hk : kd Γ o = some 10) (hf : bX10_which_4 r v1 v2 = some q) (hq : (KC (fun st : Int32 × Int32 => Wk p l e { frames := 1, cells := 0, slots := 0, locals := 21 } s m args below meth c Γ A (ug G o r) (some (.int fin)) 4 4 [(0, .ref (ad Γ o)), (1, .int st.1), (2, .int st.2)] [] (ug G o r)) (fun x => x = fin)) q) : Wk p l e { frames := 1, cells := 0, slots := 0, locals := 21 } s m args below meth c Γ A (ug G o r) (some (.int fin)) 4 4 [(0, .ref (ad Γ o)), (1, .int v1), (2, .int v2)] [] (ug G o r) := by
  intro H locs ls hw hS hl
  unfold bX10_which_4 at hf
  obtain ⟨hx, hb, hml, hr, hown, htw, hlocks, hE⟩ := id C
  have hown : s.vm.findClass RX10 = some m.cls := hown
  refine lv_iload_n hx hb dX10_which_4 rfl (lv_at hl 2 rfl) ?_
  refine lv_aload_n hx hb dX10_which_5 rfl (lv_at hl 0 rfl) ?_
  refine va_get (ci := 10) (v := .int (gi r 27)) (C := RX10) (T := TX10) (N := 49) hx hb htw uwX10 hown hE.1 (wo_me hw hk) 0 rfl rfl 27 (by decide) (htw _ mw1270) (fun _ h9 => h9) rfl dX10_which_6 ?_
  refine lv_icmp_ge (tgt := 75) hx hb dX10_which_9 (by decide) (fun c7 => ?_) (fun c7 => ?_)
  · have hf := ifp c7 hf
    refine lv_iload_n hx hb dX10_which_75 rfl (lv_at hl 1 rfl) ?_
    obtain rfl := Option.some.inj hf
    have hq := hq.2 _ rfl
    subst hq
    exact rt_i C hw hS dX10_which_76
  · have hf := ifn c7 hf
    refine lv_iconst (v := 0) hx hb dX10_which_12 (by decide) ?_
    refine lv_istore_n (lv' := [(3, .int 0), (0, .ref (ad Γ o)), (1, .int v1), (2, .int v2)]) hx hb dX10_which_13 rfl hl (by decide) rfl (fun ls hl => ?_)
    exact lwX10_which_14 C hk hf hq H locs ls hw hS (lv_sub hl [1, 2, 3, 0] rfl)

set_option maxRecDepth 100000 in
set_option maxHeartbeats 4000000 in
theorem lwX10_which_4 {p : Program} {l : Launch} {e : Env} {s : State} {m : MethodId} {args : Array Value} {below : List Frame} {meth : Method} {c : Code} {Γ : Gm} {A : Nat → Prop} {G : Gs} {o : Nat} {r : Rec} {v1 : Int32} {v2 : Int32} {q : Int32} {fin : Int32} (C : Cx p s m args meth c yX10_which cX10_which 4 (some .int) Γ A) (hk : kd Γ o = some 10) (hf : iter (fun st : Int32 × Int32 => bX10_which_4 r st.1 st.2) (v1, v2) = some q) (hq : (fun x => x = fin) q) : Wk p l e { frames := 1, cells := 0, slots := 0, locals := 21 } s m args below meth c Γ A (ug G o r) (some (.int fin)) 4 4 [(0, .ref (ad Γ o)), (1, .int v1), (2, .int v2)] [] (ug G o r) := by
  intro H locs ls hw hS hl
  refine iter_walk (P := (fun st : Int32 × Int32 => Wk p l e { frames := 1, cells := 0, slots := 0, locals := 21 } s m args below meth c Γ A (ug G o r) (some (.int fin)) 4 4 [(0, .ref (ad Γ o)), (1, .int st.1), (2, .int st.2)] [] (ug G o r))) (K := (fun x => x = fin)) (fun st q hq1 h1 h2 => ?_) hf hq H locs ls hw hS hl
  exact wX10_which_4 (v1 := st.1) (v2 := st.2) C hk hq1 ⟨h1, h2⟩

noncomputable def fX10_which (r : Rec) : Option Int32 :=
  iter (fun st : Int32 × Int32 => bX10_which_4 r st.1 st.2) (0, 0)
set_option maxRecDepth 100000 in
set_option maxHeartbeats 4000000 in
theorem wX10_which_e {p : Program} {l : Launch} {e : Env} {s : State} {m : MethodId} {args : Array Value} {below : List Frame} {meth : Method} {c : Code} {Γ : Gm} {A : Nat → Prop} {G : Gs} {o : Nat} {r : Rec} {q : Int32} {fin : Int32} (C : Cx p s m args meth c yX10_which cX10_which 4 (some .int) Γ A) (hk : kd Γ o = some 10) (hf : fX10_which r = some q) (hq : (fun x => x = fin) q) : Wk p l e { frames := 1, cells := 0, slots := 0, locals := 21 } s m args below meth c Γ A (ug G o r) (some (.int fin)) 0 4 [(0, .ref (ad Γ o))] [] (ug G o r) := by
  intro H locs ls hw hS hl
  unfold fX10_which at hf
  obtain ⟨hx, hb, hml, hr, hown, htw, hlocks, hE⟩ := id C
  have hown : s.vm.findClass RX10 = some m.cls := hown
  refine lv_iconst (v := 0) hx hb dX10_which_0 (by decide) ?_
  refine lv_istore_n (lv' := [(1, .int 0), (0, .ref (ad Γ o))]) hx hb dX10_which_1 rfl hl (by decide) rfl (fun ls hl => ?_)
  refine lv_iconst (v := 0) hx hb dX10_which_2 (by decide) ?_
  refine lv_istore_n (lv' := [(2, .int 0), (1, .int 0), (0, .ref (ad Γ o))]) hx hb dX10_which_3 rfl hl (by decide) rfl (fun ls hl => ?_)
  exact lwX10_which_4 C hk hf hq H locs ls hw hS (lv_sub hl [2, 1, 0] rfl)

theorem kX10_which {l : Launch} {Γ : Gm} {A : Nat → Prop} {G : Gs} {o : Nat} {r : Rec} {fin : Int32} (hk : kd Γ o = some 10) (hf : fX10_which r = some fin) : Kt l yX10_which cX10_which 4 (some .int) 1 21 Γ A (ug G o r) (ug G o r) [.ref (ad Γ o)] (some (.int fin)) :=
  kt_of (by decide) (Nat.le_of_ble_eq_true rfl) (fun p e s m args below meth c C => wX10_which_e C hk hf rfl)
theorem kgX10_which {l : Launch} {Γ : Gm} {A : Nat → Prop} {G : Gs} {o : Nat} {fin : Int32} (hk : kd Γ o = some 10) (hf : fX10_which (G o) = some fin) : Kt l yX10_which cX10_which 4 (some .int) 1 21 Γ A G G [.ref (ad Γ o)] (some (.int fin)) := by
  have h := kX10_which (l := l) (A := A) (G := G) (r := G o) hk hf
  rw [ug_self] at h
  exact h
noncomputable def bX10_ask_118 (r : Rec) (v2 : Int32) (v3 : Int32) (v4 : Int32) (s0 : Int32) : Option ((Int32 × Int32 × Int32 × Rec) ⊕ (Rec × Int32)) :=
  (fX10_lesser v2 v4).bind fun z1 => some (.inl (s0, z1, v3 + 1, r))
set_option maxRecDepth 100000 in
set_option maxHeartbeats 4000000 in
theorem wX10_ask_118 {p : Program} {l : Launch} {e : Env} {s : State} {m : MethodId} {args : Array Value} {below : List Frame} {meth : Method} {c : Code} {Γ : Gm} {A : Nat → Prop} {G : Gs} {o : Nat} {r : Rec} {v2 : Int32} {v3 : Int32} {v4 : Int32} {s0 : Int32} {q : ((Int32 × Int32 × Int32 × Rec) ⊕ (Rec × Int32))} {fin : Rec × Int32} (C : Cx p s m args meth c yX10_ask cX10_ask 7 (some .int) Γ A) (hk : kd Γ o = some 10) (hf : bX10_ask_118 r v2 v3 v4 s0 = some q) (hq : (KC (fun st : Int32 × Int32 × Int32 × Rec => Wk p l e { frames := 3, cells := 0, slots := 0, locals := 65 } s m args below meth c Γ A (ug G o fin.1) (some (.int fin.2)) 8 7 [(0, .ref (ad Γ o)), (1, .int st.1), (2, .int st.2.1), (3, .int st.2.2.1)] [] (ug G o st.2.2.2)) (fun x => x = fin)) q) : Wk p l e { frames := 3, cells := 0, slots := 0, locals := 65 } s m args below meth c Γ A (ug G o fin.1) (some (.int fin.2)) 118 7 [(0, .ref (ad Γ o)), (2, .int v2), (3, .int v3), (4, .int v4)] [.int s0] (ug G o r) := by
  intro H locs ls hw hS hl
  unfold bX10_ask_118 at hf
  obtain ⟨hx, hb, hml, hr, hown, htw, hlocks, hE⟩ := id C
  have hown : s.vm.findClass RX10 = some m.cls := hown
  refine lv_istore_n (lv' := [(1, .int s0), (0, .ref (ad Γ o)), (2, .int v2), (3, .int v3), (4, .int v4)]) hx hb dX10_ask_118 rfl hl (by decide) rfl (fun ls hl => ?_)
  refine lv_iload_n hx hb dX10_ask_119 rfl (lv_at hl 2 rfl) ?_
  refine lv_iload hx hb dX10_ask_120 (lv_at hl 4 rfl) ?_
  obtain ⟨z1, hz1, hf⟩ := bd hf
  refine cl_Ss (rest := []) (kX10_lesser (l := l) (Γ := Γ) (A := A) (G := (ug G o r)) hz1) ⟨hx, hb, hml, hown, htw⟩ hE hw hS mw1681 mw1682 mw129 mw1683 pdX10_lesser ⟨Nat.le_of_ble_eq_true rfl, Nat.le_of_ble_eq_true rfl⟩ rfl rfl hl.1 (Nat.le_of_ble_eq_true rfl) dX10_ask_122 (fun H locs hw hS => ?_)
  refine lv_istore_n (lv' := [(2, .int z1), (1, .int s0), (0, .ref (ad Γ o)), (3, .int v3), (4, .int v4)]) hx hb dX10_ask_125 rfl hl (by decide) rfl (fun ls hl => ?_)
  refine lv_iinc (v := v3 + 1) (lv' := [(3, .int (v3 + 1)), (2, .int z1), (1, .int s0), (0, .ref (ad Γ o)), (4, .int v4)]) hx hb dX10_ask_126 hl (k := 3) rfl (by rfl) (by decide) rfl (fun ls hl => ?_)
  refine lv_goto (tgt := 8) hx hb dX10_ask_129 (by decide) ?_
  obtain rfl := Option.some.inj hf
  exact hq.1 _ rfl H locs ls hw hS (lv_sub hl [3, 2, 1, 0] rfl)

noncomputable def bX10_ask_107 (r : Rec) (v1 : Int32) (v2 : Int32) (v3 : Int32) (v4 : Int32) : Option ((Int32 × Int32 × Int32 × Rec) ⊕ (Rec × Int32)) :=
  if v2 ≤ v4 then bX10_ask_118 r v2 v3 v4 v1 else bX10_ask_118 r v2 v3 v4 v3
set_option maxRecDepth 100000 in
set_option maxHeartbeats 4000000 in
theorem wX10_ask_107 {p : Program} {l : Launch} {e : Env} {s : State} {m : MethodId} {args : Array Value} {below : List Frame} {meth : Method} {c : Code} {Γ : Gm} {A : Nat → Prop} {G : Gs} {o : Nat} {r : Rec} {v1 : Int32} {v2 : Int32} {v3 : Int32} {v4 : Int32} {q : ((Int32 × Int32 × Int32 × Rec) ⊕ (Rec × Int32))} {fin : Rec × Int32} (C : Cx p s m args meth c yX10_ask cX10_ask 7 (some .int) Γ A) (hk : kd Γ o = some 10) (hf : bX10_ask_107 r v1 v2 v3 v4 = some q) (hq : (KC (fun st : Int32 × Int32 × Int32 × Rec => Wk p l e { frames := 3, cells := 0, slots := 0, locals := 65 } s m args below meth c Γ A (ug G o fin.1) (some (.int fin.2)) 8 7 [(0, .ref (ad Γ o)), (1, .int st.1), (2, .int st.2.1), (3, .int st.2.2.1)] [] (ug G o st.2.2.2)) (fun x => x = fin)) q) : Wk p l e { frames := 3, cells := 0, slots := 0, locals := 65 } s m args below meth c Γ A (ug G o fin.1) (some (.int fin.2)) 107 7 [(0, .ref (ad Γ o)), (1, .int v1), (2, .int v2), (3, .int v3), (4, .int v4)] [] (ug G o r) := by
  intro H locs ls hw hS hl
  unfold bX10_ask_107 at hf
  obtain ⟨hx, hb, hml, hr, hown, htw, hlocks, hE⟩ := id C
  have hown : s.vm.findClass RX10 = some m.cls := hown
  refine lv_iload hx hb dX10_ask_107 (lv_at hl 4 rfl) ?_
  refine lv_iload_n hx hb dX10_ask_109 rfl (lv_at hl 2 rfl) ?_
  refine lv_icmp_ge (tgt := 117) hx hb dX10_ask_110 (by decide) (fun c2 => ?_) (fun c2 => ?_)
  · have hf := ifp c2 hf
    refine lv_iload_n hx hb dX10_ask_117 rfl (lv_at hl 1 rfl) ?_
    exact wX10_ask_118 C hk hf hq H locs ls hw hS (lv_sub hl [0, 2, 3, 4] rfl)
  · have hf := ifn c2 hf
    refine lv_iload_n hx hb dX10_ask_113 rfl (lv_at hl 3 rfl) ?_
    refine lv_goto (tgt := 118) hx hb dX10_ask_114 (by decide) ?_
    exact wX10_ask_118 C hk hf hq H locs ls hw hS (lv_sub hl [0, 2, 3, 4] rfl)

noncomputable def bX10_ask_53 (r : Rec) (v1 : Int32) (v2 : Int32) (v3 : Int32) (v4 : Int32) (v5 : Int32) : Option ((Int32 × Int32 × Rec) ⊕ ((Int32 × Int32 × Int32 × Rec) ⊕ (Rec × Int32))) :=
  if (gi r 43) ≤ v5 then out1 (bX10_ask_107 r v1 v2 v3 v4) else gd (inR v5 120) ((fX10_shinesBy r (ga r 42 (Int32.toNatClampNeg v5)) v3).bind fun z5 => gd (inR z5 61) (gd (inR z5 61) ((some (sa r 44 (upd (ga r 44) (Int32.toNatClampNeg z5) ((ga r 44 (Int32.toNatClampNeg z5)) + 1)))).bind fun r8 => gd (inR z5 61) ((fX10_greater v4 (ga r8 44 (Int32.toNatClampNeg z5))).bind fun z10 => some (.inl (z10, v5 + 1, r8))))))
set_option maxRecDepth 100000 in
set_option maxHeartbeats 4000000 in
theorem wX10_ask_53 {p : Program} {l : Launch} {e : Env} {s : State} {m : MethodId} {args : Array Value} {below : List Frame} {meth : Method} {c : Code} {Γ : Gm} {A : Nat → Prop} {G : Gs} {o : Nat} {r : Rec} {v1 : Int32} {v2 : Int32} {v3 : Int32} {v4 : Int32} {v5 : Int32} {q : ((Int32 × Int32 × Rec) ⊕ ((Int32 × Int32 × Int32 × Rec) ⊕ (Rec × Int32)))} {fin : Rec × Int32} (C : Cx p s m args meth c yX10_ask cX10_ask 7 (some .int) Γ A) (hk : kd Γ o = some 10) (hf : bX10_ask_53 r v1 v2 v3 v4 v5 = some q) (hq : (KC (fun st : Int32 × Int32 × Rec => Wk p l e { frames := 3, cells := 0, slots := 0, locals := 65 } s m args below meth c Γ A (ug G o fin.1) (some (.int fin.2)) 53 7 [(0, .ref (ad Γ o)), (1, .int v1), (2, .int v2), (3, .int v3), (4, .int st.1), (5, .int st.2.1)] [] (ug G o st.2.2)) (KC (fun st : Int32 × Int32 × Int32 × Rec => Wk p l e { frames := 3, cells := 0, slots := 0, locals := 65 } s m args below meth c Γ A (ug G o fin.1) (some (.int fin.2)) 8 7 [(0, .ref (ad Γ o)), (1, .int st.1), (2, .int st.2.1), (3, .int st.2.2.1)] [] (ug G o st.2.2.2)) (fun x => x = fin))) q) : Wk p l e { frames := 3, cells := 0, slots := 0, locals := 65 } s m args below meth c Γ A (ug G o fin.1) (some (.int fin.2)) 53 7 [(0, .ref (ad Γ o)), (1, .int v1), (2, .int v2), (3, .int v3), (4, .int v4), (5, .int v5)] [] (ug G o r) := by
  intro H locs ls hw hS hl
  unfold bX10_ask_53 at hf
  obtain ⟨hx, hb, hml, hr, hown, htw, hlocks, hE⟩ := id C
  have hown : s.vm.findClass RX10 = some m.cls := hown
  refine lv_iload hx hb dX10_ask_53 (lv_at hl 5 rfl) ?_
  refine lv_aload_n hx hb dX10_ask_55 rfl (lv_at hl 0 rfl) ?_
  refine va_get (ci := 10) (v := .int (gi r 43)) (C := RX10) (T := TX10) (N := 49) hx hb htw uwX10 hown hE.1 (wo_me hw hk) 0 rfl rfl 43 (by decide) (htw _ mw1286) (fun _ h9 => h9) rfl dX10_ask_56 ?_
  refine lv_icmp_ge (tgt := 107) hx hb dX10_ask_59 (by decide) (fun c11 => ?_) (fun c11 => ?_)
  · have hf := ifp c11 hf
    obtain ⟨q3, hfq3, eq3⟩ := out1_some hf
    subst eq3
    have hf := hfq3
    have hq := hq.2 _ rfl
    exact wX10_ask_107 C hk hf hq H locs ls hw hS (lv_sub hl [0, 1, 2, 3, 4] rfl)
  · have hf := ifn c11 hf
    refine lv_aload_n hx hb dX10_ask_62 rfl (lv_at hl 0 rfl) ?_
    refine lv_aload_n hx hb dX10_ask_63 rfl (lv_at hl 0 rfl) ?_
    refine va_get (ci := 10) (v := .ref (aa Γ o 42)) (C := RX10) (T := TX10) (N := 49) hx hb htw uwX10 hown hE.1 (wo_me hw hk) 0 rfl rfl 42 (by decide) (htw _ mw1285) (fun _ h9 => h9) rfl dX10_ask_64 ?_
    refine lv_iload hx hb dX10_ask_67 (lv_at hl 5 rfl) ?_
    obtain ⟨g4, hf⟩ := gd_some hf
    refine va_iald hx hb hE.1 (wo_me hw hk) 20 0 rfl rfl (inR_in g4) dX10_ask_69 ?_
    refine lv_iload_n hx hb dX10_ask_70 rfl (lv_at hl 3 rfl) ?_
    obtain ⟨z5, hz5, hf⟩ := bd hf
    refine cl_Vs (rest := []) (kX10_shinesBy (l := l) (Γ := Γ) (A := A) (G := G) (o := o) hk hz5) ⟨hx, hb, hml, hown, htw⟩ hE hw hS (wo_me hw hk) (q0 := 0) rfl rfl mw1782 mw1784 mw108 mw129 mw1785 pdX10_shinesBy ⟨Nat.le_of_ble_eq_true rfl, Nat.le_of_ble_eq_true rfl⟩ rfl rfl hl.1 (Nat.le_of_ble_eq_true rfl) dX10_ask_71 (fun H locs hw hS => ?_)
    refine lv_istore (lv' := [(6, .int z5), (0, .ref (ad Γ o)), (1, .int v1), (2, .int v2), (3, .int v3), (4, .int v4), (5, .int v5)]) hx hb dX10_ask_74 hl (by decide) rfl (fun ls hl => ?_)
    refine lv_aload_n hx hb dX10_ask_76 rfl (lv_at hl 1 rfl) ?_
    refine va_get (ci := 10) (v := .ref (aa Γ o 44)) (C := RX10) (T := TX10) (N := 49) hx hb htw uwX10 hown hE.1 (wo_me hw hk) 0 rfl rfl 44 (by decide) (htw _ mw1287) (fun _ h9 => h9) rfl dX10_ask_77 ?_
    refine lv_iload hx hb dX10_ask_80 (lv_at hl 0 rfl) ?_
    refine lv_dup2_11 hx hb dX10_ask_82 rfl rfl ?_
    obtain ⟨g6, hf⟩ := gd_some hf
    refine va_iald hx hb hE.1 (wo_me hw hk) 21 0 rfl rfl (inR_in g6) dX10_ask_83 ?_
    refine lv_iconst (v := 1) hx hb dX10_ask_84 (by decide) ?_
    refine lv_iadd hx hb dX10_ask_85 ?_
    obtain ⟨g7, hf⟩ := gd_some hf
    obtain ⟨r8, hr8, hf⟩ := bd hf
    have hr8 := Option.some.inj hr8
    refine wo_iast hx hb hE hw hS hk (q0 := 21) rfl (inR_in g7) (sa10_44 hr8) dX10_ask_86 (fun H locs hw hS => ?_)
    refine lv_iload hx hb dX10_ask_87 (lv_at hl 5 rfl) ?_
    refine lv_aload_n hx hb dX10_ask_89 rfl (lv_at hl 1 rfl) ?_
    refine va_get (ci := 10) (v := .ref (aa Γ o 44)) (C := RX10) (T := TX10) (N := 49) hx hb htw uwX10 hown hE.1 (wo_me hw hk) 0 rfl rfl 44 (by decide) (htw _ mw1287) (fun _ h9 => h9) rfl dX10_ask_90 ?_
    refine lv_iload hx hb dX10_ask_93 (lv_at hl 0 rfl) ?_
    obtain ⟨g9, hf⟩ := gd_some hf
    refine va_iald hx hb hE.1 (wo_me hw hk) 21 0 rfl rfl (inR_in g9) dX10_ask_95 ?_
    obtain ⟨z10, hz10, hf⟩ := bd hf
    refine cl_Ss (rest := []) (kX10_greater (l := l) (Γ := Γ) (A := A) (G := (ug G o r8)) hz10) ⟨hx, hb, hml, hown, htw⟩ hE hw hS mw1467 mw1468 mw129 mw1469 pdX10_greater ⟨Nat.le_of_ble_eq_true rfl, Nat.le_of_ble_eq_true rfl⟩ rfl rfl hl.1 (Nat.le_of_ble_eq_true rfl) dX10_ask_96 (fun H locs hw hS => ?_)
    refine lv_istore (lv' := [(4, .int z10), (6, .int z5), (0, .ref (ad Γ o)), (1, .int v1), (2, .int v2), (3, .int v3), (5, .int v5)]) hx hb dX10_ask_99 hl (by decide) rfl (fun ls hl => ?_)
    refine lv_iinc (v := v5 + 1) (lv' := [(5, .int (v5 + 1)), (4, .int z10), (6, .int z5), (0, .ref (ad Γ o)), (1, .int v1), (2, .int v2), (3, .int v3)]) hx hb dX10_ask_101 hl (k := 6) rfl (by rfl) (by decide) rfl (fun ls hl => ?_)
    refine lv_goto (tgt := 53) hx hb dX10_ask_104 (by decide) ?_
    obtain rfl := Option.some.inj hf
    exact hq.1 _ rfl H locs ls hw hS (lv_sub hl [3, 4, 5, 6, 1, 0] rfl)

set_option maxRecDepth 100000 in
set_option maxHeartbeats 4000000 in
theorem lwX10_ask_53 {p : Program} {l : Launch} {e : Env} {s : State} {m : MethodId} {args : Array Value} {below : List Frame} {meth : Method} {c : Code} {Γ : Gm} {A : Nat → Prop} {G : Gs} {o : Nat} {r : Rec} {v1 : Int32} {v2 : Int32} {v3 : Int32} {v4 : Int32} {v5 : Int32} {q : ((Int32 × Int32 × Int32 × Rec) ⊕ (Rec × Int32))} {fin : Rec × Int32} (C : Cx p s m args meth c yX10_ask cX10_ask 7 (some .int) Γ A) (hk : kd Γ o = some 10) (hf : iter (fun st : Int32 × Int32 × Rec => bX10_ask_53 st.2.2 v1 v2 v3 st.1 st.2.1) (v4, v5, r) = some q) (hq : (KC (fun st : Int32 × Int32 × Int32 × Rec => Wk p l e { frames := 3, cells := 0, slots := 0, locals := 65 } s m args below meth c Γ A (ug G o fin.1) (some (.int fin.2)) 8 7 [(0, .ref (ad Γ o)), (1, .int st.1), (2, .int st.2.1), (3, .int st.2.2.1)] [] (ug G o st.2.2.2)) (fun x => x = fin)) q) : Wk p l e { frames := 3, cells := 0, slots := 0, locals := 65 } s m args below meth c Γ A (ug G o fin.1) (some (.int fin.2)) 53 7 [(0, .ref (ad Γ o)), (1, .int v1), (2, .int v2), (3, .int v3), (4, .int v4), (5, .int v5)] [] (ug G o r) := by
  intro H locs ls hw hS hl
  refine iter_walk (P := (fun st : Int32 × Int32 × Rec => Wk p l e { frames := 3, cells := 0, slots := 0, locals := 65 } s m args below meth c Γ A (ug G o fin.1) (some (.int fin.2)) 53 7 [(0, .ref (ad Γ o)), (1, .int v1), (2, .int v2), (3, .int v3), (4, .int st.1), (5, .int st.2.1)] [] (ug G o st.2.2))) (K := (KC (fun st : Int32 × Int32 × Int32 × Rec => Wk p l e { frames := 3, cells := 0, slots := 0, locals := 65 } s m args below meth c Γ A (ug G o fin.1) (some (.int fin.2)) 8 7 [(0, .ref (ad Γ o)), (1, .int st.1), (2, .int st.2.1), (3, .int st.2.2.1)] [] (ug G o st.2.2.2)) (fun x => x = fin))) (fun st q hq1 h1 h2 => ?_) hf hq H locs ls hw hS hl
  exact wX10_ask_53 (r := st.2.2) (v4 := st.1) (v5 := st.2.1) C hk hq1 ⟨h1, h2⟩

noncomputable def bX10_ask_50 (r : Rec) (v1 : Int32) (v2 : Int32) (v3 : Int32) (v4 : Int32) : Option ((Int32 × Int32 × Int32 × Rec) ⊕ (Rec × Int32)) :=
  iter (fun st : Int32 × Int32 × Rec => bX10_ask_53 st.2.2 v1 v2 v3 st.1 st.2.1) (v4, 0, r)
set_option maxRecDepth 100000 in
set_option maxHeartbeats 4000000 in
theorem wX10_ask_50 {p : Program} {l : Launch} {e : Env} {s : State} {m : MethodId} {args : Array Value} {below : List Frame} {meth : Method} {c : Code} {Γ : Gm} {A : Nat → Prop} {G : Gs} {o : Nat} {r : Rec} {v1 : Int32} {v2 : Int32} {v3 : Int32} {v4 : Int32} {q : ((Int32 × Int32 × Int32 × Rec) ⊕ (Rec × Int32))} {fin : Rec × Int32} (C : Cx p s m args meth c yX10_ask cX10_ask 7 (some .int) Γ A) (hk : kd Γ o = some 10) (hf : bX10_ask_50 r v1 v2 v3 v4 = some q) (hq : (KC (fun st : Int32 × Int32 × Int32 × Rec => Wk p l e { frames := 3, cells := 0, slots := 0, locals := 65 } s m args below meth c Γ A (ug G o fin.1) (some (.int fin.2)) 8 7 [(0, .ref (ad Γ o)), (1, .int st.1), (2, .int st.2.1), (3, .int st.2.2.1)] [] (ug G o st.2.2.2)) (fun x => x = fin)) q) : Wk p l e { frames := 3, cells := 0, slots := 0, locals := 65 } s m args below meth c Γ A (ug G o fin.1) (some (.int fin.2)) 50 7 [(0, .ref (ad Γ o)), (1, .int v1), (2, .int v2), (3, .int v3), (4, .int v4)] [] (ug G o r) := by
  intro H locs ls hw hS hl
  unfold bX10_ask_50 at hf
  obtain ⟨hx, hb, hml, hr, hown, htw, hlocks, hE⟩ := id C
  have hown : s.vm.findClass RX10 = some m.cls := hown
  refine lv_iconst (v := 0) hx hb dX10_ask_50 (by decide) ?_
  refine lv_istore (lv' := [(5, .int 0), (0, .ref (ad Γ o)), (1, .int v1), (2, .int v2), (3, .int v3), (4, .int v4)]) hx hb dX10_ask_51 hl (by decide) rfl (fun ls hl => ?_)
  exact lwX10_ask_53 C hk hf hq H locs ls hw hS (lv_sub hl [1, 2, 3, 4, 5, 0] rfl)

noncomputable def bX10_ask_29 (r : Rec) (v1 : Int32) (v2 : Int32) (v3 : Int32) (v4 : Int32) (v5 : Int32) : Option ((Int32 × Rec) ⊕ ((Int32 × Int32 × Int32 × Rec) ⊕ (Rec × Int32))) :=
  if 60 < v5 then out1 (bX10_ask_50 r v1 v2 v3 v4) else gd (inR v5 61) ((some (sa r 44 (upd (ga r 44) (Int32.toNatClampNeg v5) 0))).bind fun r14 => some (.inl (v5 + 1, r14)))
set_option maxRecDepth 100000 in
set_option maxHeartbeats 4000000 in
theorem wX10_ask_29 {p : Program} {l : Launch} {e : Env} {s : State} {m : MethodId} {args : Array Value} {below : List Frame} {meth : Method} {c : Code} {Γ : Gm} {A : Nat → Prop} {G : Gs} {o : Nat} {r : Rec} {v1 : Int32} {v2 : Int32} {v3 : Int32} {v4 : Int32} {v5 : Int32} {q : ((Int32 × Rec) ⊕ ((Int32 × Int32 × Int32 × Rec) ⊕ (Rec × Int32)))} {fin : Rec × Int32} (C : Cx p s m args meth c yX10_ask cX10_ask 7 (some .int) Γ A) (hk : kd Γ o = some 10) (hf : bX10_ask_29 r v1 v2 v3 v4 v5 = some q) (hq : (KC (fun st : Int32 × Rec => Wk p l e { frames := 3, cells := 0, slots := 0, locals := 65 } s m args below meth c Γ A (ug G o fin.1) (some (.int fin.2)) 29 7 [(0, .ref (ad Γ o)), (1, .int v1), (2, .int v2), (3, .int v3), (4, .int v4), (5, .int st.1)] [] (ug G o st.2)) (KC (fun st : Int32 × Int32 × Int32 × Rec => Wk p l e { frames := 3, cells := 0, slots := 0, locals := 65 } s m args below meth c Γ A (ug G o fin.1) (some (.int fin.2)) 8 7 [(0, .ref (ad Γ o)), (1, .int st.1), (2, .int st.2.1), (3, .int st.2.2.1)] [] (ug G o st.2.2.2)) (fun x => x = fin))) q) : Wk p l e { frames := 3, cells := 0, slots := 0, locals := 65 } s m args below meth c Γ A (ug G o fin.1) (some (.int fin.2)) 29 7 [(0, .ref (ad Γ o)), (1, .int v1), (2, .int v2), (3, .int v3), (4, .int v4), (5, .int v5)] [] (ug G o r) := by
  intro H locs ls hw hS hl
  unfold bX10_ask_29 at hf
  obtain ⟨hx, hb, hml, hr, hown, htw, hlocks, hE⟩ := id C
  have hown : s.vm.findClass RX10 = some m.cls := hown
  refine lv_iload hx hb dX10_ask_29 (lv_at hl 5 rfl) ?_
  refine lv_bipush (v := 60) hx hb dX10_ask_31 (by decide) ?_
  refine lv_icmp_gt (tgt := 50) hx hb dX10_ask_33 (by decide) (fun c15 => ?_) (fun c15 => ?_)
  · have hf := ifp c15 hf
    obtain ⟨q12, hfq12, eq12⟩ := out1_some hf
    subst eq12
    have hf := hfq12
    have hq := hq.2 _ rfl
    exact wX10_ask_50 C hk hf hq H locs ls hw hS (lv_sub hl [0, 1, 2, 3, 4] rfl)
  · have hf := ifn c15 hf
    refine lv_aload_n hx hb dX10_ask_36 rfl (lv_at hl 0 rfl) ?_
    refine va_get (ci := 10) (v := .ref (aa Γ o 44)) (C := RX10) (T := TX10) (N := 49) hx hb htw uwX10 hown hE.1 (wo_me hw hk) 0 rfl rfl 44 (by decide) (htw _ mw1287) (fun _ h9 => h9) rfl dX10_ask_37 ?_
    refine lv_iload hx hb dX10_ask_40 (lv_at hl 5 rfl) ?_
    refine lv_iconst (v := 0) hx hb dX10_ask_42 (by decide) ?_
    obtain ⟨g13, hf⟩ := gd_some hf
    obtain ⟨r14, hr14, hf⟩ := bd hf
    have hr14 := Option.some.inj hr14
    refine wo_iast hx hb hE hw hS hk (q0 := 21) rfl (inR_in g13) (sa10_44 hr14) dX10_ask_43 (fun H locs hw hS => ?_)
    refine lv_iinc (v := v5 + 1) (lv' := [(5, .int (v5 + 1)), (0, .ref (ad Γ o)), (1, .int v1), (2, .int v2), (3, .int v3), (4, .int v4)]) hx hb dX10_ask_44 hl (k := 5) rfl (by rfl) (by decide) rfl (fun ls hl => ?_)
    refine lv_goto (tgt := 29) hx hb dX10_ask_47 (by decide) ?_
    obtain rfl := Option.some.inj hf
    exact hq.1 _ rfl H locs ls hw hS (lv_sub hl [1, 2, 3, 4, 5, 0] rfl)

set_option maxRecDepth 100000 in
set_option maxHeartbeats 4000000 in
theorem lwX10_ask_29 {p : Program} {l : Launch} {e : Env} {s : State} {m : MethodId} {args : Array Value} {below : List Frame} {meth : Method} {c : Code} {Γ : Gm} {A : Nat → Prop} {G : Gs} {o : Nat} {r : Rec} {v1 : Int32} {v2 : Int32} {v3 : Int32} {v4 : Int32} {v5 : Int32} {q : ((Int32 × Int32 × Int32 × Rec) ⊕ (Rec × Int32))} {fin : Rec × Int32} (C : Cx p s m args meth c yX10_ask cX10_ask 7 (some .int) Γ A) (hk : kd Γ o = some 10) (hf : iter (fun st : Int32 × Rec => bX10_ask_29 st.2 v1 v2 v3 v4 st.1) (v5, r) = some q) (hq : (KC (fun st : Int32 × Int32 × Int32 × Rec => Wk p l e { frames := 3, cells := 0, slots := 0, locals := 65 } s m args below meth c Γ A (ug G o fin.1) (some (.int fin.2)) 8 7 [(0, .ref (ad Γ o)), (1, .int st.1), (2, .int st.2.1), (3, .int st.2.2.1)] [] (ug G o st.2.2.2)) (fun x => x = fin)) q) : Wk p l e { frames := 3, cells := 0, slots := 0, locals := 65 } s m args below meth c Γ A (ug G o fin.1) (some (.int fin.2)) 29 7 [(0, .ref (ad Γ o)), (1, .int v1), (2, .int v2), (3, .int v3), (4, .int v4), (5, .int v5)] [] (ug G o r) := by
  intro H locs ls hw hS hl
  refine iter_walk (P := (fun st : Int32 × Rec => Wk p l e { frames := 3, cells := 0, slots := 0, locals := 65 } s m args below meth c Γ A (ug G o fin.1) (some (.int fin.2)) 29 7 [(0, .ref (ad Γ o)), (1, .int v1), (2, .int v2), (3, .int v3), (4, .int v4), (5, .int st.1)] [] (ug G o st.2))) (K := (KC (fun st : Int32 × Int32 × Int32 × Rec => Wk p l e { frames := 3, cells := 0, slots := 0, locals := 65 } s m args below meth c Γ A (ug G o fin.1) (some (.int fin.2)) 8 7 [(0, .ref (ad Γ o)), (1, .int st.1), (2, .int st.2.1), (3, .int st.2.2.1)] [] (ug G o st.2.2.2)) (fun x => x = fin))) (fun st q hq1 h1 h2 => ?_) hf hq H locs ls hw hS hl
  exact wX10_ask_29 (r := st.2) (v5 := st.1) C hk hq1 ⟨h1, h2⟩

noncomputable def bX10_ask_8 (r : Rec) (v1 : Int32) (v2 : Int32) (v3 : Int32) : Option ((Int32 × Int32 × Int32 × Rec) ⊕ (Rec × Int32)) :=
  if (gi r 26) ≤ v3 then some (.inr ((r, v1))) else if (gi r 43) ≤ 0 then some (.inr ((r, v1))) else iter (fun st : Int32 × Rec => bX10_ask_29 st.2 v1 v2 v3 0 st.1) (0, r)
set_option maxRecDepth 100000 in
set_option maxHeartbeats 4000000 in
theorem wX10_ask_8 {p : Program} {l : Launch} {e : Env} {s : State} {m : MethodId} {args : Array Value} {below : List Frame} {meth : Method} {c : Code} {Γ : Gm} {A : Nat → Prop} {G : Gs} {o : Nat} {r : Rec} {v1 : Int32} {v2 : Int32} {v3 : Int32} {q : ((Int32 × Int32 × Int32 × Rec) ⊕ (Rec × Int32))} {fin : Rec × Int32} (C : Cx p s m args meth c yX10_ask cX10_ask 7 (some .int) Γ A) (hk : kd Γ o = some 10) (hf : bX10_ask_8 r v1 v2 v3 = some q) (hq : (KC (fun st : Int32 × Int32 × Int32 × Rec => Wk p l e { frames := 3, cells := 0, slots := 0, locals := 65 } s m args below meth c Γ A (ug G o fin.1) (some (.int fin.2)) 8 7 [(0, .ref (ad Γ o)), (1, .int st.1), (2, .int st.2.1), (3, .int st.2.2.1)] [] (ug G o st.2.2.2)) (fun x => x = fin)) q) : Wk p l e { frames := 3, cells := 0, slots := 0, locals := 65 } s m args below meth c Γ A (ug G o fin.1) (some (.int fin.2)) 8 7 [(0, .ref (ad Γ o)), (1, .int v1), (2, .int v2), (3, .int v3)] [] (ug G o r) := by
  intro H locs ls hw hS hl
  unfold bX10_ask_8 at hf
  obtain ⟨hx, hb, hml, hr, hown, htw, hlocks, hE⟩ := id C
  have hown : s.vm.findClass RX10 = some m.cls := hown
  refine lv_iload_n hx hb dX10_ask_8 rfl (lv_at hl 3 rfl) ?_
  refine lv_aload_n hx hb dX10_ask_9 rfl (lv_at hl 0 rfl) ?_
  refine va_get (ci := 10) (v := .int (gi r 26)) (C := RX10) (T := TX10) (N := 49) hx hb htw uwX10 hown hE.1 (wo_me hw hk) 0 rfl rfl 26 (by decide) (htw _ mw1269) (fun _ h9 => h9) rfl dX10_ask_10 ?_
  refine lv_icmp_ge (tgt := 132) hx hb dX10_ask_13 (by decide) (fun c17 => ?_) (fun c17 => ?_)
  · have hf := ifp c17 hf
    refine lv_iload_n hx hb dX10_ask_132 rfl (lv_at hl 1 rfl) ?_
    obtain rfl := Option.some.inj hf
    have hq := hq.2 _ rfl
    subst hq
    exact rt_i C hw hS dX10_ask_133
  · have hf := ifn c17 hf
    refine lv_aload_n hx hb dX10_ask_16 rfl (lv_at hl 0 rfl) ?_
    refine va_get (ci := 10) (v := .int (gi r 43)) (C := RX10) (T := TX10) (N := 49) hx hb htw uwX10 hown hE.1 (wo_me hw hk) 0 rfl rfl 43 (by decide) (htw _ mw1286) (fun _ h9 => h9) rfl dX10_ask_17 ?_
    refine lv_if_le (tgt := 132) hx hb dX10_ask_20 (by decide) (fun c16 => ?_) (fun c16 => ?_)
    · have hf := ifp c16 hf
      refine lv_iload_n hx hb dX10_ask_132 rfl (lv_at hl 1 rfl) ?_
      obtain rfl := Option.some.inj hf
      have hq := hq.2 _ rfl
      subst hq
      exact rt_i C hw hS dX10_ask_133
    · have hf := ifn c16 hf
      refine lv_iconst (v := 0) hx hb dX10_ask_23 (by decide) ?_
      refine lv_istore (lv' := [(4, .int 0), (0, .ref (ad Γ o)), (1, .int v1), (2, .int v2), (3, .int v3)]) hx hb dX10_ask_24 hl (by decide) rfl (fun ls hl => ?_)
      refine lv_iconst (v := 0) hx hb dX10_ask_26 (by decide) ?_
      refine lv_istore (lv' := [(5, .int 0), (4, .int 0), (0, .ref (ad Γ o)), (1, .int v1), (2, .int v2), (3, .int v3)]) hx hb dX10_ask_27 hl (by decide) rfl (fun ls hl => ?_)
      exact lwX10_ask_29 C hk hf hq H locs ls hw hS (lv_sub hl [2, 3, 4, 5, 1, 0] rfl)

set_option maxRecDepth 100000 in
set_option maxHeartbeats 4000000 in
theorem lwX10_ask_8 {p : Program} {l : Launch} {e : Env} {s : State} {m : MethodId} {args : Array Value} {below : List Frame} {meth : Method} {c : Code} {Γ : Gm} {A : Nat → Prop} {G : Gs} {o : Nat} {r : Rec} {v1 : Int32} {v2 : Int32} {v3 : Int32} {q : (Rec × Int32)} {fin : Rec × Int32} (C : Cx p s m args meth c yX10_ask cX10_ask 7 (some .int) Γ A) (hk : kd Γ o = some 10) (hf : iter (fun st : Int32 × Int32 × Int32 × Rec => bX10_ask_8 st.2.2.2 st.1 st.2.1 st.2.2.1) (v1, v2, v3, r) = some q) (hq : (fun x => x = fin) q) : Wk p l e { frames := 3, cells := 0, slots := 0, locals := 65 } s m args below meth c Γ A (ug G o fin.1) (some (.int fin.2)) 8 7 [(0, .ref (ad Γ o)), (1, .int v1), (2, .int v2), (3, .int v3)] [] (ug G o r) := by
  intro H locs ls hw hS hl
  refine iter_walk (P := (fun st : Int32 × Int32 × Int32 × Rec => Wk p l e { frames := 3, cells := 0, slots := 0, locals := 65 } s m args below meth c Γ A (ug G o fin.1) (some (.int fin.2)) 8 7 [(0, .ref (ad Γ o)), (1, .int st.1), (2, .int st.2.1), (3, .int st.2.2.1)] [] (ug G o st.2.2.2))) (K := (fun x => x = fin)) (fun st q hq1 h1 h2 => ?_) hf hq H locs ls hw hS hl
  exact wX10_ask_8 (r := st.2.2.2) (v1 := st.1) (v2 := st.2.1) (v3 := st.2.2.1) C hk hq1 ⟨h1, h2⟩

noncomputable def fX10_ask (r : Rec) : Option (Rec × Int32) :=
  iter (fun st : Int32 × Int32 × Int32 × Rec => bX10_ask_8 st.2.2.2 st.1 st.2.1 st.2.2.1) ((-1), 1000000, 0, r)
set_option maxRecDepth 100000 in
set_option maxHeartbeats 4000000 in
theorem wX10_ask_e {p : Program} {l : Launch} {e : Env} {s : State} {m : MethodId} {args : Array Value} {below : List Frame} {meth : Method} {c : Code} {Γ : Gm} {A : Nat → Prop} {G : Gs} {o : Nat} {r : Rec} {q : (Rec × Int32)} {fin : Rec × Int32} (C : Cx p s m args meth c yX10_ask cX10_ask 7 (some .int) Γ A) (hk : kd Γ o = some 10) (hf : fX10_ask r = some q) (hq : (fun x => x = fin) q) : Wk p l e { frames := 3, cells := 0, slots := 0, locals := 65 } s m args below meth c Γ A (ug G o fin.1) (some (.int fin.2)) 0 7 [(0, .ref (ad Γ o))] [] (ug G o r) := by
  intro H locs ls hw hS hl
  unfold fX10_ask at hf
  obtain ⟨hx, hb, hml, hr, hown, htw, hlocks, hE⟩ := id C
  have hown : s.vm.findClass RX10 = some m.cls := hown
  refine lv_iconst (v := (-1)) hx hb dX10_ask_0 (by decide) ?_
  refine lv_istore_n (lv' := [(1, .int (-1)), (0, .ref (ad Γ o))]) hx hb dX10_ask_1 rfl hl (by decide) rfl (fun ls hl => ?_)
  refine lv_ldcw hx hb hown (htw _ mw1676) dX10_ask_2 ?_
  refine lv_istore_n (lv' := [(2, .int 1000000), (1, .int (-1)), (0, .ref (ad Γ o))]) hx hb dX10_ask_5 rfl hl (by decide) rfl (fun ls hl => ?_)
  refine lv_iconst (v := 0) hx hb dX10_ask_6 (by decide) ?_
  refine lv_istore_n (lv' := [(3, .int 0), (2, .int 1000000), (1, .int (-1)), (0, .ref (ad Γ o))]) hx hb dX10_ask_7 rfl hl (by decide) rfl (fun ls hl => ?_)
  exact lwX10_ask_8 C hk hf hq H locs ls hw hS (lv_sub hl [3, 2, 1, 0] rfl)

theorem kX10_ask {l : Launch} {Γ : Gm} {A : Nat → Prop} {G : Gs} {o : Nat} {r : Rec} {fin : Rec × Int32} (hk : kd Γ o = some 10) (hf : fX10_ask r = some fin) : Kt l yX10_ask cX10_ask 7 (some .int) 3 65 Γ A (ug G o r) (ug G o fin.1) [.ref (ad Γ o)] (some (.int fin.2)) :=
  kt_of (by decide) (Nat.le_of_ble_eq_true rfl) (fun p e s m args below meth c C => wX10_ask_e C hk hf rfl)
theorem kgX10_ask {l : Launch} {Γ : Gm} {A : Nat → Prop} {G : Gs} {o : Nat} {fin : Rec × Int32} (hk : kd Γ o = some 10) (hf : fX10_ask (G o) = some fin) : Kt l yX10_ask cX10_ask 7 (some .int) 3 65 Γ A G (ug G o fin.1) [.ref (ad Γ o)] (some (.int fin.2)) := by
  have h := kX10_ask (l := l) (A := A) (G := G) (r := G o) hk hf
  rw [ug_self] at h
  exact h
